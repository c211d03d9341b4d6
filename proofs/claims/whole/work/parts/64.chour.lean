/-! THE CLASS: the hour is the reference's; drawing -/
/-- roads below k are through -/
def hC (cd : List (Int × Int)) (rd : Int → Int) (nC : Int) (s : Int → Int) (k j : Int) : Int :=
  if j = 49 then s 49 + sumZ (fun c => if s (34 + c) < k ∧ comes cd rd nC s c then 1 else 0) nC.toNat
  else if 12 ≤ j ∧ j < 12 + k then (if rst s (j - 12) then 0 else s j + (if onB nC s (j - 12) = 0 then 0 else 1))
  else if 34 ≤ j ∧ j < 34 + nC ∧ s j < k then (if comes cd rd nC s (j - 34) then -1 else s j)
  else if 39 ≤ j ∧ j < 39 + nC ∧ s (34 + (j - 39)) < k then gonF cd rd nC s (j - 39)
  else s j
theorem hC_un (cd : List (Int × Int)) (rd : Int → Int) {nC : Int} (s : Int → Int) {k j : Int} (hk : 0 ≤ k ∧ k ≤ 12) (hC5 : nC ≤ 5) (h : j < 12 ∨ (24 ≤ j ∧ j < 34) ∨ (44 ≤ j ∧ j < 49) ∨ j = 50) : hC cd rd nC s k j = s j := by
  unfold hC
  rw [if_neg (by omega), if_neg (by omega), if_neg (fun z => by have := z.1; have := z.2.1; omega), if_neg (fun z => by have := z.1; have := z.2.1; omega)]
theorem hC_34 (cd : List (Int × Int)) (rd : Int → Int) {nC : Int} (s : Int → Int) {k c : Int} (hk : 0 ≤ k ∧ k ≤ 12) (hc : 0 ≤ c ∧ c < nC) (hC5 : nC ≤ 5) : hC cd rd nC s k (34 + c) = if s (34 + c) < k then (if comes cd rd nC s c then -1 else s (34 + c)) else s (34 + c) := by
  unfold hC
  rw [if_neg (by omega), if_neg (by omega), show 34 + c - 34 = c by omega]
  by_cases h : s (34 + c) < k
  · rw [if_pos (show 34 ≤ 34 + c ∧ 34 + c < 34 + nC ∧ s (34 + c) < k from ⟨by omega, by omega, h⟩), if_pos h]
  · rw [if_neg (fun z => h z.2.2), if_neg h, if_neg (fun z => by have := z.1; omega)]
theorem hC_39 (cd : List (Int × Int)) (rd : Int → Int) {nC : Int} (s : Int → Int) {k c : Int} (hk : 0 ≤ k ∧ k ≤ 12) (hc : 0 ≤ c ∧ c < nC) (hC5 : nC ≤ 5) : hC cd rd nC s k (39 + c) = if s (34 + c) < k then gonF cd rd nC s c else s (39 + c) := by
  unfold hC
  rw [if_neg (by omega), if_neg (by omega), if_neg (fun z => by have := z.2.1; omega), show 39 + c - 39 = c by omega]
  by_cases h : s (34 + c) < k
  · rw [if_pos (show 39 ≤ 39 + c ∧ 39 + c < 39 + nC ∧ s (34 + c) < k from ⟨by omega, by omega, h⟩), if_pos h]
  · rw [if_neg (fun z => h z.2.2), if_neg h]
/-- on the next road stand those who stood there -/
theorem hC_on (cd : List (Int × Int)) (rd : Int → Int) {nC : Int} (s : Int → Int) {k c : Int} (hk : 0 ≤ k ∧ k ≤ 12) (hc : 0 ≤ c ∧ c < nC) (hC5 : nC ≤ 5) (hon : -1 ≤ s (34 + c)) : hC cd rd nC s k (34 + c) = k ↔ s (34 + c) = k := by
  rw [hC_34 cd rd s hk hc hC5]
  by_cases h : s (34 + c) < k
  · rw [if_pos h]
    by_cases h2 : comes cd rd nC s c
    · rw [if_pos h2]
      omega
    · rw [if_neg h2]
  · rw [if_neg h]
theorem hC_load (cd : List (Int × Int)) (rd : Int → Int) {nC : Int} (s : Int → Int) {k : Int} (hk : 0 ≤ k ∧ k ≤ 12) (hC0 : 0 ≤ nC ∧ nC ≤ 5) (hon : ∀ c, 0 ≤ c → c < nC → -1 ≤ s (34 + c)) : onB nC (hC cd rd nC s k) k = onB nC s k ∧ loadOn nC (hC cd rd nC s k) k = loadOn nC s k ∧ manyOn nC (hC cd rd nC s k) k = manyOn nC s k := by
  refine ⟨bits_congr _ (fun c c1 c2 => ?_), sumZ_congr _ (fun c c1 c2 => ?_), sumZ_congr _ (fun c c1 c2 => ?_)⟩
  · have := hC_on cd rd s hk ⟨c1, (by omega : c < nC)⟩ hC0.2 (hon c c1 (by omega))
    by_cases h : s (34 + c) = k
    · rw [decide_eq_true (this.mpr h), decide_eq_true h]
    · rw [decide_eq_false (fun z => h (this.mp z)), decide_eq_false h]
  · have := hC_on cd rd s hk ⟨c1, (by omega : c < nC)⟩ hC0.2 (hon c c1 (by omega))
    show (if hC cd rd nC s k (34 + c) = k then hC cd rd nC s k (44 + c) else 0) = (if s (34 + c) = k then s (44 + c) else 0)
    rw [hC_un cd rd s (j := 44 + c) hk hC0.2 (by omega)]
    by_cases h : s (34 + c) = k
    · rw [if_pos (this.mpr h), if_pos h]
    · rw [if_neg (fun z => h (this.mp z)), if_neg h]
  · have := hC_on cd rd s hk ⟨c1, (by omega : c < nC)⟩ hC0.2 (hon c c1 (by omega))
    show (if hC cd rd nC s k (34 + c) = k then (1 : Int) else 0) = (if s (34 + c) = k then 1 else 0)
    by_cases h : s (34 + c) = k
    · rw [if_pos (this.mpr h), if_pos h]
    · rw [if_neg (fun z => h (this.mp z)), if_neg h]
theorem hC_rst (cd : List (Int × Int)) (rd : Int → Int) {nC : Int} (s : Int → Int) {k : Int} (hk : 0 ≤ k ∧ k < 12) (hC5 : nC ≤ 5) : rst (hC cd rd nC s k) k ↔ rst s k := by
  unfold rst
  rw [hC_un cd rd s (by omega) hC5 (by omega), hC_un cd rd s (by omega) hC5 (Or.inr (Or.inr (Or.inr rfl)))]
theorem hC_p (cd : List (Int × Int)) (rd : Int → Int) {nC : Int} (s : Int → Int) {k : Int} (hk : 0 ≤ k ∧ k < 12) (hC0 : 0 ≤ nC ∧ nC ≤ 5) (hon : ∀ c, 0 ≤ c → c < nC → -1 ≤ s (34 + c)) : pBy cd rd nC (hC cd rd nC s k) k = pBy cd rd nC s k := by
  obtain ⟨h1, h2, h3⟩ := hC_load cd rd s (k := k) (by omega) hC0 hon
  unfold pBy onPace
  have e12 : hC cd rd nC s k (12 + k) = s (12 + k) := by
    unfold hC
    rw [if_neg (by omega), if_neg (by omega), if_neg (fun z => by have := z.1; omega), if_neg (fun z => by have := z.1; omega)]
  by_cases h : rst s k
  · rw [if_pos ((hC_rst cd rd s hk hC0.2).mpr h), if_pos h]
  · rw [if_neg (fun z => h ((hC_rst cd rd s hk hC0.2).mp z)), if_neg h, h2, h3, e12, hC_un cd rd s (by omega) hC0.2 (Or.inr (Or.inr (Or.inr rfl)))]
theorem hC_comes (cd : List (Int × Int)) (rd : Int → Int) {nC : Int} (s : Int → Int) {k c : Int} (hk : 0 ≤ k ∧ k < 12) (hC0 : 0 ≤ nC ∧ nC ≤ 5) (hon : ∀ c, 0 ≤ c → c < nC → -1 ≤ s (34 + c)) (hc : 0 ≤ c ∧ c < nC) (h : s (34 + c) = k) : (comes cd rd nC (hC cd rd nC s k) c ↔ comes cd rd nC s c) ∧ gonF cd rd nC (hC cd rd nC s k) c = gonF cd rd nC s c := by
  have e34 : hC cd rd nC s k (34 + c) = k := (hC_on cd rd s (by omega) hc hC0.2 (hon c hc.1 hc.2)).mpr h
  have e39 : hC cd rd nC s k (39 + c) = s (39 + c) := by
    rw [hC_39 cd rd s (by omega) hc hC0.2, if_neg (by omega)]
  have ep := hC_p cd rd s hk hC0 hon
  have er := hC_rst cd rd (nC := nC) s hk hC0.2
  have e1 : comes cd rd nC (hC cd rd nC s k) c ↔ comes cd rd nC s c := by
    unfold comes
    rw [e34, e39, h, ep, er]
  refine ⟨e1, ?_⟩
  unfold gonF
  by_cases q : comes cd rd nC s c
  · rw [if_pos (e1.mpr q), if_pos q]
  · rw [if_neg (fun z => q (e1.mp z)), if_neg q]
    simp only [e34, e39, h, ep, er]
/-- the places that count, one road further -/
theorem hC_step (cd : List (Int × Int)) (rd : Int → Int) {nR nC : Int} (s : Int → Int) {k : Int} (hk : 0 ≤ k ∧ k < nR) (hR : nR ≤ 12) (hC0 : 0 ≤ nC ∧ nC ≤ 5) (hon : ∀ c, 0 ≤ c → c < nC → -1 ≤ s (34 + c)) {j : Int} (hj : Vd nR nC j) : passF cd rd nC (hC cd rd nC s k) k j = hC cd rd nC s (k + 1) j := by
  have hk12 : 0 ≤ k ∧ k < 12 := by omega
  have hb := (hC_load cd rd s (k := k) (by omega) hC0 hon).1
  unfold passF
  by_cases j1 : j = 12 + k
  · subst j1
    rw [if_pos rfl, hb]
    have e12 : hC cd rd nC s k (12 + k) = s (12 + k) := by
      unfold hC
      rw [if_neg (by omega), if_neg (by omega), if_neg (fun z => by have := z.1; omega), if_neg (fun z => by have := z.1; omega)]
    rw [e12]
    have er := hC_rst cd rd (nC := nC) s hk12 hC0.2
    have e13 : hC cd rd nC s (k + 1) (12 + k) = if rst s k then 0 else s (12 + k) + (if onB nC s k = 0 then 0 else 1) := by
      unfold hC
      rw [if_neg (by omega), if_pos (show 12 ≤ 12 + k ∧ 12 + k < 12 + (k + 1) by omega), show 12 + k - 12 = k by omega]
    rw [e13]
    by_cases q : rst s k
    · rw [if_pos (er.mpr q), if_pos q]
    · rw [if_neg (fun z => q (er.mp z)), if_neg q]
  rw [if_neg j1]
  by_cases j2 : j = 49
  · subst j2
    rw [if_pos rfl]
    show (s 49 + sumZ _ nC.toNat) + sumZ _ nC.toNat = s 49 + sumZ _ nC.toNat
    rw [Int.add_assoc]
    congr 1
    have : ∀ n : Nat, (n : Int) ≤ nC → sumZ (fun c => if s (34 + c) < k ∧ comes cd rd nC s c then (1 : Int) else 0) n + sumZ (fun c => if hC cd rd nC s k (34 + c) = k ∧ comes cd rd nC (hC cd rd nC s k) c then (1 : Int) else 0) n = sumZ (fun c => if s (34 + c) < k + 1 ∧ comes cd rd nC s c then (1 : Int) else 0) n := by
      intro n
      induction n with
      | zero => intro _; rfl
      | succ n ih =>
        intro hn
        have ih := ih (by omega)
        have e8 : ∀ f : Int → Int, sumZ f (n + 1) = sumZ f n + f n := fun _ => rfl
        rw [e8, e8, e8, ← ih]
        have e5 := hC_on cd rd s (k := k) (c := (n : Int)) (by omega) ⟨by omega, by omega⟩ hC0.2 (hon n (by omega) (by omega))
        have e6 : (if s (34 + (n : Int)) < k ∧ comes cd rd nC s n then (1 : Int) else 0) + (if hC cd rd nC s k (34 + (n : Int)) = k ∧ comes cd rd nC (hC cd rd nC s k) n then (1 : Int) else 0) = (if s (34 + (n : Int)) < k + 1 ∧ comes cd rd nC s n then (1 : Int) else 0) := by
          by_cases q : s (34 + (n : Int)) = k
          · have e7 := (hC_comes cd rd s hk12 hC0 hon (c := (n : Int)) ⟨by omega, by omega⟩ q).1
            rw [if_neg (show ¬ (s (34 + (n : Int)) < k ∧ comes cd rd nC s n) from fun z => by have := z.1; omega)]
            by_cases q2 : comes cd rd nC s n
            · rw [if_pos ⟨e5.mpr q, e7.mpr q2⟩, if_pos ⟨by omega, q2⟩, Int.zero_add]
            · rw [if_neg (fun z => q2 (e7.mp z.2)), if_neg (fun z => q2 z.2), Int.add_zero]
          · rw [if_neg (show ¬ (hC cd rd nC s k (34 + (n : Int)) = k ∧ comes cd rd nC (hC cd rd nC s k) n) from fun z => q (e5.mp z.1)), Int.add_zero]
            by_cases q2 : s (34 + (n : Int)) < k ∧ comes cd rd nC s n
            · rw [if_pos q2, if_pos ⟨by have := q2.1; omega, q2.2⟩]
            · rw [if_neg q2, if_neg (fun z => q2 ⟨by have := z.1; omega, z.2⟩)]
        rw [← e6]
        omega
    exact this nC.toNat (by omega)
  rw [if_neg j2]
  by_cases j3 : 34 ≤ j ∧ j < 34 + nC
  · obtain ⟨c, rfl⟩ : ∃ c, j = 34 + c := ⟨j - 34, by omega⟩
    have hc : 0 ≤ c ∧ c < nC := by omega
    have e5 := hC_on cd rd s (k := k) (c := c) (by omega) hc hC0.2 (hon c hc.1 hc.2)
    rw [show 34 + c - 34 = c by omega, hC_34 cd rd s (k := k + 1) (by omega) hc hC0.2]
    by_cases q : s (34 + c) = k
    · have e7 := (hC_comes cd rd s hk12 hC0 hon hc q).1
      rw [if_pos ⟨j3.1, j3.2, e5.mpr q⟩, if_pos (show s (34 + c) < k + 1 by omega)]
      by_cases q2 : comes cd rd nC s c
      · rw [if_pos (e7.mpr q2), if_pos q2]
      · rw [if_neg (fun z => q2 (e7.mp z)), if_neg q2, e5.mpr q, q]
    · rw [if_neg (fun z => q (e5.mp z.2.2)), if_neg (show ¬ (39 ≤ 34 + c ∧ 34 + c < 39 + nC ∧ _) from fun z => by have := z.1; omega), hC_34 cd rd s (by omega) hc hC0.2]
      by_cases q2 : s (34 + c) < k
      · rw [if_pos q2, if_pos (show s (34 + c) < k + 1 by omega)]
      · rw [if_neg q2, if_neg (show ¬ s (34 + c) < k + 1 by omega)]
  rw [if_neg (fun z => j3 ⟨z.1, z.2.1⟩)]
  by_cases j4 : 39 ≤ j ∧ j < 39 + nC
  · obtain ⟨c, rfl⟩ : ∃ c, j = 39 + c := ⟨j - 39, by omega⟩
    have hc : 0 ≤ c ∧ c < nC := by omega
    have e5 := hC_on cd rd s (k := k) (c := c) (by omega) hc hC0.2 (hon c hc.1 hc.2)
    rw [show 39 + c - 39 = c by omega, hC_39 cd rd s (k := k + 1) (by omega) hc hC0.2]
    by_cases q : s (34 + c) = k
    · rw [if_pos ⟨j4.1, j4.2, e5.mpr q⟩, if_pos (show s (34 + c) < k + 1 by omega)]
      exact (hC_comes cd rd s hk12 hC0 hon hc q).2
    · rw [if_neg (fun z => q (e5.mp z.2.2)), hC_39 cd rd s (by omega) hc hC0.2]
      by_cases q2 : s (34 + c) < k
      · rw [if_pos q2, if_pos (show s (34 + c) < k + 1 by omega)]
      · rw [if_neg q2, if_neg (show ¬ s (34 + c) < k + 1 by omega)]
  rw [if_neg (fun z => j4 ⟨z.1, z.2.1⟩)]
  have e10 : ∀ x, hC cd rd nC s x j = if 12 ≤ j ∧ j < 12 + x then (if rst s (j - 12) then 0 else s j + (if onB nC s (j - 12) = 0 then 0 else 1)) else s j := fun x => by
    unfold hC
    rw [if_neg j2]
    by_cases j5 : 12 ≤ j ∧ j < 12 + x
    · rw [if_pos j5, if_pos j5]
    · rw [if_neg j5, if_neg j5, if_neg (fun z => j3 ⟨z.1, z.2.1⟩), if_neg (fun z => j4 ⟨z.1, z.2.1⟩)]
  rw [e10, e10]
  by_cases j5 : 12 ≤ j ∧ j < 12 + k
  · rw [if_pos j5, if_pos (show 12 ≤ j ∧ j < 12 + (k + 1) by omega)]
  · rw [if_neg j5, if_neg (show ¬ (12 ≤ j ∧ j < 12 + (k + 1)) by omega)]
theorem hC_zero (cd : List (Int × Int)) (rd : Int → Int) {nC : Int} (s : Int → Int) (hC0 : 0 ≤ nC ∧ nC ≤ 5) (hon : ∀ c, 0 ≤ c → c < nC → -1 ≤ s (34 + c)) (j : Int) : hC cd rd nC s 0 j = s j := by
  have nc : ∀ c, 0 ≤ c → c < nC → s (34 + c) < 0 → ¬ comes cd rd nC s c := fun c c1 c2 h z => z.1 (by have := hon c c1 c2; omega)
  unfold hC
  by_cases j1 : j = 49
  · subst j1
    rw [if_pos rfl, sumZ_congr (g := fun _ => 0) nC.toNat (fun c c1 c2 => by
      show (if s (34 + c) < 0 ∧ comes cd rd nC s c then (1 : Int) else 0) = 0
      rw [if_neg (fun z => nc c c1 (by omega) z.1 z.2)])]
    have := sumZ_r (f := fun _ => (0 : Int)) (a := 0) (b := 0) nC.toNat (fun _ _ _ => ⟨Int.le_refl _, Int.le_refl _⟩)
    omega
  · rw [if_neg j1, if_neg (by omega)]
    split
    · next z => rw [if_neg (nc (j - 34) (by have := z.1; omega) (by have := z.2.1; omega) (by rw [show 34 + (j - 34) = j by omega]; exact z.2.2))]
    · split
      · next z =>
        have z1 := z.1
        have z2 := z.2.1
        unfold gonF
        rw [if_neg (nc (j - 39) (by omega) (by omega) z.2.2), if_neg (fun y => y.1 (by have := hon (j - 39) (by omega) (by omega); have := z.2.2; omega)), show 39 + (j - 39) = j by omega]
      · rfl
theorem hC_end (cd : List (Int × Int)) (rd : Int → Int) {nR nC : Int} (s : Int → Int) (hR : 0 ≤ nR ∧ nR ≤ 12) (hC0 : 0 ≤ nC ∧ nC ≤ 5) (hon : ∀ c, 0 ≤ c → c < nC → s (34 + c) < nR) {j : Int} (hj : j ≠ 50) : hC cd rd nC s nR j = hourF cd rd nR nC s j := by
  rw [hourF_eq cd rd s hR hC0, if_neg hj]
  unfold hC h3 tirF
  by_cases j1 : j = 49
  · subst j1
    rw [if_pos rfl, if_pos rfl]
    unfold cameN
    rw [sumZ_congr (g := fun c => if comes cd rd nC s c then 1 else 0) nC.toNat (fun c c1 c2 => by
      show (if s (34 + c) < nR ∧ comes cd rd nC s c then (1 : Int) else 0) = (if comes cd rd nC s c then 1 else 0)
      by_cases q : comes cd rd nC s c
      · rw [if_pos ⟨hon c c1 (by omega), q⟩, if_pos q]
      · rw [if_neg (fun z => q z.2), if_neg q])]
  rw [if_neg j1, if_neg j1]
  by_cases j2 : 34 ≤ j ∧ j < 34 + nC
  · rw [if_neg (by omega), if_pos j2, if_pos ⟨j2.1, j2.2, by have := hon (j - 34) (by omega) (by omega); rw [show 34 + (j - 34) = j by omega] at this; exact this⟩]
  rw [if_neg j2, if_neg (show ¬ (34 ≤ j ∧ j < 34 + nC ∧ s j < nR) from fun z => j2 ⟨z.1, z.2.1⟩)]
  by_cases j3 : 39 ≤ j ∧ j < 39 + nC
  · rw [if_neg (by omega), if_pos j3, if_pos ⟨j3.1, j3.2, hon (j - 39) (by omega) (by omega)⟩]
  rw [if_neg j3, if_neg (show ¬ (39 ≤ j ∧ j < 39 + nC ∧ _) from fun z => j3 ⟨z.1, z.2.1⟩)]
theorem CS_congr {nR nC : Int} {S : Hp} {o : Nat} {s s' : Int → Int} (h : CS nR nC S o s) (e : ∀ j, Vd nR nC j → s j = s' j) : CS nR nC S o s' := by
  obtain ⟨h1, h2, h3, h4⟩ := h
  refine ⟨fun r r1 r2 => ?_, fun c c1 c2 => ?_, by rw [← e 50 (by unfold Vd; omega)]; exact h3, by rw [← e 49 (by unfold Vd; omega)]; exact h4⟩
  · rw [← e r (by unfold Vd; omega), ← e (12 + r) (by unfold Vd; omega)]
    exact h1 r r1 r2
  · rw [← e (24 + c) (by unfold Vd; omega), ← e (29 + c) (by unfold Vd; omega), ← e (34 + c) (by unfold Vd; omega), ← e (39 + c) (by unfold Vd; omega), ← e (44 + c) (by unfold Vd; omega)]
    exact h2 c c1 c2
