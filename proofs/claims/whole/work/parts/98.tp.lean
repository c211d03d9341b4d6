/-! BOTH TAPES over heaps of Ints: where one stands, what a fault is -/
def tS (S : Hp) (p tok val fk fa : Int) : Hp := uS (uS (uS (uS (uS S 1 3 p) 1 4 tok) 1 5 val) 1 6 fk) 1 7 fa
theorem hI_tS (S : Hp) (p tok val fk fa : Int) : tI (hI S) p tok val fk fa = hI (tS S p tok val fk fa) := by
  unfold tI tS
  rw [show (3 : Nat) = (3 : Int).toNat from rfl, hI_un _ _ _ (by decide), show (4 : Nat) = (4 : Int).toNat from rfl, hI_un _ _ _ (by decide), show (5 : Nat) = (5 : Int).toNat from rfl, hI_un _ _ _ (by decide), show (6 : Nat) = (6 : Int).toNat from rfl, hI_un _ _ _ (by decide), show (7 : Nat) = (7 : Int).toNat from rfl, hI_un _ _ _ (by decide)]
theorem uS_same (S : Hp) {o : Nat} {a v : Int} (h : S o a = v) : uS S o a v = S := by
  funext o' a'
  rw [uS_at]
  by_cases e : o' = o ∧ a' = a
  · rw [if_pos e, e.1, e.2, h]
  · rw [if_neg e]
theorem tS_same (S : Hp) {p : Int} (h : S 1 3 = p) : tS S p (S 1 4) (S 1 5) (S 1 6) (S 1 7) = S := by
  unfold tS
  rw [uS_same S h, uS_same S rfl, uS_same S rfl, uS_same S rfl, uS_same S rfl]
theorem tS_3 (S : Hp) (p tok val fk fa : Int) : tS S p tok val fk fa 1 3 = p := by
  unfold tS
  simp (disch := decide) only [uS_ne, uS_self]
theorem tS_4 (S : Hp) (p tok val fk fa : Int) : tS S p tok val fk fa 1 4 = tok := by
  unfold tS
  simp (disch := decide) only [uS_ne, uS_self]
theorem tS_5 (S : Hp) (p tok val fk fa : Int) : tS S p tok val fk fa 1 5 = val := by
  unfold tS
  simp (disch := decide) only [uS_ne, uS_self]
theorem tS_6 (S : Hp) (p tok val fk fa : Int) : tS S p tok val fk fa 1 6 = fk := by
  unfold tS
  simp (disch := decide) only [uS_ne, uS_self]
theorem tS_7 (S : Hp) (p tok val fk fa : Int) : tS S p tok val fk fa 1 7 = fa := by
  unfold tS
  simp (disch := decide) only [uS_self]
theorem tS_r (S : Hp) (p tok val fk fa : Int) {o : Nat} (h : o ≠ 1) : tS S p tok val fk fa o = S o := by
  unfold tS
  rw [uS_row _ _ _ h, uS_row _ _ _ h, uS_row _ _ _ h, uS_row _ _ _ h, uS_row _ _ _ h]
theorem tS_k (S : Hp) (p tok val fk fa : Int) {k : Int} (h : k < 3 ∨ 7 < k) : tS S p tok val fk fa 1 k = S 1 k := by
  unfold tS
  rw [uS_ne _ _ (Or.inr (by omega)), uS_ne _ _ (Or.inr (by omega)), uS_ne _ _ (Or.inr (by omega)), uS_ne _ _ (Or.inr (by omega)), uS_ne _ _ (Or.inr (by omega))]
/-- bytes B, e of them are the text -/
def Tx (S : Hp) (o : Nat) (B : Nat → Int) : Prop := (∀ k : Nat, k < 600 → S o (k : Int) = B k) ∧ ∀ k, k < 600 → 0 ≤ B k ∧ B k < 256
def Tp (S : Hp) (B : Nat → Int) (e q : Nat) : Prop := Tx S 2 B ∧ S 1 2 = (e : Int) ∧ e ≤ 600 ∧ q ≤ e ∧ S 1 3 = (q : Int)
/-- what a move on the tape leaves as it was -/
def FT (S S' : Hp) : Prop := Fr [1] S S' ∧ ∀ k, k < 3 ∨ 7 < k → S' 1 k = S 1 k
theorem FT_tS (S : Hp) (p tok val fk fa : Int) : FT S (tS S p tok val fk fa) := ⟨fun o ho => tS_r _ _ _ _ _ _ (fun z => ho (List.mem_singleton.mpr z)), fun k h => tS_k _ _ _ _ _ _ h⟩
theorem FT_rf (S : Hp) : FT S S := ⟨fun _ _ => rfl, fun _ _ => rfl⟩
theorem FT_tr {S S1 S2 : Hp} (h : FT S S1) (h2 : FT S1 S2) : FT S S2 := ⟨fun o ho => (h2.1 o ho).trans (h.1 o ho), fun k hk1 => (h2.2 k hk1).trans (h.2 k hk1)⟩
theorem Tp_t {S S' : Hp} {B : Nat → Int} {e q q' : Nat} (h : Tp S B e q) (hF : FT S S') (h3 : S' 1 3 = (q' : Int)) (hq : q' ≤ e) : Tp S' B e q' := by
  obtain ⟨⟨a1, a2⟩, a3, a4, a5, a6⟩ := h
  refine ⟨⟨fun k hk9 => ?_, a2⟩, (hF.2 2 (by decide)).trans a3, a4, hq, h3⟩
  rw [hF.1 2 (by decide)]
  exact a1 k hk9
theorem Tp_o {S S' : Hp} {B : Nat → Int} {e q : Nat} (h : Tp S B e q) (h1 : S' 1 = S 1) (h2 : S' 2 = S 2) : Tp S' B e q := by
  unfold Tp Tx
  rw [h1, h2]
  exact h
theorem Tp_x {S : Hp} {B : Nat → Int} {e q : Nat} (h : Tp S B e q) : Txt (hI S) B e := ⟨fun k hk9 => by rw [hI_at, h.1.1 k hk9], h.1.2, by rw [hI_at]; exact congrArg zI h.2.1, h.2.2.1⟩
theorem Tp_s {S : Hp} {B : Nat → Int} {e q : Nat} (h : Tp S B e q) : hI S = tI (hI S) q (S 1 4) (S 1 5) (S 1 6) (S 1 7) := by
  rw [hI_tS, tS_same S h.2.2.2.2]
abbrev numV (B : Nat → Int) (e q : Nat) : Int := nmS 0 (dg B e q)
abbrev numE (B : Nat → Int) (e q : Nat) : Nat := q + (dg B e q).length
/-- what is wrong with a number; 0: nothing -/
def numK (B : Nat → Int) (e q : Nat) (lo hi : Int) : Int := if q < e ∧ isD (B q) = true then (if lo ≤ numV B e q ∧ numV B e q ≤ hi then 0 else 2) else 1
theorem numK_0 {B : Nat → Int} {e q : Nat} {lo hi : Int} (h : numK B e q lo hi = 0) : (q < e ∧ isD (B q) = true) ∧ lo ≤ numV B e q ∧ numV B e q ≤ hi := by
  unfold numK at h
  by_cases q1 : q < e ∧ isD (B q) = true
  · rw [if_pos q1] at h
    by_cases q2 : lo ≤ numV B e q ∧ numV B e q ≤ hi
    · exact ⟨q1, q2⟩
    · rw [if_neg q2] at h
      exact absurd h (by decide)
  · rw [if_neg q1] at h
    exact absurd h (by decide)
theorem numK_r (B : Nat → Int) (e q : Nat) (lo hi : Int) : 0 ≤ numK B e q lo hi ∧ numK B e q lo hi ≤ 2 := by
  unfold numK
  split
  · split <;> decide
  · decide
theorem dg_pos {B : Nat → Int} {e q : Nat} (h : q < e ∧ isD (B q) = true) : q < numE B e q := by
  unfold numE
  rw [dg_cons B e q h.1 h.2]
  show q < q + ((dg B e (q + 1)).length + 1)
  omega
section TPC
variable {X : Nat × (Nat → Int32)} {d : Nat} {w : Bool × Bool × Bool} {S : Hp} {J : Nat → Nat → Int64} {B : Nat → Int} {e q : Nat}
theorem T_ends (h : Tp S B e q) : am_call X aP (d + 1) 82 [.ref 1] (mkS w (hI S) J) = some (.inl (some (.int (zI (if q < e then 0 else 1)))), (mkS w (hI S) J)) := by
  have := t_ends (X := X) (d := d) (w := w) (J := J) (tok := S 1 4) (val := S 1 5) (fk := S 1 6) (fa := S 1 7) (Tp_x h) h.2.2.2.1
  rw [← Tp_s h] at this
  exact this
theorem T_stands (h : Tp S B e q) {c : Int} (hc : 0 ≤ c ∧ c < 256) : am_call X aP (d + 1) 83 [.ref 1, .int (zI c)] (mkS w (hI S) J) = some (.inl (some (.int (zI (if q < e ∧ B q = c then 1 else 0)))), (mkS w (hI S) J)) := by
  have := t_stands (X := X) (d := d) (w := w) (J := J) (tok := S 1 4) (val := S 1 5) (fk := S 1 6) (fa := S 1 7) (Tp_x h) h.2.2.2.1 hc
  rw [← Tp_s h] at this
  exact this
theorem T_digit (h : Tp S B e q) : am_call X aP (d + 2) 84 [.ref 1] (mkS w (hI S) J) = some (.inl (some (.int (zI (if q < e ∧ isD (B q) = true then 1 else 0)))), (mkS w (hI S) J)) := by
  have := t_digitStands (X := X) (d := d) (w := w) (J := J) (tok := S 1 4) (val := S 1 5) (fk := S 1 6) (fa := S 1 7) (Tp_x h) h.2.2.2.1
  rw [← Tp_s h] at this
  exact this
theorem T_takes0 (h : Tp S B e q) {c : Int} (hc : 0 ≤ c ∧ c < 256) (hn : ¬ (q < e ∧ B q = c)) : am_call X aP (d + 2) 87 [.ref 1, .int (zI c)] (mkS w (hI S) J) = some (.inl (some (.int (zI 0))), (mkS w (hI S) J)) := by
  have := t_takes (X := X) (d := d) (w := w) (J := J) (tok := S 1 4) (val := S 1 5) (fk := S 1 6) (fa := S 1 7) (Tp_x h) h.2.2.2.1 hc
  rw [← Tp_s h, if_neg hn] at this
  exact this
theorem T_takes1 (w : Bool × Bool × Bool) (J : Nat → Nat → Int64) (h : Tp S B e q) {c : Int} (hc : 0 ≤ c ∧ c < 256) (hn : q < e ∧ B q = c) : ∃ S', (∀ d, am_call X aP (d + 2) 87 [.ref 1, .int (zI c)] (mkS w (hI S) J) = some (.inl (some (.int (zI 1))), (mkS w (hI S') J))) ∧ Tp S' B e (sk B e (q + 1)) ∧ S' 1 4 = (q : Int) ∧ FT S S' := by
  refine ⟨tS S (sk B e (q + 1)) q (S 1 5) (S 1 6) (S 1 7), fun d => ?_, Tp_t h (FT_tS _ _ _ _ _ _) (tS_3 _ _ _ _ _ _) (sk_le (by omega)), tS_4 _ _ _ _ _ _, FT_tS _ _ _ _ _ _⟩
  have := t_takes (X := X) (d := d) (w := w) (J := J) (tok := S 1 4) (val := S 1 5) (fk := S 1 6) (fa := S 1 7) (Tp_x h) h.2.2.2.1 hc
  rw [← Tp_s h, if_pos hn, hI_tS] at this
  exact this
theorem T_failHere (w : Bool × Bool × Bool) (J : Nat → Nat → Int64) (h : Tp S B e q) (k : Int) : ∃ S', (∀ d, am_call X aP (d + 1) 91 [.ref 1, .int (zI k)] (mkS w (hI S) J) = some (.inl (some (.int (zI 0))), (mkS w (hI S') J))) ∧ (S' 1 6 = k ∧ S' 1 7 = (q : Int)) ∧ FT S S' := by
  refine ⟨tS S q (S 1 4) (S 1 5) k q, fun d => ?_, ⟨tS_6 _ _ _ _ _ _, tS_7 _ _ _ _ _ _⟩, FT_tS _ _ _ _ _ _⟩
  have := t_failHere (X := X) (d := d) (w := w) (I := hI S) (J := J) (tok := S 1 4) (val := S 1 5) (fk := S 1 6) (fa := S 1 7) k (q := (q : Int))
  rw [← Tp_s h, hI_tS] at this
  exact this
theorem T_failTok (w : Bool × Bool × Bool) (J : Nat → Nat → Int64) (h : Tp S B e q) (k : Int) {t : Int} (ht : S 1 4 = t) : ∃ S', (∀ d, am_call X aP (d + 1) 92 [.ref 1, .int (zI k)] (mkS w (hI S) J) = some (.inl (some (.int (zI 0))), (mkS w (hI S') J))) ∧ (S' 1 6 = k ∧ S' 1 7 = t) ∧ FT S S' := by
  refine ⟨tS S q (S 1 4) (S 1 5) k (S 1 4), fun d => ?_, ⟨tS_6 _ _ _ _ _ _, (tS_7 _ _ _ _ _ _).trans ht⟩, FT_tS _ _ _ _ _ _⟩
  have := t_failTok (X := X) (d := d) (w := w) (I := hI S) (J := J) (tok := S 1 4) (val := S 1 5) (fk := S 1 6) (fa := S 1 7) k (q := (q : Int))
  rw [← Tp_s h, hI_tS] at this
  exact this
theorem T_needs1 (w : Bool × Bool × Bool) (J : Nat → Nat → Int64) (h : Tp S B e q) {c : Int} (hc : 0 ≤ c ∧ c < 256) (hn : q < e ∧ B q = c) : ∃ S', (∀ d, am_call X aP (d + 3) 88 [.ref 1, .int (zI c)] (mkS w (hI S) J) = some (.inl (some (.int (zI 1))), (mkS w (hI S') J))) ∧ Tp S' B e (sk B e (q + 1)) ∧ FT S S' := by
  refine ⟨tS S (sk B e (q + 1)) q (S 1 5) (S 1 6) (S 1 7), fun d => ?_, Tp_t h (FT_tS _ _ _ _ _ _) (tS_3 _ _ _ _ _ _) (sk_le (by omega)), FT_tS _ _ _ _ _ _⟩
  have := t_needs (X := X) (d := d) (w := w) (J := J) (tok := S 1 4) (val := S 1 5) (fk := S 1 6) (fa := S 1 7) (Tp_x h) h.2.2.2.1 hc
  rw [← Tp_s h, if_pos hn, hI_tS] at this
  exact this
theorem T_needs0 (w : Bool × Bool × Bool) (J : Nat → Nat → Int64) (h : Tp S B e q) {c : Int} (hc : 0 ≤ c ∧ c < 256) (hn : ¬ (q < e ∧ B q = c)) : ∃ S', (∀ d, am_call X aP (d + 3) 88 [.ref 1, .int (zI c)] (mkS w (hI S) J) = some (.inl (some (.int (zI 0))), (mkS w (hI S') J))) ∧ (S' 1 6 = 1 ∧ S' 1 7 = (q : Int)) ∧ FT S S' := by
  refine ⟨tS S q (S 1 4) (S 1 5) 1 q, fun d => ?_, ⟨tS_6 _ _ _ _ _ _, tS_7 _ _ _ _ _ _⟩, FT_tS _ _ _ _ _ _⟩
  have := t_needs (X := X) (d := d) (w := w) (J := J) (tok := S 1 4) (val := S 1 5) (fk := S 1 6) (fa := S 1 7) (Tp_x h) h.2.2.2.1 hc
  rw [← Tp_s h, if_neg hn, hI_tS] at this
  exact this
theorem T_word0 (h : Tp S B e q) {k : Nat} (hk9 : k < 18) (hn : ¬ wd B e q = sx k) : am_call X aP (d + 2) 89 [.ref 1, .ref ((2000000 + k))] (mkS w (hI S) J) = some (.inl (some (.int (zI 0))), (mkS w (hI S) J)) := by
  have := t_takesWord (X := X) (d := d) (w := w) (J := J) (tok := S 1 4) (val := S 1 5) (fk := S 1 6) (fa := S 1 7) (Tp_x h) hk9 h.2.2.2.1
  rw [← Tp_s h, if_neg hn] at this
  exact this
theorem T_word1 (w : Bool × Bool × Bool) (J : Nat → Nat → Int64) (h : Tp S B e q) {k : Nat} (hk9 : k < 18) (hn : wd B e q = sx k) : ∃ S', (∀ d, am_call X aP (d + 2) 89 [.ref 1, .ref ((2000000 + k))] (mkS w (hI S) J) = some (.inl (some (.int (zI 1))), (mkS w (hI S') J))) ∧ Tp S' B e (sk B e (q + (wd B e q).length)) ∧ S' 1 4 = (q : Int) ∧ FT S S' := by
  have hl : (aStr k).length = (wd B e q).length := by
    rw [hn]
    unfold sx
    rw [List.length_map]
  refine ⟨tS S (sk B e (q + (wd B e q).length)) q (S 1 5) (S 1 6) (S 1 7), fun d => ?_, Tp_t h (FT_tS _ _ _ _ _ _) (tS_3 _ _ _ _ _ _) (sk_le (wd_len B e q h.2.2.2.1)), tS_4 _ _ _ _ _ _, FT_tS _ _ _ _ _ _⟩
  have := t_takesWord (X := X) (d := d) (w := w) (J := J) (tok := S 1 4) (val := S 1 5) (fk := S 1 6) (fa := S 1 7) (Tp_x h) hk9 h.2.2.2.1
  rw [← Tp_s h, if_pos hn, hI_tS, hl] at this
  exact this
theorem nmB_nm (B : Nat → Int) (e q : Nat) : nmB 0 (dg B e q) = min 100000 (numV B e q) := nmB_eq _ 0 0 (dg_all B e q) (by decide) (by decide)
theorem T_num1 (w : Bool × Bool × Bool) (J : Nat → Nat → Int64) (h : Tp S B e q) {lo hi : Int} (hlo : -1 ≤ lo ∧ lo < 100000) (hhi : -1 ≤ hi ∧ hi < 100000) (hn : numK B e q lo hi = 0) : ∃ S', (∀ d, am_call X aP (d + 3) 90 [.ref 1, .int (zI lo), .int (zI hi)] (mkS w (hI S) J) = some (.inl (some (.int (zI 1))), (mkS w (hI S') J))) ∧ Tp S' B e (sk B e (numE B e q)) ∧ S' 1 4 = (q : Int) ∧ S' 1 5 = numV B e q ∧ FT S S' := by
  obtain ⟨h1, h2, h3⟩ := numK_0 hn
  have hb := nmB_nm B e q
  have hb2 : nmB 0 (dg B e q) = numV B e q := by omega
  refine ⟨tS S (sk B e (numE B e q)) q (numV B e q) (S 1 6) (S 1 7), fun d => ?_, Tp_t h (FT_tS _ _ _ _ _ _) (tS_3 _ _ _ _ _ _) (sk_le (dg_len B e q h.2.2.2.1)), tS_4 _ _ _ _ _ _, tS_5 _ _ _ _ _ _, FT_tS _ _ _ _ _ _⟩
  have := t_num (X := X) (d := d) (w := w) (J := J) (tok := S 1 4) (val := S 1 5) (fk := S 1 6) (fa := S 1 7) (Tp_x h) hlo hhi h.2.2.2.1
  unfold numR at this
  rw [← Tp_s h, if_pos h1, hb2, if_pos ⟨h2, h3⟩, hI_tS] at this
  exact this
theorem T_num0 (w : Bool × Bool × Bool) (J : Nat → Nat → Int64) (h : Tp S B e q) {lo hi : Int} (hlo : -1 ≤ lo ∧ lo < 100000) (hhi : -1 ≤ hi ∧ hi < 100000) (hn : ¬ numK B e q lo hi = 0) : ∃ S', (∀ d, am_call X aP (d + 3) 90 [.ref 1, .int (zI lo), .int (zI hi)] (mkS w (hI S) J) = some (.inl (some (.int (zI 0))), (mkS w (hI S') J))) ∧ (S' 1 6 = numK B e q lo hi ∧ S' 1 7 = (q : Int)) ∧ FT S S' := by
  have hb := nmB_nm B e q
  by_cases q1 : q < e ∧ isD (B q) = true
  · have q2 : ¬ (lo ≤ numV B e q ∧ numV B e q ≤ hi) := fun z => hn (by unfold numK; rw [if_pos q1, if_pos z])
    have ek : numK B e q lo hi = 2 := by
      unfold numK
      rw [if_pos q1, if_neg q2]
    refine ⟨tS S (sk B e (q + (dg B e q).length)) q (nmB 0 (dg B e q)) 2 q, fun d => ?_, ⟨(tS_6 _ _ _ _ _ _).trans ek.symm, tS_7 _ _ _ _ _ _⟩, FT_tS _ _ _ _ _ _⟩
    have := t_num (X := X) (d := d) (w := w) (J := J) (tok := S 1 4) (val := S 1 5) (fk := S 1 6) (fa := S 1 7) (Tp_x h) hlo hhi h.2.2.2.1
    unfold numR at this
    rw [← Tp_s h, if_pos q1, if_neg (by omega), hI_tS] at this
    exact this
  · have ek : numK B e q lo hi = 1 := by
      unfold numK
      rw [if_neg q1]
    refine ⟨tS S q (S 1 4) (S 1 5) 1 q, fun d => ?_, ⟨(tS_6 _ _ _ _ _ _).trans ek.symm, tS_7 _ _ _ _ _ _⟩, FT_tS _ _ _ _ _ _⟩
    have := t_num (X := X) (d := d) (w := w) (J := J) (tok := S 1 4) (val := S 1 5) (fk := S 1 6) (fa := S 1 7) (Tp_x h) hlo hhi h.2.2.2.1
    rw [← Tp_s h, if_neg q1, hI_tS] at this
    exact this
end TPC
/-! the reference's -/
def Mp (S : Hp) (B : Nat → Int) (e p : Nat) : Prop := Tx S 134 B ∧ S 132 3 = (e : Int) ∧ e ≤ 600 ∧ p ≤ e ∧ S 132 4 = (p : Int) ∧ S 132 5 = -1
/-- something is wrong already -/
def Bd (S : Hp) (k pl : Int) : Prop := (0 ≤ pl ∧ pl ≤ 600) ∧ S 132 5 = pl ∧ S 132 6 = k
def FM (S S' : Hp) : Prop := Fr [132] S S' ∧ ∀ k, k < 4 ∨ 6 < k → S' 132 k = S 132 k
theorem FM_rf (S : Hp) : FM S S := ⟨fun _ _ => rfl, fun _ _ => rfl⟩
theorem FM_tr {S S1 S2 : Hp} (h : FM S S1) (h2 : FM S1 S2) : FM S S2 := ⟨fun o ho => (h2.1 o ho).trans (h.1 o ho), fun k hk1 => (h2.2 k hk1).trans (h.2 k hk1)⟩
theorem FM_u (S : Hp) {k : Int} (v : Int) (h : 4 ≤ k ∧ k ≤ 6) : FM S (uS S 132 k v) := ⟨fun o ho => uS_row _ _ _ (fun z => ho (List.mem_singleton.mpr z)), fun x hx => uS_ne _ _ (Or.inr (by omega))⟩
theorem Mp_t {S S' : Hp} {B : Nat → Int} {e p p' : Nat} (h : Mp S B e p) (hF : FM S S') (h4 : S' 132 4 = (p' : Int)) (h5 : S' 132 5 = -1) (hp : p' ≤ e) : Mp S' B e p' := by
  obtain ⟨⟨a1, a2⟩, a3, a4, a5, a6, a7⟩ := h
  refine ⟨⟨fun k hk9 => ?_, a2⟩, (hF.2 3 (by decide)).trans a3, a4, hp, h4, h5⟩
  rw [hF.1 134 (by decide)]
  exact a1 k hk9
theorem Mp_o {S S' : Hp} {B : Nat → Int} {e p : Nat} (h : Mp S B e p) (h1 : ∀ k, 3 ≤ k → k ≤ 5 → S' 132 k = S 132 k) (h2 : S' 134 = S 134) : Mp S' B e p := by
  unfold Mp Tx
  rw [h1 3 (by decide) (by decide), h1 4 (by decide) (by decide), h1 5 (by decide) (by decide), h2]
  exact h
theorem Bd_o {S S' : Hp} {k pl : Int} (h : Bd S k pl) (h5 : S' 132 5 = S 132 5) (h6 : S' 132 6 = S 132 6) : Bd S' k pl := ⟨h.1, h5.trans h.2.1, h6.trans h.2.2⟩
theorem bt0_c {B : Nat → Int} {e q : Nat} {c : Int} (hc : 1 ≤ c) : bt0 B e q = c ↔ (q < e ∧ B q = c) := by
  unfold bt0
  by_cases h : q < e
  · rw [if_pos h]
    exact ⟨fun z => ⟨h, z⟩, fun z => z.2⟩
  · rw [if_neg h]
    exact ⟨fun z => by omega, fun z => absurd z.1 h⟩
theorem bt0_d {B : Nat → Int} {e q : Nat} : isD (bt0 B e q) = true ↔ (q < e ∧ isD (B q) = true) := by
  unfold bt0
  by_cases h : q < e
  · rw [if_pos h]
    exact ⟨fun z => ⟨h, z⟩, fun z => z.2⟩
  · rw [if_neg h]
    exact ⟨fun z => absurd z (by decide), fun z => absurd z.1 h⟩
section MPC
variable {X : Nat × (Nat → Int32)} {d : Nat} {w : Bool × Bool × Bool} {S : Hp} {J : Nat → Nat → Int64} {B : Nat → Int} {e p q : Nat}
theorem bt0_r (h : Tx S 134 B) (he : e ≤ 600) : 0 ≤ bt0 B e q ∧ bt0 B e q < 256 := by
  unfold bt0
  by_cases hh : q < e
  · rw [if_pos hh]
    exact h.2 q (by omega)
  · rw [if_neg hh]
    decide
theorem M_fine1 (h : Mp S B e p) : am_call X aP (d + 1) 157 [.ref 132] (mkS w (hI S) J) = some (.inl (some (.int (zI 1))), (mkS w (hI S) J)) := by
  have h5 := h.2.2.2.2.2
  rw [go_X10_fine, e_X10_fine_0]
  simp (disch := omega) only [hk, hu, hI_n, hI_un, z_nat, em_d, zl, z_add, z_sub, z_mul, z_lt, z_eq, gI_mk, gJ_mk, cI_some, cV_some, cJ_some, cI_x, cV_x, cJ_x, uS_self, uS_ne, if_pos, if_neg, b01, b01n, ite_not, if_true, if_false, Bool.false_eq_true, h5, rI_d]
theorem M_fine0 {k pl : Int} (h : Bd S k pl) : am_call X aP (d + 1) 157 [.ref 132] (mkS w (hI S) J) = some (.inl (some (.int (zI 0))), (mkS w (hI S) J)) := by
  obtain ⟨h1, h5, h6⟩ := h
  rw [go_X10_fine, e_X10_fine_0]
  simp (disch := omega) only [hk, hu, hI_n, hI_un, z_nat, em_d, zl, z_add, z_sub, z_mul, z_lt, z_eq, gI_mk, gJ_mk, cI_some, cV_some, cJ_some, cI_x, cV_x, cJ_x, uS_self, uS_ne, if_pos, if_neg, b01, b01n, ite_not, if_true, if_false, Bool.false_eq_true, h5, rI_d]
theorem M_wrong1 (w : Bool × Bool × Bool) (J : Nat → Nat → Int64) (h : Mp S B e p) (k pl : Int) (hp : 0 ≤ pl ∧ pl ≤ 600) : ∃ S', (∀ d, am_call X aP (d + 1) 158 [.ref 132, .int (zI k), .int (zI pl)] (mkS w (hI S) J) = some (.inl none, (mkS w (hI S') J))) ∧ Bd S' k pl ∧ S' 132 4 = S 132 4 ∧ FM S S' := by
  have h5 := h.2.2.2.2.2
  refine ⟨uS (uS S 132 5 pl) 132 6 k, fun d => ?_, ⟨hp, by rw [uS_ne _ _ (Or.inr (by decide)), uS_self], uS_self _ _ _ _⟩, by rw [uS_ne _ _ (Or.inr (by decide)), uS_ne _ _ (Or.inr (by decide))], FM_tr (FM_u _ _ (by decide)) (FM_u _ _ (by decide))⟩
  rw [go_X10_wrong, e_X10_wrong_0]
  simp (disch := omega) only [hk, hu, hI_n, hI_un, z_nat, em_d, zl, z_add, z_sub, z_mul, z_lt, z_eq, gI_mk, gJ_mk, cI_some, cV_some, cJ_some, cI_x, cV_x, cJ_x, uS_self, uS_ne, if_pos, if_neg, b01, b01n, ite_not, if_true, if_false, Bool.false_eq_true, h5, rV_d]
theorem M_wrong0 {k pl k' pl' : Int} (h : Bd S k pl) : am_call X aP (d + 1) 158 [.ref 132, .int (zI k'), .int (zI pl')] (mkS w (hI S) J) = some (.inl none, (mkS w (hI S) J)) := by
  obtain ⟨h1, h5, h6⟩ := h
  rw [go_X10_wrong, e_X10_wrong_0]
  simp (disch := omega) only [hk, hu, hI_n, hI_un, z_nat, em_d, zl, z_add, z_sub, z_mul, z_lt, z_eq, gI_mk, gJ_mk, cI_some, cV_some, cJ_some, cI_x, cV_x, cJ_x, uS_self, uS_ne, if_pos, if_neg, b01, b01n, ite_not, if_true, if_false, Bool.false_eq_true, h5, rV_d]
theorem l_here (hT : Tx S 134 B) (he : e ≤ 600) (h3 : S 132 3 = (e : Int)) : ∀ (j q n : Nat), q + j = e → aR X d m_X10_here (n + j + 2) 0 [some (.ref 132)] (0, 0) (mkS w (hI (uS S 132 4 (q : Int))) J) = some (.inl (some (.int (zI (bt0 B e (sk B e q))))), (mkS w (hI (uS S 132 4 (sk B e q : Nat))) J))
  | 0, q, n, h => by
    have t3 : uS S 132 4 (q : Int) 132 3 = (e : Int) := (uS_ne _ _ (Or.inr (by decide))).trans h3
    have ub : bt0 B e q = 0 := if_neg (by omega)
    rw [e_X10_here_0]
    simp (disch := omega) only [hk, hu, hI_n, hI_un, z_nat, em_d, zl, z_add, z_sub, z_mul, z_lt, z_eq, gI_mk, gJ_mk, cI_some, cV_some, cJ_some, cI_x, cV_x, cJ_x, uS_self, uS_ne, if_pos, if_neg, b01, b01n, ite_not, if_true, if_false, Bool.false_eq_true, t3]
    rw [e_X10_here_19, sk_stop (by omega)]
    simp (disch := omega) only [hk, hu, hI_n, hI_un, z_nat, em_d, zl, z_add, z_sub, z_mul, z_lt, z_eq, gI_mk, gJ_mk, cI_some, cV_some, cJ_some, cI_x, cV_x, cJ_x, uS_self, uS_ne, if_pos, if_neg, b01, b01n, ite_not, if_true, if_false, Bool.false_eq_true, t3, ub, rI_d]
  | j + 1, q, n, h => by
    have hb := hT.2 q (by omega)
    have t3 : uS S 132 4 (q : Int) 132 3 = (e : Int) := (uS_ne _ _ (Or.inr (by decide))).trans h3
    have tb : S 134 (q : Int) = B q := hT.1 q (by omega)
    rw [e_X10_here_0]
    by_cases hc : B q = 32
    · have ih := l_here hT he h3 j (q + 1) n (by omega)
      rw [show ((q + 1 : Nat) : Int) = (q : Int) + 1 by omega] at ih
      have eu : uS (uS S 132 4 (q : Int)) 132 4 ((q : Int) + 1) = uS S 132 4 ((q : Int) + 1) := by
        funext o k
        rw [uS_at, uS_at, uS_at]
        by_cases e : o = 132 ∧ k = 4
        · rw [if_pos e, if_pos e]
        · rw [if_neg e, if_neg e, if_neg e]
      rw [sk_blank (by omega) hc]
      simp (disch := omega) only [hk, hu, hI_n, hI_un, z_nat, em_d, zl, z_add, z_sub, z_mul, z_lt, z_eq, gI_mk, gJ_mk, cI_some, cV_some, cJ_some, cI_x, cV_x, cJ_x, uS_self, uS_ne, if_pos, if_neg, b01, b01n, ite_not, if_true, if_false, Bool.false_eq_true, t3, tb, hc, eu]
      exact ih
    · have ub : bt0 B e q = B q := if_pos (by omega)
      rw [sk_stop (fun _ => hc)]
      simp (disch := omega) only [hk, hu, hI_n, hI_un, z_nat, em_d, zl, z_add, z_sub, z_mul, z_lt, z_eq, gI_mk, gJ_mk, cI_some, cV_some, cJ_some, cI_x, cV_x, cJ_x, uS_self, uS_ne, if_pos, if_neg, b01, b01n, ite_not, if_true, if_false, Bool.false_eq_true, t3, tb, hc]
      rw [show n + (j + 1) + 1 = (n + j + 1) + 1 by omega, e_X10_here_19]
      simp (disch := omega) only [hk, hu, hI_n, hI_un, z_nat, em_d, zl, z_add, z_sub, z_mul, z_lt, z_eq, gI_mk, gJ_mk, cI_some, cV_some, cJ_some, cI_x, cV_x, cJ_x, uS_self, uS_ne, if_pos, if_neg, b01, b01n, ite_not, if_true, if_false, Bool.false_eq_true, t3, tb, ub, rI_d]
theorem M_here (w : Bool × Bool × Bool) (J : Nat → Nat → Int64) (h : Mp S B e p) : ∃ S', (∀ d, am_call X aP (d + 1) 159 [.ref 132] (mkS w (hI S) J) = some (.inl (some (.int (zI (bt0 B e (sk B e p))))), (mkS w (hI S') J))) ∧ Mp S' B e (sk B e p) ∧ FM S S' := by
  obtain ⟨a1, a3, a4, a5, a6, a7⟩ := id h
  refine ⟨uS S 132 4 (sk B e p : Nat), fun d => ?_, Mp_t h (FM_u _ _ (by decide)) (uS_self _ _ _ _) ((uS_ne _ _ (Or.inr (by decide))).trans a7) (sk_le a5), FM_u _ _ (by decide)⟩
  have := l_here (X := X) (d := d) (w := w) (J := J) a1 a4 a3 (e - p) p (10000000 - (e - p) - 2) (by omega)
  rw [uS_same S a6, show 10000000 - (e - p) - 2 + (e - p) + 2 = 9999999 + 1 by omega] at this
  rw [go_X10_here]
  exact this
/-- at the first byte of what comes next -/
theorem M_hereN (h : Mp S B e q) (hq : sk B e q = q) : am_call X aP (d + 1) 159 [.ref 132] (mkS w (hI S) J) = some (.inl (some (.int (zI (bt0 B e q)))), (mkS w (hI S) J)) := by
  obtain ⟨a1, a3, a4, a5, a6, a7⟩ := id h
  have := l_here (X := X) (d := d) (w := w) (J := J) a1 a4 a3 (e - q) q (10000000 - (e - q) - 2) (by omega)
  rw [hq, uS_same S a6, show 10000000 - (e - q) - 2 + (e - q) + 2 = 9999999 + 1 by omega] at this
  rw [go_X10_here]
  exact this
theorem M_isMore (w : Bool × Bool × Bool) (J : Nat → Nat → Int64) (h : Mp S B e p) : ∃ S', (∀ d, am_call X aP (d + 2) 167 [.ref 132] (mkS w (hI S) J) = some (.inl (some (.int (zI (if sk B e p < e then 1 else 0)))), (mkS w (hI S') J))) ∧ Mp S' B e (sk B e p) ∧ FM S S' := by
  obtain ⟨S1, h1, h2, h3⟩ := M_here (X := X) w J h
  obtain ⟨a1, a3, a4, a5, a6, a7⟩ := id h2
  refine ⟨S1, fun d => ?_, h2, h3⟩
  rw [go_X10_isMore, e_X10_isMore_0, h1]
  by_cases q : sk B e p < e
  · simp (disch := omega) only [hk, hu, hI_n, hI_un, z_nat, em_d, zl, z_add, z_sub, z_mul, z_lt, z_eq, gI_mk, gJ_mk, cI_some, cV_some, cJ_some, cI_x, cV_x, cJ_x, uS_self, uS_ne, if_pos, if_neg, b01, b01n, ite_not, if_true, if_false, Bool.false_eq_true, a3, a6, rI_d]
  · simp (disch := omega) only [hk, hu, hI_n, hI_un, z_nat, em_d, zl, z_add, z_sub, z_mul, z_lt, z_eq, gI_mk, gJ_mk, cI_some, cV_some, cJ_some, cI_x, cV_x, cJ_x, uS_self, uS_ne, if_pos, if_neg, b01, b01n, ite_not, if_true, if_false, Bool.false_eq_true, a3, a6, rI_d]
theorem M_sign1 (w : Bool × Bool × Bool) (J : Nat → Nat → Int64) (h : Mp S B e p) {c : Int} (hc : 1 ≤ c ∧ c < 256) (hn : sk B e p < e ∧ B (sk B e p) = c) : ∃ S', (∀ d, am_call X aP (d + 2) 166 [.ref 132, .int (zI c)] (mkS w (hI S) J) = some (.inl none, (mkS w (hI S') J))) ∧ Mp S' B e (sk B e p + 1) ∧ FM S S' := by
  obtain ⟨S1, h1, h2, h3⟩ := M_here (X := X) w J h
  obtain ⟨a1, a3, a4, a5, a6, a7⟩ := id h2
  have eb := (bt0_c hc.1).mpr hn
  refine ⟨uS S1 132 4 ((sk B e p : Nat) + 1), fun d => ?_, Mp_t h2 (FM_u _ _ (by decide)) (by rw [uS_self]; omega) ((uS_ne _ _ (Or.inr (by decide))).trans a7) (by omega), FM_tr h3 (FM_u _ _ (by decide))⟩
  rw [go_X10_sign, e_X10_sign_0, M_fine1 h]
  simp (disch := omega) only [hk, hu, hI_n, hI_un, z_nat, em_d, zl, z_add, z_sub, z_mul, z_lt, z_eq, gI_mk, gJ_mk, cI_some, cV_some, cJ_some, cI_x, cV_x, cJ_x, uS_self, uS_ne, if_pos, if_neg, b01, b01n, ite_not, if_true, if_false, Bool.false_eq_true]
  rw [h1, eb]
  simp (disch := omega) only [hk, hu, hI_n, hI_un, z_nat, em_d, zl, z_add, z_sub, z_mul, z_lt, z_eq, gI_mk, gJ_mk, cI_some, cV_some, cJ_some, cI_x, cV_x, cJ_x, uS_self, uS_ne, if_pos, if_neg, b01, b01n, ite_not, if_true, if_false, Bool.false_eq_true]
  rw [show 9999999 = 9999998 + 1 from rfl, e_X10_sign_12, M_fine1 h2]
  simp (disch := omega) only [hk, hu, hI_n, hI_un, z_nat, em_d, zl, z_add, z_sub, z_mul, z_lt, z_eq, gI_mk, gJ_mk, cI_some, cV_some, cJ_some, cI_x, cV_x, cJ_x, uS_self, uS_ne, if_pos, if_neg, b01, b01n, ite_not, if_true, if_false, Bool.false_eq_true, a6, rV_d]
theorem M_sign0 (w : Bool × Bool × Bool) (J : Nat → Nat → Int64) (h : Mp S B e p) {c : Int} (hc : 1 ≤ c ∧ c < 256) (hn : ¬ (sk B e p < e ∧ B (sk B e p) = c)) : ∃ S', (∀ d, am_call X aP (d + 2) 166 [.ref 132, .int (zI c)] (mkS w (hI S) J) = some (.inl none, (mkS w (hI S') J))) ∧ Bd S' 1 (sk B e p : Nat) ∧ FM S S' := by
  obtain ⟨S1, h1, h2, h3⟩ := M_here (X := X) w J h
  obtain ⟨a1, a3, a4, a5, a6, a7⟩ := id h2
  have eb : ¬ bt0 B e (sk B e p) = c := fun z => hn ((bt0_c hc.1).mp z)
  have hr := bt0_r (q := sk B e p) a1 a4
  obtain ⟨S2, h4, h5, -, h6⟩ := M_wrong1 (X := X) w J h2 1 (sk B e p : Nat) (by omega)
  refine ⟨S2, fun d => ?_, h5, FM_tr h3 h6⟩
  rw [go_X10_sign, e_X10_sign_0, M_fine1 h]
  simp (disch := omega) only [hk, hu, hI_n, hI_un, z_nat, em_d, zl, z_add, z_sub, z_mul, z_lt, z_eq, gI_mk, gJ_mk, cI_some, cV_some, cJ_some, cI_x, cV_x, cJ_x, uS_self, uS_ne, if_pos, if_neg, b01, b01n, ite_not, if_true, if_false, Bool.false_eq_true]
  rw [h1]
  simp (disch := omega) only [hk, hu, hI_n, hI_un, z_nat, em_d, zl, z_add, z_sub, z_mul, z_lt, z_eq, gI_mk, gJ_mk, cI_some, cV_some, cJ_some, cI_x, cV_x, cJ_x, uS_self, uS_ne, if_pos, if_neg, b01, b01n, ite_not, if_true, if_false, Bool.false_eq_true, a6]
  rw [h4]
  simp (disch := omega) only [hk, hu, hI_n, hI_un, z_nat, em_d, zl, z_add, z_sub, z_mul, z_lt, z_eq, gI_mk, gJ_mk, cI_some, cV_some, cJ_some, cI_x, cV_x, cJ_x, uS_self, uS_ne, if_pos, if_neg, b01, b01n, ite_not, if_true, if_false, Bool.false_eq_true]
  rw [show 9999999 = 9999998 + 1 from rfl, e_X10_sign_12, M_fine0 h5]
  simp (disch := omega) only [hk, hu, hI_n, hI_un, z_nat, em_d, zl, z_add, z_sub, z_mul, z_lt, z_eq, gI_mk, gJ_mk, cI_some, cV_some, cJ_some, cI_x, cV_x, cJ_x, uS_self, uS_ne, if_pos, if_neg, b01, b01n, ite_not, if_true, if_false, Bool.false_eq_true, rV_d]
theorem M_signB {k pl c : Int} (h : Bd S k pl) : am_call X aP (d + 2) 166 [.ref 132, .int (zI c)] (mkS w (hI S) J) = some (.inl none, (mkS w (hI S) J)) := by
  rw [go_X10_sign, e_X10_sign_0, M_fine0 h]
  simp (disch := omega) only [hk, hu, hI_n, hI_un, z_nat, em_d, zl, z_add, z_sub, z_mul, z_lt, z_eq, gI_mk, gJ_mk, cI_some, cV_some, cJ_some, cI_x, cV_x, cJ_x, uS_self, uS_ne, if_pos, if_neg, b01, b01n, ite_not, if_true, if_false, Bool.false_eq_true]
  rw [show 9999999 = 9999998 + 1 from rfl, e_X10_sign_12, M_fine0 h]
  simp (disch := omega) only [hk, hu, hI_n, hI_un, z_nat, em_d, zl, z_add, z_sub, z_mul, z_lt, z_eq, gI_mk, gJ_mk, cI_some, cV_some, cJ_some, cI_x, cV_x, cJ_x, uS_self, uS_ne, if_pos, if_neg, b01, b01n, ite_not, if_true, if_false, Bool.false_eq_true, rV_d]
end MPC
