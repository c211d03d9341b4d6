/-! THE SMALL MACHINE AND THE GREAT ONE: how a state of the one stands in the other -/
def trv (ad : Nat → Nat) : Value → Value
  | .ref o => .ref (ad o)
  | v => v
def fsOf (ad : Nat → Nat) (st : aSt) (i : Nat) : List Value := (List.range (nFl (KK i))).map (fun k => if iFl (KK i) k = true then .int (gI st i k) else va_rf ((gR st i k).map ad))
def cellOf (cy : Nat → ClassId) (ad : Nat → Nat) (st : aSt) (i : Nat) : va_E :=
  if KK i = 10 then .inl (cy 0, LL i, .inl (gI st i)) else if KK i = 11 then .inl (cy 1, LL i, .inr (.inl (gJ st i))) else if KK i = 12 then .inl (cy 2, LL i, .inr (.inr (.inr (.inr (fun j => (gR st i j).map ad))))) else .inr (KK i, fsOf ad st i)
def wsOf (cy : Nat → ClassId) (ad : Nat → Nat) (st : aSt) : va_W := (List.range (gN st)).map (fun i => (ad i, cellOf cy ad st i))
theorem wsOf_at {cy : Nat → ClassId} {ad : Nat → Nat} {st : aSt} {i : Nat} (h : i < gN st) : (wsOf cy ad st)[i]? = some (ad i, cellOf cy ad st i) := by
  unfold wsOf
  rw [List.getElem?_map, List.getElem?_range h]
  rfl
theorem wsOf_len {cy : Nat → ClassId} {ad : Nat → Nat} {st : aSt} : (wsOf cy ad st).length = gN st := by
  unfold wsOf
  rw [List.length_map, List.length_range]
/-- one thing is changed -/
theorem wsOf_set {cy : Nat → ClassId} {ad : Nat → Nat} {st st' : aSt} {o : Nat} (ho : o < gN st) (hn : gN st' = gN st) (hk : ∀ i, i < gN st → i ≠ o → cellOf cy ad st' i = cellOf cy ad st i) : wsOf cy ad st' = (wsOf cy ad st).set o (ad o, cellOf cy ad st' o) := by
  apply List.ext_getElem?
  intro i
  by_cases hi : i < gN st
  · rw [wsOf_at (by rw [hn]; exact hi)]
    by_cases e : i = o
    · subst e
      rw [List.getElem?_set_self (by rw [wsOf_len]; exact hi)]
    · rw [List.getElem?_set_ne (Ne.symm e), wsOf_at hi, hk i hi e]
  · rw [List.getElem?_eq_none (by rw [wsOf_len, hn]; omega), List.getElem?_eq_none (by rw [List.length_set, wsOf_len]; omega)]
theorem cell_setI {cy : Nat → ClassId} {ad : Nat → Nat} {st : aSt} {o k i : Nat} {v : Int32} (h : i ≠ o) : cellOf cy ad (setI st o k v) i = cellOf cy ad st i := by
  have e : gI (setI st o k v) i = gI st i := by show va_up st.2.1 o _ i = st.2.1 i; exact va_up_ne _ _ h
  unfold cellOf fsOf
  rw [e]
  rfl
theorem cell_setRow {cy : Nat → ClassId} {ad : Nat → Nat} {st : aSt} {o i : Nat} {f : Nat → Int32} (h : i ≠ o) : cellOf cy ad (setRow st o f) i = cellOf cy ad st i := by
  have e : gI (setRow st o f) i = gI st i := by show va_up st.2.1 o _ i = st.2.1 i; exact va_up_ne _ _ h
  unfold cellOf fsOf
  rw [e]
  rfl
theorem cell_setJ {cy : Nat → ClassId} {ad : Nat → Nat} {st : aSt} {o k i : Nat} {v : Int64} (h : i ≠ o) : cellOf cy ad (setJ st o k v) i = cellOf cy ad st i := by
  have e : gJ (setJ st o k v) i = gJ st i := by show va_up st.2.2.1 o _ i = st.2.2.1 i; exact va_up_ne _ _ h
  unfold cellOf fsOf
  rw [e]
  rfl
theorem cell_setR {cy : Nat → ClassId} {ad : Nat → Nat} {st : aSt} {o k i : Nat} {v : Option Nat} (h : i ≠ o) : cellOf cy ad (setR st o k v) i = cellOf cy ad st i := by
  have e : gR (setR st o k v) i = gR st i := by show va_up st.2.2.2 o _ i = st.2.2.2 i; exact va_up_ne _ _ h
  unfold cellOf fsOf
  rw [e]
  rfl
theorem cell_ints {cy : Nat → ClassId} {ad : Nat → Nat} {st : aSt} {i : Nat} (h : KK i = 10) : cellOf cy ad st i = .inl (cy 0, LL i, .inl (gI st i)) := by
  unfold cellOf
  rw [if_pos h]
theorem cell_longs {cy : Nat → ClassId} {ad : Nat → Nat} {st : aSt} {i : Nat} (h : KK i = 11) : cellOf cy ad st i = .inl (cy 1, LL i, .inr (.inl (gJ st i))) := by
  unfold cellOf
  rw [if_neg (by rw [h]; decide), if_pos h]
theorem cell_refs {cy : Nat → ClassId} {ad : Nat → Nat} {st : aSt} {i : Nat} (h : KK i = 12) : cellOf cy ad st i = .inl (cy 2, LL i, .inr (.inr (.inr (.inr (fun j => (gR st i j).map ad))))) := by
  unfold cellOf
  rw [if_neg (by rw [h]; decide), if_neg (by rw [h]; decide), if_pos h]
theorem cell_obj {cy : Nat → ClassId} {ad : Nat → Nat} {st : aSt} {i : Nat} (h : KK i < 10) : cellOf cy ad st i = .inr (KK i, fsOf ad st i) := by
  unfold cellOf
  rw [if_neg (by omega), if_neg (by omega), if_neg (by omega)]
theorem fsOf_at {ad : Nat → Nat} {st : aSt} {i k : Nat} (h : k < nFl (KK i)) : (fsOf ad st i)[k]? = some (if iFl (KK i) k = true then .int (gI st i k) else va_rf ((gR st i k).map ad)) := by
  unfold fsOf
  rw [List.getElem?_map, List.getElem?_range h]
  rfl
theorem fsOf_len {ad : Nat → Nat} {st : aSt} {i : Nat} : (fsOf ad st i).length = nFl (KK i) := by
  unfold fsOf
  rw [List.length_map, List.length_range]
theorem fsOf_setI {ad : Nat → Nat} {st : aSt} {o k : Nat} {v : Int32} (hk : k < nFl (KK o)) (hi : iFl (KK o) k = true) : fsOf ad (setI st o k v) o = (fsOf ad st o).set k (.int v) := by
  apply List.ext_getElem?
  intro j
  by_cases hj : j < nFl (KK o)
  · rw [fsOf_at hj]
    by_cases e : j = k
    · subst e
      rw [List.getElem?_set_self (by rw [fsOf_len]; exact hj), if_pos hi]
      show some (Value.int (va_up st.2.1 o (upd (st.2.1 o) j v) o j)) = _
      rw [va_up_self, pk_us]
    · rw [List.getElem?_set_ne (Ne.symm e), fsOf_at hj]
      have e1 : gI (setI st o k v) o j = gI st o j := by show va_up st.2.1 o (upd (st.2.1 o) k v) o j = st.2.1 o j; rw [va_up_self, pk_un e]
      rw [e1]
      rfl
  · rw [List.getElem?_eq_none (by rw [fsOf_len]; omega), List.getElem?_eq_none (by rw [List.length_set, fsOf_len]; omega)]
theorem fsOf_setR {ad : Nat → Nat} {st : aSt} {o k : Nat} {v : Nat} (hk : k < nFl (KK o)) (hi : ¬ iFl (KK o) k = true) : fsOf ad (setR st o k (some v)) o = (fsOf ad st o).set k (.ref (ad v)) := by
  apply List.ext_getElem?
  intro j
  by_cases hj : j < nFl (KK o)
  · rw [fsOf_at hj]
    by_cases e : j = k
    · subst e
      rw [List.getElem?_set_self (by rw [fsOf_len]; exact hj), if_neg hi]
      show some (va_rf ((va_up st.2.2.2 o (va_up (st.2.2.2 o) j (some v)) o j).map ad)) = _
      rw [va_up_self, va_up_self]
      rfl
    · rw [List.getElem?_set_ne (Ne.symm e), fsOf_at hj]
      have e1 : gR (setR st o k (some v)) o j = gR st o j := by show va_up st.2.2.2 o (va_up (st.2.2.2 o) k (some v)) o j = st.2.2.2 o j; rw [va_up_self, va_up_ne _ _ e]
      rw [e1]
      rfl
  · rw [List.getElem?_eq_none (by rw [fsOf_len]; omega), List.getElem?_eq_none (by rw [List.length_set, fsOf_len]; omega)]
/-- the locals that are known -/
def held (ad : Nat → Nat) : Nat → aL → List (Nat × Value)
  | _, [] => []
  | i, none :: l => held ad (i + 1) l
  | i, some v :: l => (i, trv ad v) :: held ad (i + 1) l
theorem held_mem {ad : Nat → Nat} : ∀ (l : aL) (i j : Nat) (u : Value), (j, u) ∈ held ad i l ↔ i ≤ j ∧ ∃ v, l[j - i]? = some (some v) ∧ u = trv ad v
  | [], i, j, u => by simp [held]
  | none :: l, i, j, u => by
    rw [held, held_mem l (i + 1) j u]
    constructor
    · rintro ⟨h1, v, h2, h3⟩
      refine ⟨by omega, v, ?_, h3⟩
      rw [show j - i = (j - (i + 1)) + 1 by omega, List.getElem?_cons_succ]
      exact h2
    · rintro ⟨h1, v, h2, h3⟩
      by_cases e : j = i
      · subst e; simp at h2
      · refine ⟨by omega, v, ?_, h3⟩
        rw [show j - i = (j - (i + 1)) + 1 by omega, List.getElem?_cons_succ] at h2
        exact h2
  | some w :: l, i, j, u => by
    rw [held, List.mem_cons, held_mem l (i + 1) j u]
    constructor
    · rintro (h | ⟨h1, v, h2, h3⟩)
      · cases h
        exact ⟨Nat.le_refl _, w, by simp, rfl⟩
      · refine ⟨by omega, v, ?_, h3⟩
        rw [show j - i = (j - (i + 1)) + 1 by omega, List.getElem?_cons_succ]
        exact h2
    · rintro ⟨h1, v, h2, h3⟩
      by_cases e : j = i
      · subst e
        simp at h2
        subst h2
        exact Or.inl (by rw [h3])
      · refine Or.inr ⟨by omega, v, ?_, h3⟩
        rw [show j - i = (j - (i + 1)) + 1 by omega, List.getElem?_cons_succ] at h2
        exact h2
theorem held_mem0 {ad : Nat → Nat} {l : aL} {j : Nat} {u : Value} : (j, u) ∈ held ad 0 l ↔ ∃ v, l[j]? = some (some v) ∧ u = trv ad v := by
  rw [held_mem]
  simp
theorem noL_some {a : Option Value} {w : Value} (h : noL a = some w) : a = some w ∧ ¬ w.category = 2 := by
  match a, h with
  | none, h => cases h
  | some (.long x), h => cases h
  | some (.double x), h => cases h
  | some (.int x), h => cases h; exact ⟨rfl, by simp [Value.category]⟩
  | some (.float x), h => cases h; exact ⟨rfl, by simp [Value.category]⟩
  | some .null, h => cases h; exact ⟨rfl, by simp [Value.category]⟩
  | some (.ref x), h => cases h; exact ⟨rfl, by simp [Value.category]⟩
  | some (.retAddr x), h => cases h; exact ⟨rfl, by simp [Value.category]⟩
theorem lclr_at : ∀ (l : aL) (i j : Nat) (w : Value), (lclr l i)[j]? = some (some w) → l[j]? = some (some w) ∧ ¬ (j + 1 = i ∧ w.category = 2)
  | [], i, j, w, h => by simp [lclr] at h
  | a :: l, 0, j, w, h => ⟨by simpa [lclr] using h, by omega⟩
  | a :: l, 1, 0, w, h => by
    rw [lclr, List.getElem?_cons_zero] at h
    obtain ⟨h1, h2⟩ := noL_some (Option.some.inj h)
    exact ⟨by rw [List.getElem?_cons_zero, h1], fun q => h2 q.2⟩
  | a :: l, 1, j + 1, w, h => ⟨by simpa [lclr] using h, by omega⟩
  | a :: l, i + 2, 0, w, h => ⟨by simpa [lclr] using h, by omega⟩
  | a :: l, i + 2, j + 1, w, h => by
    rw [lclr, List.getElem?_cons_succ] at h
    obtain ⟨h1, h2⟩ := lclr_at l (i + 1) j w h
    exact ⟨by rw [List.getElem?_cons_succ]; exact h1, fun q => h2 ⟨by omega, q.2⟩⟩
theorem lst_at (l : aL) (i j : Nat) (v w : Value) (h : (lst l i v)[j]? = some (some w)) : (j = i ∧ w = v) ∨ (j ≠ i ∧ l[j]? = some (some w) ∧ ¬ (j + 1 = i ∧ w.category = 2)) := by
  unfold lst at h
  by_cases e : j = i
  · subst e
    rw [List.getElem?_set] at h
    simp only [if_true] at h
    split at h
    · exact Or.inl ⟨rfl, (Option.some.inj (Option.some.inj h)).symm⟩
    · cases h
  · rw [List.getElem?_set_ne (Ne.symm e)] at h
    exact Or.inr ⟨e, lclr_at l i j w h⟩
theorem lst2_at (l : aL) (i j : Nat) (v w : Value) (h : (lst2 l i v)[j]? = some (some w)) : (j = i ∧ w = v) ∨ (j ≠ i ∧ j ≠ i + 1 ∧ l[j]? = some (some w) ∧ ¬ (j + 1 = i ∧ w.category = 2)) := by
  unfold lst2 at h
  by_cases e1 : j = i + 1
  · subst e1
    rw [List.getElem?_set] at h
    simp only [if_true] at h
    split at h <;> cases h
  · rw [List.getElem?_set_ne (Ne.symm e1)] at h
    rcases lst_at l i j v w h with h | ⟨h1, h2, h3⟩
    · exact Or.inl h
    · exact Or.inr ⟨h1, e1, h2, h3⟩
theorem lno_at : ∀ (l : aL) (i j : Nat) (w : Value), (lno l i)[j]? = some (some w) → l[j]? = some (some w)
  | [], i, j, w, h => by simp [lno] at h
  | a :: l, 0, j, w, h => by
    rw [lno] at h
    cases j with
    | zero => simp at h
    | succ j => simpa using h
  | a :: l, i + 1, j, w, h => by
    rw [lno] at h
    cases j with
    | zero => simpa using h
    | succ j => rw [List.getElem?_cons_succ] at h ⊢; exact lno_at l i j w h
theorem aMask_at : ∀ (m : List Bool) (l : aL) (j : Nat) (w : Value), (aMask m l)[j]? = some (some w) → l[j]? = some (some w)
  | [], l, j, w, h => by simp [aMask] at h
  | b :: m, [], j, w, h => by simp [aMask] at h
  | b :: m, a :: l, j, w, h => by
    rw [aMask] at h
    cases j with
    | zero =>
      rw [List.getElem?_cons_zero] at h ⊢
      cases b
      · cases h
      · exact h
    | succ j => rw [List.getElem?_cons_succ] at h ⊢; exact aMask_at m l j w h
/-- the locals of the frame hold what is known -/
def LH (jl : Array Slot) (nL : Nat) (ad : Nat → Nat) (ls : aL) : Prop := lv_has jl nL (held ad 0 ls)
theorem LH.sub {jl : Array Slot} {nL : Nat} {ad : Nat → Nat} {ls ls' : aL} (h : LH jl nL ad ls) (hs : ∀ (j : Nat) (w : Value), ls'[j]? = some (some w) → ls[j]? = some (some w)) : LH jl nL ad ls' := by
  refine ⟨h.1, h.2.1, fun q hq => ?_⟩
  obtain ⟨v, h1, h2⟩ := held_mem0.mp (show (q.1, q.2) ∈ held ad 0 ls' from hq)
  exact h.2.2 q (held_mem0.mpr ⟨v, hs _ _ h1, h2⟩)
theorem LH.at {jl : Array Slot} {nL : Nat} {ad : Nat → Nat} {ls : aL} (h : LH jl nL ad ls) {i : Nat} {v : Value} (hv : ls[i]? = some (some v)) : jl[i]? = some (.val (trv ad v)) := h.2.2 (i, trv ad v) (held_mem0.mpr ⟨v, hv, rfl⟩)
theorem trv_cat (ad : Nat → Nat) (v : Value) : (trv ad v).category = v.category := by cases v <;> rfl
theorem LH.put {jl' : Array Slot} {nL : Nat} {ad : Nat → Nat} {ls : aL} {i : Nat} {v : Value} (h' : lv_has jl' nL ((i, trv ad v) :: (held ad 0 ls).filter (fun q => !(q.1 == i) && !(q.1 + 1 == i && q.2.category == 2)))) : LH jl' nL ad (lst ls i v) := by
  refine ⟨h'.1, h'.2.1, fun q hq => ?_⟩
  obtain ⟨w, h1, h2⟩ := held_mem0.mp (show (q.1, q.2) ∈ held ad 0 (lst ls i v) from hq)
  refine h'.2.2 q ?_
  rcases lst_at ls i q.1 v w h1 with ⟨e1, e2⟩ | ⟨e1, e2, e3⟩
  · obtain ⟨a, b⟩ := q
    simp only at e1 h2
    subst e1; subst e2; subst h2
    exact List.mem_cons_self
  · refine List.mem_cons_of_mem _ (List.mem_filter.mpr ⟨held_mem0.mpr ⟨w, e2, h2⟩, ?_⟩)
    have h3 : ¬ (q.1 + 1 = i ∧ q.2.category = 2) := by rw [h2, trv_cat]; exact e3
    simp only [Bool.and_eq_true, Bool.not_eq_true', beq_eq_false_iff_ne, Bool.and_eq_false_iff]
    refine ⟨e1, ?_⟩
    by_cases h4 : q.1 + 1 = i
    · exact Or.inr (fun h5 => h3 ⟨h4, h5⟩)
    · exact Or.inl h4
theorem LH.put2 {jl' : Array Slot} {nL : Nat} {ad : Nat → Nat} {ls : aL} {i : Nat} {v : Value} (h' : lv_has jl' nL ((i, trv ad v) :: (held ad 0 ls).filter (fun q => !(q.1 == i) && (!(q.1 == i + 1) && !(q.1 + 1 == i && q.2.category == 2))))) : LH jl' nL ad (lst2 ls i v) := by
  refine ⟨h'.1, h'.2.1, fun q hq => ?_⟩
  obtain ⟨w, h1, h2⟩ := held_mem0.mp (show (q.1, q.2) ∈ held ad 0 (lst2 ls i v) from hq)
  refine h'.2.2 q ?_
  rcases lst2_at ls i q.1 v w h1 with ⟨e1, e2⟩ | ⟨e1, e4, e2, e3⟩
  · obtain ⟨a, b⟩ := q
    simp only at e1 h2
    subst e1; subst e2; subst h2
    exact List.mem_cons_self
  · refine List.mem_cons_of_mem _ (List.mem_filter.mpr ⟨held_mem0.mpr ⟨w, e2, h2⟩, ?_⟩)
    have h3 : ¬ (q.1 + 1 = i ∧ q.2.category = 2) := by rw [h2, trv_cat]; exact e3
    simp only [Bool.and_eq_true, Bool.not_eq_true', beq_eq_false_iff_ne, Bool.and_eq_false_iff]
    refine ⟨e1, e4, ?_⟩
    by_cases h4 : q.1 + 1 = i
    · exact Or.inr (fun h5 => h3 ⟨h4, h5⟩)
    · exact Or.inl h4
