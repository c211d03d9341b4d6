/-! WHAT THE CONSTRUCTORS LEAVE -/
abbrev cOp : Type := Nat × Nat × Nat × Nat
def stp (st : aSt) (e : cOp) : aSt := if e.1 = 0 then mkNew st else if e.1 = 1 then setR st e.2.1 e.2.2.1 (some e.2.2.2) else if e.1 = 2 then setI st e.2.1 e.2.2.1 (nI e.2.2.2) else mkRows st e.2.2.2
def runO : List cOp → aSt → aSt
  | [], st => st
  | e :: l, st => runO l (stp st e)
def wrI : List cOp → (Nat → Nat → Int32) → (Nat → Nat → Int32)
  | [], I => I
  | e :: l, I => wrI l (if e.1 = 2 then uI I e.2.1 e.2.2.1 (nI e.2.2.2) else I)
def wrR : List cOp → (Nat → Nat → Option Nat) → (Nat → Nat → Option Nat)
  | [], R => R
  | e :: l, R => wrR l (if e.1 = 1 then uR R e.2.1 e.2.2.1 (some e.2.2.2) else if e.1 = 3 then va_up R e.2.1 (fun i => if i < e.2.2.2 then some (e.2.1 + 1 + i) else none) else R)
def wrN : List cOp → Nat → Nat
  | [], N => N
  | e :: l, N => wrN l (if e.1 = 0 then N + 1 else if e.1 = 3 then N + 1 + e.2.2.2 else N)
def okO : Nat → List cOp → Bool
  | _, [] => true
  | N, e :: l => if e.1 = 0 then okO (N + 1) l else if e.1 = 3 then Nat.beq e.2.1 N && okO (N + 1 + e.2.2.2) l else (Nat.blt e.2.1 N && Nat.ble e.1 3) && okO N l
def cln (N : Nat) (I : Nat → Nat → Int32) (J : Nat → Nat → Int64) (R : Nat → Nat → Option Nat) : Prop := ∀ o, N ≤ o → I o = (fun _ => 0) ∧ J o = (fun _ => 0) ∧ R o = (fun _ => none)
theorem va_up_id {α : Type} (f : Nat → Nat → α) {o : Nat} {g : Nat → α} (h : f o = g) : va_up f o g = f := by
  funext o' k
  by_cases e : o' = o
  · subst e
    rw [va_up_self, h]
  · rw [va_up_ne _ _ e]
theorem mkNew_c {N : Nat} {I : Nat → Nat → Int32} {J : Nat → Nat → Int64} {R : Nat → Nat → Option Nat} (h : cln N I J R) : mkNew (N, I, J, R) = (N + 1, I, J, R) := by
  obtain ⟨h1, h2, h3⟩ := h N (Nat.le_refl _)
  show (N + 1, va_up I N (fun _ => 0), va_up J N (fun _ => 0), va_up R N (fun _ => none)) = _
  rw [va_up_id I h1, va_up_id J h2, va_up_id R h3]
theorem mkRows_c {N : Nat} {I : Nat → Nat → Int32} {J : Nat → Nat → Int64} {R : Nat → Nat → Option Nat} (h : cln N I J R) (n : Nat) : mkRows (N, I, J, R) n = (N + 1 + n, I, J, va_up R N (fun i => if i < n then some (N + 1 + i) else none)) := by
  show (N + 1 + n, (fun o => if N ≤ o ∧ o ≤ N + n then (fun _ => 0) else I o), (fun o => if N ≤ o ∧ o ≤ N + n then (fun _ => 0) else J o), (fun o => if o = N then (fun i => if i < n then some (N + 1 + i) else none) else if N ≤ o ∧ o ≤ N + n then (fun _ => none) else R o)) = _
  have e1 : (fun o => if N ≤ o ∧ o ≤ N + n then (fun _ => (0 : Int32)) else I o) = I := by
    funext o
    by_cases q : N ≤ o ∧ o ≤ N + n
    · rw [if_pos q, (h o q.1).1]
    · rw [if_neg q]
  have e2 : (fun o => if N ≤ o ∧ o ≤ N + n then (fun _ => (0 : Int64)) else J o) = J := by
    funext o
    by_cases q : N ≤ o ∧ o ≤ N + n
    · rw [if_pos q, (h o q.1).2.1]
    · rw [if_neg q]
  have e3 : (fun o => if o = N then (fun i => if i < n then some (N + 1 + i) else none) else if N ≤ o ∧ o ≤ N + n then (fun _ => none) else R o) = va_up R N (fun i => if i < n then some (N + 1 + i) else none) := by
    funext o
    by_cases q0 : o = N
    · subst q0
      rw [if_pos rfl, va_up_self]
    · rw [if_neg q0, va_up_ne _ _ q0]
      by_cases q : N ≤ o ∧ o ≤ N + n
      · rw [if_pos q, (h o q.1).2.2]
      · rw [if_neg q]
  rw [e1, e2, e3]
theorem cln_up {N M : Nat} {I : Nat → Nat → Int32} {J : Nat → Nat → Int64} {R : Nat → Nat → Option Nat} (h : cln N I J R) (hm : N ≤ M) : cln M I J R := fun o ho => h o (Nat.le_trans hm ho)
theorem runO_nf : ∀ (l : List cOp) (N : Nat) (I : Nat → Nat → Int32) (J : Nat → Nat → Int64) (R : Nat → Nat → Option Nat), cln N I J R → okO N l = true → runO l (N, I, J, R) = (wrN l N, wrI l I, J, wrR l R) ∧ cln (wrN l N) (wrI l I) J (wrR l R)
  | [], N, I, J, R, h, _ => ⟨rfl, h⟩
  | e :: l, N, I, J, R, h, ho => by
    have ho : (if e.1 = 0 then okO (N + 1) l else if e.1 = 3 then Nat.beq e.2.1 N && okO (N + 1 + e.2.2.2) l else (Nat.blt e.2.1 N && Nat.ble e.1 3) && okO N l) = true := ho
    by_cases e0 : e.1 = 0
    · rw [if_pos e0] at ho
      have hs : stp (N, I, J, R) e = (N + 1, I, J, R) := by
        unfold stp
        rw [if_pos e0, mkNew_c h]
      have := runO_nf l (N + 1) I J R (cln_up h (by omega)) ho
      show runO l (stp (N, I, J, R) e) = (wrN l (if e.1 = 0 then N + 1 else if e.1 = 3 then N + 1 + e.2.2.2 else N), wrI l (if e.1 = 2 then uI I e.2.1 e.2.2.1 (nI e.2.2.2) else I), J, wrR l (if e.1 = 1 then uR R e.2.1 e.2.2.1 (some e.2.2.2) else if e.1 = 3 then va_up R e.2.1 (fun i => if i < e.2.2.2 then some (e.2.1 + 1 + i) else none) else R)) ∧ cln (wrN l (if e.1 = 0 then N + 1 else if e.1 = 3 then N + 1 + e.2.2.2 else N)) (wrI l (if e.1 = 2 then uI I e.2.1 e.2.2.1 (nI e.2.2.2) else I)) J (wrR l (if e.1 = 1 then uR R e.2.1 e.2.2.1 (some e.2.2.2) else if e.1 = 3 then va_up R e.2.1 (fun i => if i < e.2.2.2 then some (e.2.1 + 1 + i) else none) else R))
      rw [hs, if_pos e0, if_neg (by omega), if_neg (by omega), if_neg (by omega)]
      exact this
    · rw [if_neg e0] at ho
      by_cases e3 : e.1 = 3
      · rw [if_pos e3, Bool.and_eq_true] at ho
        have hN : e.2.1 = N := Nat.eq_of_beq_eq_true ho.1
        have hs : stp (N, I, J, R) e = (N + 1 + e.2.2.2, I, J, va_up R N (fun i => if i < e.2.2.2 then some (N + 1 + i) else none)) := by
          unfold stp
          rw [if_neg e0, if_neg (by omega), if_neg (by omega), mkRows_c h]
        have hc : cln (N + 1 + e.2.2.2) I J (va_up R N (fun i => if i < e.2.2.2 then some (N + 1 + i) else none)) := fun o q => by
          rw [va_up_ne _ _ (by omega)]
          exact h o (by omega)
        have := runO_nf l _ I J _ hc ho.2
        show runO l (stp (N, I, J, R) e) = (wrN l (if e.1 = 0 then N + 1 else if e.1 = 3 then N + 1 + e.2.2.2 else N), wrI l (if e.1 = 2 then uI I e.2.1 e.2.2.1 (nI e.2.2.2) else I), J, wrR l (if e.1 = 1 then uR R e.2.1 e.2.2.1 (some e.2.2.2) else if e.1 = 3 then va_up R e.2.1 (fun i => if i < e.2.2.2 then some (e.2.1 + 1 + i) else none) else R)) ∧ cln (wrN l (if e.1 = 0 then N + 1 else if e.1 = 3 then N + 1 + e.2.2.2 else N)) (wrI l (if e.1 = 2 then uI I e.2.1 e.2.2.1 (nI e.2.2.2) else I)) J (wrR l (if e.1 = 1 then uR R e.2.1 e.2.2.1 (some e.2.2.2) else if e.1 = 3 then va_up R e.2.1 (fun i => if i < e.2.2.2 then some (e.2.1 + 1 + i) else none) else R))
        rw [hs, if_neg e0, if_pos e3, if_neg (by omega), if_neg (by omega), if_pos e3, hN]
        exact this
      · rw [if_neg e3, Bool.and_eq_true, Bool.and_eq_true] at ho
        have hN : e.2.1 < N := by
          have := ho.1.1
          unfold Nat.blt at this
          exact Nat.le_of_ble_eq_true this
        have h3 := Nat.le_of_ble_eq_true ho.1.2
        show runO l (stp (N, I, J, R) e) = (wrN l (if e.1 = 0 then N + 1 else if e.1 = 3 then N + 1 + e.2.2.2 else N), wrI l (if e.1 = 2 then uI I e.2.1 e.2.2.1 (nI e.2.2.2) else I), J, wrR l (if e.1 = 1 then uR R e.2.1 e.2.2.1 (some e.2.2.2) else if e.1 = 3 then va_up R e.2.1 (fun i => if i < e.2.2.2 then some (e.2.1 + 1 + i) else none) else R)) ∧ cln (wrN l (if e.1 = 0 then N + 1 else if e.1 = 3 then N + 1 + e.2.2.2 else N)) (wrI l (if e.1 = 2 then uI I e.2.1 e.2.2.1 (nI e.2.2.2) else I)) J (wrR l (if e.1 = 1 then uR R e.2.1 e.2.2.1 (some e.2.2.2) else if e.1 = 3 then va_up R e.2.1 (fun i => if i < e.2.2.2 then some (e.2.1 + 1 + i) else none) else R))
        rw [if_neg e0, if_neg e3, if_neg e3]
        by_cases e1 : e.1 = 1
        · have hs : stp (N, I, J, R) e = (N, I, J, uR R e.2.1 e.2.2.1 (some e.2.2.2)) := by
            unfold stp
            rw [if_neg e0, if_pos e1]
            rfl
          rw [hs, if_neg (by omega), if_pos e1]
          refine runO_nf l N I J _ (fun o q => ?_) ho.2
          unfold uR
          rw [va_up_ne _ _ (by omega)]
          exact h o q
        · have e2 : e.1 = 2 := by omega
          have hs : stp (N, I, J, R) e = (N, uI I e.2.1 e.2.2.1 (nI e.2.2.2), J, R) := by
            unfold stp
            rw [if_neg e0, if_neg e1, if_pos e2]
            rfl
          rw [hs, if_pos e2, if_neg e1]
          refine runO_nf l N _ J R (fun o q => ?_) ho.2
          rw [uI_row _ _ (by omega)]
          exact h o q
def op_1 : List cOp := [(0, 0, 0, 0), (1, 1, 0, 2), (2, 1, 1, 0), (2, 1, 2, 0), (2, 1, 3, 0), (2, 1, 4, 0), (2, 1, 5, 0), (2, 1, 6, 0), (2, 1, 7, 4294967295)]
set_option maxRecDepth 100000 in
set_option maxHeartbeats 1000000 in
theorem ce_1 (X : Nat × (Nat → Int32)) (d n : Nat) (I : Nat → Nat → Int32) (J : Nat → Nat → Int64) (R : Nat → Nat → Option Nat) : aR X d m_X7_init (n + 1) 0 [some (.ref 1)] (0, 0) (2, I, J, R) = some (.inl none, setI (setI (setI (setI (setI (setI (setI (setR (mkNew ((2, I, J, R))) 1 0 (some 2)) 1 1 (nI 0)) 1 2 (nI 0)) 1 3 (nI 0)) 1 4 (nI 0)) 1 5 (nI 0)) 1 6 (nI 0)) 1 7 (nI 4294967295)) := rfl
theorem cg_1 (X : Nat × (Nat → Int32)) (d : Nat) (st : aSt) : am_call X aP (d + 1) 78 [.ref 1] st = aR X d m_X7_init (9999999 + 1) 0 [some (.ref 1)] (0, 0) st := am_go X d 78 _ st (by decide) ⟨Nat.le_of_ble_eq_true rfl, rfl⟩
theorem ct_1 (X : Nat × (Nat → Int32)) (d : Nat) {I : Nat → Nat → Int32} {J : Nat → Nat → Int64} {R : Nat → Nat → Option Nat} (h : cln 2 I J R) : am_call X aP (d + 1) 78 [.ref 1] (2, I, J, R) = some (.inl none, (3, wrI op_1 I, J, wrR op_1 R)) ∧ cln 3 (wrI op_1 I) J (wrR op_1 R) := by
  obtain ⟨h1, h2⟩ := runO_nf op_1 2 I J R h (by decide)
  exact ⟨((cg_1 X d _).trans (ce_1 X d 9999999 I J R)).trans (congrArg (fun z => (some (.inl none, z) : aRes)) h1), h2⟩
def op_3 : List cOp := [(0, 0, 0, 0), (1, 3, 0, 4), (0, 0, 0, 0), (1, 3, 1, 5), (0, 0, 0, 0), (1, 3, 2, 6), (0, 0, 0, 0), (1, 3, 3, 7), (2, 3, 4, 0), (2, 3, 5, 0), (2, 3, 6, 0), (2, 3, 7, 0)]
set_option maxRecDepth 100000 in
set_option maxHeartbeats 1000000 in
theorem ce_3 (X : Nat × (Nat → Int32)) (d n : Nat) (I : Nat → Nat → Int32) (J : Nat → Nat → Int64) (R : Nat → Nat → Option Nat) : aR X d m_X6_init (n + 1) 0 [some (.ref 3)] (0, 0) (4, I, J, R) = some (.inl none, setI (setI (setI (setI (setR (mkNew (setR (mkNew (setR (mkNew (setR (mkNew ((4, I, J, R))) 3 0 (some 4))) 3 1 (some 5))) 3 2 (some 6))) 3 3 (some 7)) 3 4 (nI 0)) 3 5 (nI 0)) 3 6 (nI 0)) 3 7 (nI 0)) := rfl
theorem cg_3 (X : Nat × (Nat → Int32)) (d : Nat) (st : aSt) : am_call X aP (d + 1) 67 [.ref 3] st = aR X d m_X6_init (9999999 + 1) 0 [some (.ref 3)] (0, 0) st := am_go X d 67 _ st (by decide) ⟨Nat.le_of_ble_eq_true rfl, rfl⟩
theorem ct_3 (X : Nat × (Nat → Int32)) (d : Nat) {I : Nat → Nat → Int32} {J : Nat → Nat → Int64} {R : Nat → Nat → Option Nat} (h : cln 4 I J R) : am_call X aP (d + 1) 67 [.ref 3] (4, I, J, R) = some (.inl none, (8, wrI op_3 I, J, wrR op_3 R)) ∧ cln 8 (wrI op_3 I) J (wrR op_3 R) := by
  obtain ⟨h1, h2⟩ := runO_nf op_3 4 I J R h (by decide)
  exact ⟨((cg_3 X d _).trans (ce_3 X d 9999999 I J R)).trans (congrArg (fun z => (some (.inl none, z) : aRes)) h1), h2⟩
def op_8 : List cOp := [(0, 0, 0, 0), (1, 8, 0, 9), (0, 0, 0, 0), (1, 8, 1, 10), (0, 0, 0, 0), (1, 8, 2, 11), (0, 0, 0, 0), (1, 8, 3, 12), (0, 0, 0, 0), (1, 8, 4, 13), (0, 0, 0, 0), (1, 8, 5, 14), (0, 0, 0, 0), (1, 8, 6, 15), (0, 0, 0, 0), (1, 8, 7, 16), (2, 8, 8, 0), (2, 8, 9, 0), (2, 8, 10, 0)]
set_option maxRecDepth 100000 in
set_option maxHeartbeats 1000000 in
theorem ce_8 (X : Nat × (Nat → Int32)) (d n : Nat) (I : Nat → Nat → Int32) (J : Nat → Nat → Int64) (R : Nat → Nat → Option Nat) : aR X d m_X5_init (n + 1) 0 [some (.ref 8)] (0, 0) (9, I, J, R) = some (.inl none, setI (setI (setI (setR (mkNew (setR (mkNew (setR (mkNew (setR (mkNew (setR (mkNew (setR (mkNew (setR (mkNew (setR (mkNew ((9, I, J, R))) 8 0 (some 9))) 8 1 (some 10))) 8 2 (some 11))) 8 3 (some 12))) 8 4 (some 13))) 8 5 (some 14))) 8 6 (some 15))) 8 7 (some 16)) 8 8 (nI 0)) 8 9 (nI 0)) 8 10 (nI 0)) := rfl
theorem cg_8 (X : Nat × (Nat → Int32)) (d : Nat) (st : aSt) : am_call X aP (d + 1) 46 [.ref 8] st = aR X d m_X5_init (9999999 + 1) 0 [some (.ref 8)] (0, 0) st := am_go X d 46 _ st (by decide) ⟨Nat.le_of_ble_eq_true rfl, rfl⟩
theorem ct_8 (X : Nat × (Nat → Int32)) (d : Nat) {I : Nat → Nat → Int32} {J : Nat → Nat → Int64} {R : Nat → Nat → Option Nat} (h : cln 9 I J R) : am_call X aP (d + 1) 46 [.ref 8] (9, I, J, R) = some (.inl none, (17, wrI op_8 I, J, wrR op_8 R)) ∧ cln 17 (wrI op_8 I) J (wrR op_8 R) := by
  obtain ⟨h1, h2⟩ := runO_nf op_8 9 I J R h (by decide)
  exact ⟨((cg_8 X d _).trans (ce_8 X d 9999999 I J R)).trans (congrArg (fun z => (some (.inl none, z) : aRes)) h1), h2⟩
def op_17 : List cOp := [(0, 0, 0, 0), (1, 17, 0, 18), (0, 0, 0, 0), (1, 17, 1, 19), (0, 0, 0, 0), (1, 17, 2, 20), (0, 0, 0, 0), (1, 17, 3, 21), (0, 0, 0, 0), (1, 17, 4, 22), (0, 0, 0, 0), (1, 17, 5, 23), (0, 0, 0, 0), (1, 17, 6, 24), (0, 0, 0, 0), (1, 17, 7, 25), (2, 17, 8, 0), (2, 17, 9, 0), (2, 17, 10, 0)]
set_option maxRecDepth 100000 in
set_option maxHeartbeats 1000000 in
theorem ce_17 (X : Nat × (Nat → Int32)) (d n : Nat) (I : Nat → Nat → Int32) (J : Nat → Nat → Int64) (R : Nat → Nat → Option Nat) : aR X d m_X5_init (n + 1) 0 [some (.ref 17)] (0, 0) (18, I, J, R) = some (.inl none, setI (setI (setI (setR (mkNew (setR (mkNew (setR (mkNew (setR (mkNew (setR (mkNew (setR (mkNew (setR (mkNew (setR (mkNew ((18, I, J, R))) 17 0 (some 18))) 17 1 (some 19))) 17 2 (some 20))) 17 3 (some 21))) 17 4 (some 22))) 17 5 (some 23))) 17 6 (some 24))) 17 7 (some 25)) 17 8 (nI 0)) 17 9 (nI 0)) 17 10 (nI 0)) := rfl
theorem cg_17 (X : Nat × (Nat → Int32)) (d : Nat) (st : aSt) : am_call X aP (d + 1) 46 [.ref 17] st = aR X d m_X5_init (9999999 + 1) 0 [some (.ref 17)] (0, 0) st := am_go X d 46 _ st (by decide) ⟨Nat.le_of_ble_eq_true rfl, rfl⟩
theorem ct_17 (X : Nat × (Nat → Int32)) (d : Nat) {I : Nat → Nat → Int32} {J : Nat → Nat → Int64} {R : Nat → Nat → Option Nat} (h : cln 18 I J R) : am_call X aP (d + 1) 46 [.ref 17] (18, I, J, R) = some (.inl none, (26, wrI op_17 I, J, wrR op_17 R)) ∧ cln 26 (wrI op_17 I) J (wrR op_17 R) := by
  obtain ⟨h1, h2⟩ := runO_nf op_17 18 I J R h (by decide)
  exact ⟨((cg_17 X d _).trans (ce_17 X d 9999999 I J R)).trans (congrArg (fun z => (some (.inl none, z) : aRes)) h1), h2⟩
def op_26 : List cOp := [(3, 27, 0, 16), (1, 26, 0, 27), (3, 44, 0, 51), (1, 26, 1, 44), (0, 0, 0, 0), (1, 26, 2, 96), (2, 26, 3, 0), (2, 26, 4, 0)]
noncomputable def zi (X : Nat × (Nat → Int32)) (d n k i : Nat) (stk : List Value) (cn : Nat × Nat) (st : aSt) : aRes := am_in X (am_call X aP d) m_X4_init (am_run X (am_call X aP d) m_X4_init n) k (m_X4_init.1.drop i) [some (.ref 26)] stk cn st
set_option maxRecDepth 100000 in
set_option maxHeartbeats 1000000 in
theorem zi_0 {X : Nat × (Nat → Int32)} {d n k : Nat} {st : aSt} {cn : Nat × Nat} : zi X d n (k + 5) 0 [] cn st = zi X d n k 5 [.int (nI 51), .int (nI 16), .ref 26] cn st := rfl
set_option maxRecDepth 100000 in
set_option maxHeartbeats 1000000 in
theorem zi_5 {X : Nat × (Nat → Int32)} {d n k : Nat} {I : Nat → Nat → Int32} {J : Nat → Nat → Int64} {R : Nat → Nat → Option Nat} : zi X d n (k + 1) 5 [.int (nI 51), .int (nI 16), .ref 26] (0, 0) (27, I, J, R) = (if ¬ (nI 16) < 0 ∧ ¬ (nI 51) < 0 ∧ (nI 16).toNatClampNeg = LL 27 ∧ 0 + (1 + LL 27) ≤ m_X4_init.2.2.2.1 ∧ 0 + (LL 27 + LL 27 * LL (27 + 1)) ≤ m_X4_init.2.2.2.2 ∧ KK 27 = 12 ∧ 27 + LL 27 < 1000000 ∧ (nI 51).toNatClampNeg = LL (27 + 1) ∧ (List.range (LL 27)).all (fun i => KK (27 + 1 + i) == 10 && LL (27 + 1 + i) == LL (27 + 1)) = true then zi X d n k 6 [.ref 27, .ref 26] (0 + 1 + LL 27, 0 + LL 27 + LL 27 * LL (27 + 1)) (mkRows (27, I, J, R) (LL 27)) else none) := rfl
set_option maxRecDepth 100000 in
set_option maxHeartbeats 1000000 in
theorem zi_6 {X : Nat × (Nat → Int32)} {d n k : Nat} {st : aSt} {cn : Nat × Nat} : zi X d n (k + 4) 6 [.ref 27, .ref 26] cn st = zi X d n k 10 [.int (nI 51), .int (nI 51), .ref 26] cn (setR st 26 0 (some 27)) := rfl
set_option maxRecDepth 100000 in
set_option maxHeartbeats 1000000 in
theorem zi_10 {X : Nat × (Nat → Int32)} {d n k : Nat} {I : Nat → Nat → Int32} {J : Nat → Nat → Int64} {R : Nat → Nat → Option Nat} : zi X d n (k + 1) 10 [.int (nI 51), .int (nI 51), .ref 26] (17, 832) (44, I, J, R) = (if ¬ (nI 51) < 0 ∧ ¬ (nI 51) < 0 ∧ (nI 51).toNatClampNeg = LL 44 ∧ 17 + (1 + LL 44) ≤ m_X4_init.2.2.2.1 ∧ 832 + (LL 44 + LL 44 * LL (44 + 1)) ≤ m_X4_init.2.2.2.2 ∧ KK 44 = 12 ∧ 44 + LL 44 < 1000000 ∧ (nI 51).toNatClampNeg = LL (44 + 1) ∧ (List.range (LL 44)).all (fun i => KK (44 + 1 + i) == 10 && LL (44 + 1 + i) == LL (44 + 1)) = true then zi X d n k 11 [.ref 44, .ref 26] (17 + 1 + LL 44, 832 + LL 44 + LL 44 * LL (44 + 1)) (mkRows (44, I, J, R) (LL 44)) else none) := rfl
set_option maxRecDepth 100000 in
set_option maxHeartbeats 1000000 in
theorem zi_11 {X : Nat × (Nat → Int32)} {d n k : Nat} {I : Nat → Nat → Int32} {J : Nat → Nat → Int64} {R : Nat → Nat → Option Nat} : zi X d n (k + 12) 11 [.ref 44, .ref 26] (69, 3484) (96, I, J, R) = some (.inl none, setI (setI (setR (mkNew (setR (96, I, J, R) 26 1 (some 44))) 26 2 (some 96)) 26 3 (nI 0)) 26 4 (nI 0)) := rfl
theorem zi_c1 : ¬ (nI 16) < 0 ∧ ¬ (nI 51) < 0 ∧ (nI 16).toNatClampNeg = LL 27 ∧ 0 + (1 + LL 27) ≤ m_X4_init.2.2.2.1 ∧ 0 + (LL 27 + LL 27 * LL (27 + 1)) ≤ m_X4_init.2.2.2.2 ∧ KK 27 = 12 ∧ 27 + LL 27 < 1000000 ∧ (nI 51).toNatClampNeg = LL (27 + 1) ∧ (List.range (LL 27)).all (fun i => KK (27 + 1 + i) == 10 && LL (27 + 1 + i) == LL (27 + 1)) = true := by decide +kernel
theorem zi_c2 : ¬ (nI 51) < 0 ∧ ¬ (nI 51) < 0 ∧ (nI 51).toNatClampNeg = LL 44 ∧ 17 + (1 + LL 44) ≤ m_X4_init.2.2.2.1 ∧ 832 + (LL 44 + LL 44 * LL (44 + 1)) ≤ m_X4_init.2.2.2.2 ∧ KK 44 = 12 ∧ 44 + LL 44 < 1000000 ∧ (nI 51).toNatClampNeg = LL (44 + 1) ∧ (List.range (LL 44)).all (fun i => KK (44 + 1 + i) == 10 && LL (44 + 1 + i) == LL (44 + 1)) = true := by decide +kernel
theorem zl_27 : LL 27 = 16 ∧ LL (27 + 1) = 51 ∧ LL 44 = 51 ∧ LL (44 + 1) = 51 := by decide
theorem ce_26 (X : Nat × (Nat → Int32)) (d n : Nat) (I : Nat → Nat → Int32) (J : Nat → Nat → Int64) (R : Nat → Nat → Option Nat) : aR X d m_X4_init (n + 1) 0 [some (.ref 26)] (0, 0) (27, I, J, R) = some (.inl none, setI (setI (setR (mkNew (setR (mkRows (setR (mkRows (27, I, J, R) 16) 26 0 (some 27)) 51) 26 1 (some 44))) 26 2 (some 96)) 26 3 (nI 0)) 26 4 (nI 0)) := by
  obtain ⟨l1, l2, l3, l4⟩ := zl_27
  refine Eq.trans (b := zi X d n 400 0 [] (0, 0) (27, I, J, R)) rfl ?_
  rw [zi_0, zi_5, if_pos zi_c1, zi_6, l1, l2]
  refine Eq.trans (zi_10 (I := gI (setR (mkRows (27, I, J, R) 16) 26 0 (some 27))) (J := gJ (setR (mkRows (27, I, J, R) 16) 26 0 (some 27))) (R := gR (setR (mkRows (27, I, J, R) 16) 26 0 (some 27)))) ?_
  rw [if_pos zi_c2, l3, l4]
  exact zi_11 (I := gI (mkRows (setR (mkRows (27, I, J, R) 16) 26 0 (some 27)) 51)) (J := gJ (mkRows (setR (mkRows (27, I, J, R) 16) 26 0 (some 27)) 51)) (R := gR (mkRows (setR (mkRows (27, I, J, R) 16) 26 0 (some 27)) 51))
theorem cg_26 (X : Nat × (Nat → Int32)) (d : Nat) (st : aSt) : am_call X aP (d + 1) 40 [.ref 26] st = aR X d m_X4_init (9999999 + 1) 0 [some (.ref 26)] (0, 0) st := am_go X d 40 _ st (by decide) ⟨Nat.le_of_ble_eq_true rfl, rfl⟩
theorem ct_26 (X : Nat × (Nat → Int32)) (d : Nat) {I : Nat → Nat → Int32} {J : Nat → Nat → Int64} {R : Nat → Nat → Option Nat} (h : cln 27 I J R) : am_call X aP (d + 1) 40 [.ref 26] (27, I, J, R) = some (.inl none, (97, wrI op_26 I, J, wrR op_26 R)) ∧ cln 97 (wrI op_26 I) J (wrR op_26 R) := by
  obtain ⟨h1, h2⟩ := runO_nf op_26 27 I J R h (by decide)
  exact ⟨((cg_26 X d _).trans (ce_26 X d 9999999 I J R)).trans (congrArg (fun z => (some (.inl none, z) : aRes)) h1), h2⟩
def op_97 : List cOp := [(0, 0, 0, 0), (1, 97, 0, 98), (0, 0, 0, 0), (1, 97, 1, 99), (2, 97, 2, 4294967295), (2, 97, 3, 4294967295), (2, 97, 4, 4294967295)]
set_option maxRecDepth 100000 in
set_option maxHeartbeats 1000000 in
theorem ce_97 (X : Nat × (Nat → Int32)) (d n : Nat) (I : Nat → Nat → Int32) (J : Nat → Nat → Int64) (R : Nat → Nat → Option Nat) : aR X d m_X8_init (n + 1) 0 [some (.ref 97)] (0, 0) (98, I, J, R) = some (.inl none, setI (setI (setI (setR (mkNew (setR (mkNew ((98, I, J, R))) 97 0 (some 98))) 97 1 (some 99)) 97 2 (nI 4294967295)) 97 3 (nI 4294967295)) 97 4 (nI 4294967295)) := rfl
theorem cg_97 (X : Nat × (Nat → Int32)) (d : Nat) (st : aSt) : am_call X aP (d + 1) 93 [.ref 97] st = aR X d m_X8_init (9999999 + 1) 0 [some (.ref 97)] (0, 0) st := am_go X d 93 _ st (by decide) ⟨Nat.le_of_ble_eq_true rfl, rfl⟩
theorem ct_97 (X : Nat × (Nat → Int32)) (d : Nat) {I : Nat → Nat → Int32} {J : Nat → Nat → Int64} {R : Nat → Nat → Option Nat} (h : cln 98 I J R) : am_call X aP (d + 1) 93 [.ref 97] (98, I, J, R) = some (.inl none, (100, wrI op_97 I, J, wrR op_97 R)) ∧ cln 100 (wrI op_97 I) J (wrR op_97 R) := by
  obtain ⟨h1, h2⟩ := runO_nf op_97 98 I J R h (by decide)
  exact ⟨((cg_97 X d _).trans (ce_97 X d 9999999 I J R)).trans (congrArg (fun z => (some (.inl none, z) : aRes)) h1), h2⟩
def op_100 : List cOp := [(0, 0, 0, 0), (1, 100, 0, 101), (0, 0, 0, 0), (1, 100, 1, 102), (0, 0, 0, 0), (1, 100, 2, 103), (0, 0, 0, 0), (1, 100, 3, 104), (0, 0, 0, 0), (1, 100, 4, 105), (0, 0, 0, 0), (1, 100, 5, 106), (2, 100, 6, 0), (2, 100, 7, 0), (2, 100, 8, 0)]
set_option maxRecDepth 100000 in
set_option maxHeartbeats 1000000 in
theorem ce_100 (X : Nat × (Nat → Int32)) (d n : Nat) (I : Nat → Nat → Int32) (J : Nat → Nat → Int64) (R : Nat → Nat → Option Nat) : aR X d m_X2_init (n + 1) 0 [some (.ref 100)] (0, 0) (101, I, J, R) = some (.inl none, setI (setI (setI (setR (mkNew (setR (mkNew (setR (mkNew (setR (mkNew (setR (mkNew (setR (mkNew ((101, I, J, R))) 100 0 (some 101))) 100 1 (some 102))) 100 2 (some 103))) 100 3 (some 104))) 100 4 (some 105))) 100 5 (some 106)) 100 6 (nI 0)) 100 7 (nI 0)) 100 8 (nI 0)) := rfl
theorem cg_100 (X : Nat × (Nat → Int32)) (d : Nat) (st : aSt) : am_call X aP (d + 1) 17 [.ref 100] st = aR X d m_X2_init (9999999 + 1) 0 [some (.ref 100)] (0, 0) st := am_go X d 17 _ st (by decide) ⟨Nat.le_of_ble_eq_true rfl, rfl⟩
theorem ct_100 (X : Nat × (Nat → Int32)) (d : Nat) {I : Nat → Nat → Int32} {J : Nat → Nat → Int64} {R : Nat → Nat → Option Nat} (h : cln 101 I J R) : am_call X aP (d + 1) 17 [.ref 100] (101, I, J, R) = some (.inl none, (107, wrI op_100 I, J, wrR op_100 R)) ∧ cln 107 (wrI op_100 I) J (wrR op_100 R) := by
  obtain ⟨h1, h2⟩ := runO_nf op_100 101 I J R h (by decide)
  exact ⟨((cg_100 X d _).trans (ce_100 X d 9999999 I J R)).trans (congrArg (fun z => (some (.inl none, z) : aRes)) h1), h2⟩
def op_107 : List cOp := [(0, 0, 0, 0), (1, 107, 0, 108), (0, 0, 0, 0), (1, 107, 1, 109), (0, 0, 0, 0), (1, 107, 2, 110), (0, 0, 0, 0), (1, 107, 3, 111), (0, 0, 0, 0), (1, 107, 4, 112), (0, 0, 0, 0), (1, 107, 5, 113), (2, 107, 6, 0), (2, 107, 7, 0), (2, 107, 8, 0)]
set_option maxRecDepth 100000 in
set_option maxHeartbeats 1000000 in
theorem ce_107 (X : Nat × (Nat → Int32)) (d n : Nat) (I : Nat → Nat → Int32) (J : Nat → Nat → Int64) (R : Nat → Nat → Option Nat) : aR X d m_X2_init (n + 1) 0 [some (.ref 107)] (0, 0) (108, I, J, R) = some (.inl none, setI (setI (setI (setR (mkNew (setR (mkNew (setR (mkNew (setR (mkNew (setR (mkNew (setR (mkNew ((108, I, J, R))) 107 0 (some 108))) 107 1 (some 109))) 107 2 (some 110))) 107 3 (some 111))) 107 4 (some 112))) 107 5 (some 113)) 107 6 (nI 0)) 107 7 (nI 0)) 107 8 (nI 0)) := rfl
theorem cg_107 (X : Nat × (Nat → Int32)) (d : Nat) (st : aSt) : am_call X aP (d + 1) 17 [.ref 107] st = aR X d m_X2_init (9999999 + 1) 0 [some (.ref 107)] (0, 0) st := am_go X d 17 _ st (by decide) ⟨Nat.le_of_ble_eq_true rfl, rfl⟩
theorem ct_107 (X : Nat × (Nat → Int32)) (d : Nat) {I : Nat → Nat → Int32} {J : Nat → Nat → Int64} {R : Nat → Nat → Option Nat} (h : cln 108 I J R) : am_call X aP (d + 1) 17 [.ref 107] (108, I, J, R) = some (.inl none, (114, wrI op_107 I, J, wrR op_107 R)) ∧ cln 114 (wrI op_107 I) J (wrR op_107 R) := by
  obtain ⟨h1, h2⟩ := runO_nf op_107 108 I J R h (by decide)
  exact ⟨((cg_107 X d _).trans (ce_107 X d 9999999 I J R)).trans (congrArg (fun z => (some (.inl none, z) : aRes)) h1), h2⟩
def op_114 : List cOp := [(0, 0, 0, 0), (1, 114, 0, 115), (0, 0, 0, 0), (1, 114, 1, 116), (0, 0, 0, 0), (1, 114, 2, 117), (0, 0, 0, 0), (1, 114, 3, 118), (2, 114, 4, 0), (2, 116, 0, 2), (2, 114, 4, 1)]
set_option maxRecDepth 100000 in
set_option maxHeartbeats 1000000 in
theorem ce_114 (X : Nat × (Nat → Int32)) (d n : Nat) (I : Nat → Nat → Int32) (J : Nat → Nat → Int64) (R : Nat → Nat → Option Nat) : aR X d m_X3_init (n + 1) 0 [some (.ref 114)] (0, 0) (115, I, J, R) = some (.inl none, setI (setI (setI (setR (mkNew (setR (mkNew (setR (mkNew (setR (mkNew ((115, I, J, R))) 114 0 (some 115))) 114 1 (some 116))) 114 2 (some 117))) 114 3 (some 118)) 114 4 (nI 0)) 116 0 (nI 2)) 114 4 (nI 1)) := rfl
theorem cg_114 (X : Nat × (Nat → Int32)) (d : Nat) (st : aSt) : am_call X aP (d + 1) 27 [.ref 114] st = aR X d m_X3_init (9999999 + 1) 0 [some (.ref 114)] (0, 0) st := am_go X d 27 _ st (by decide) ⟨Nat.le_of_ble_eq_true rfl, rfl⟩
theorem ct_114 (X : Nat × (Nat → Int32)) (d : Nat) {I : Nat → Nat → Int32} {J : Nat → Nat → Int64} {R : Nat → Nat → Option Nat} (h : cln 115 I J R) : am_call X aP (d + 1) 27 [.ref 114] (115, I, J, R) = some (.inl none, (119, wrI op_114 I, J, wrR op_114 R)) ∧ cln 119 (wrI op_114 I) J (wrR op_114 R) := by
  obtain ⟨h1, h2⟩ := runO_nf op_114 115 I J R h (by decide)
  exact ⟨((cg_114 X d _).trans (ce_114 X d 9999999 I J R)).trans (congrArg (fun z => (some (.inl none, z) : aRes)) h1), h2⟩
def op_119 : List cOp := [(0, 0, 0, 0), (1, 119, 0, 120), (0, 0, 0, 0), (1, 119, 1, 121), (0, 0, 0, 0), (1, 119, 2, 122), (0, 0, 0, 0), (1, 119, 3, 123), (2, 119, 4, 0), (2, 121, 0, 2), (2, 119, 4, 1)]
set_option maxRecDepth 100000 in
set_option maxHeartbeats 1000000 in
theorem ce_119 (X : Nat × (Nat → Int32)) (d n : Nat) (I : Nat → Nat → Int32) (J : Nat → Nat → Int64) (R : Nat → Nat → Option Nat) : aR X d m_X3_init (n + 1) 0 [some (.ref 119)] (0, 0) (120, I, J, R) = some (.inl none, setI (setI (setI (setR (mkNew (setR (mkNew (setR (mkNew (setR (mkNew ((120, I, J, R))) 119 0 (some 120))) 119 1 (some 121))) 119 2 (some 122))) 119 3 (some 123)) 119 4 (nI 0)) 121 0 (nI 2)) 119 4 (nI 1)) := rfl
theorem cg_119 (X : Nat × (Nat → Int32)) (d : Nat) (st : aSt) : am_call X aP (d + 1) 27 [.ref 119] st = aR X d m_X3_init (9999999 + 1) 0 [some (.ref 119)] (0, 0) st := am_go X d 27 _ st (by decide) ⟨Nat.le_of_ble_eq_true rfl, rfl⟩
theorem ct_119 (X : Nat × (Nat → Int32)) (d : Nat) {I : Nat → Nat → Int32} {J : Nat → Nat → Int64} {R : Nat → Nat → Option Nat} (h : cln 120 I J R) : am_call X aP (d + 1) 27 [.ref 119] (120, I, J, R) = some (.inl none, (124, wrI op_119 I, J, wrR op_119 R)) ∧ cln 124 (wrI op_119 I) J (wrR op_119 R) := by
  obtain ⟨h1, h2⟩ := runO_nf op_119 120 I J R h (by decide)
  exact ⟨((cg_119 X d _).trans (ce_119 X d 9999999 I J R)).trans (congrArg (fun z => (some (.inl none, z) : aRes)) h1), h2⟩
def op_124 : List cOp := [(0, 0, 0, 0), (1, 124, 0, 125), (0, 0, 0, 0), (1, 124, 1, 126), (0, 0, 0, 0), (1, 124, 2, 127), (2, 124, 3, 0), (2, 124, 4, 4294967295), (2, 124, 5, 4294967295)]
set_option maxRecDepth 100000 in
set_option maxHeartbeats 1000000 in
theorem ce_124 (X : Nat × (Nat → Int32)) (d n : Nat) (I : Nat → Nat → Int32) (J : Nat → Nat → Int64) (R : Nat → Nat → Option Nat) : aR X d m_X0_init (n + 1) 0 [some (.ref 124)] (0, 0) (125, I, J, R) = some (.inl none, setI (setI (setI (setR (mkNew (setR (mkNew (setR (mkNew ((125, I, J, R))) 124 0 (some 125))) 124 1 (some 126))) 124 2 (some 127)) 124 3 (nI 0)) 124 4 (nI 4294967295)) 124 5 (nI 4294967295)) := rfl
theorem cg_124 (X : Nat × (Nat → Int32)) (d : Nat) (st : aSt) : am_call X aP (d + 1) 0 [.ref 124] st = aR X d m_X0_init (9999999 + 1) 0 [some (.ref 124)] (0, 0) st := am_go X d 0 _ st (by decide) ⟨Nat.le_of_ble_eq_true rfl, rfl⟩
theorem ct_124 (X : Nat × (Nat → Int32)) (d : Nat) {I : Nat → Nat → Int32} {J : Nat → Nat → Int64} {R : Nat → Nat → Option Nat} (h : cln 125 I J R) : am_call X aP (d + 1) 0 [.ref 124] (125, I, J, R) = some (.inl none, (128, wrI op_124 I, J, wrR op_124 R)) ∧ cln 128 (wrI op_124 I) J (wrR op_124 R) := by
  obtain ⟨h1, h2⟩ := runO_nf op_124 125 I J R h (by decide)
  exact ⟨((cg_124 X d _).trans (ce_124 X d 9999999 I J R)).trans (congrArg (fun z => (some (.inl none, z) : aRes)) h1), h2⟩
def op_128 : List cOp := [(0, 0, 0, 0), (1, 128, 0, 129), (0, 0, 0, 0), (1, 128, 1, 130), (0, 0, 0, 0), (1, 128, 2, 131), (2, 128, 3, 0), (2, 128, 4, 4294967295), (2, 128, 5, 4294967295)]
set_option maxRecDepth 100000 in
set_option maxHeartbeats 1000000 in
theorem ce_128 (X : Nat × (Nat → Int32)) (d n : Nat) (I : Nat → Nat → Int32) (J : Nat → Nat → Int64) (R : Nat → Nat → Option Nat) : aR X d m_X0_init (n + 1) 0 [some (.ref 128)] (0, 0) (129, I, J, R) = some (.inl none, setI (setI (setI (setR (mkNew (setR (mkNew (setR (mkNew ((129, I, J, R))) 128 0 (some 129))) 128 1 (some 130))) 128 2 (some 131)) 128 3 (nI 0)) 128 4 (nI 4294967295)) 128 5 (nI 4294967295)) := rfl
theorem cg_128 (X : Nat × (Nat → Int32)) (d : Nat) (st : aSt) : am_call X aP (d + 1) 0 [.ref 128] st = aR X d m_X0_init (9999999 + 1) 0 [some (.ref 128)] (0, 0) st := am_go X d 0 _ st (by decide) ⟨Nat.le_of_ble_eq_true rfl, rfl⟩
theorem ct_128 (X : Nat × (Nat → Int32)) (d : Nat) {I : Nat → Nat → Int32} {J : Nat → Nat → Int64} {R : Nat → Nat → Option Nat} (h : cln 129 I J R) : am_call X aP (d + 1) 0 [.ref 128] (129, I, J, R) = some (.inl none, (132, wrI op_128 I, J, wrR op_128 R)) ∧ cln 132 (wrI op_128 I) J (wrR op_128 R) := by
  obtain ⟨h1, h2⟩ := runO_nf op_128 129 I J R h (by decide)
  exact ⟨((cg_128 X d _).trans (ce_128 X d 9999999 I J R)).trans (congrArg (fun z => (some (.inl none, z) : aRes)) h1), h2⟩
