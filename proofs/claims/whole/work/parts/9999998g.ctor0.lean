/-! CONTRACTS ONCE MORE, in the states in which the constructors call them -/
def R132 (w : Bool × Bool × Bool) : Nat → Nat → Option Nat := fun o k => if o < 132 then RX w o k else none
def mkU (w : Bool × Bool × Bool) (I : Nat → Nat → Int32) (J : Nat → Nat → Int64) : aSt := (132, I, J, R132 w)
def mkT (w : Bool × Bool × Bool) (I : Nat → Nat → Int32) (J : Nat → Nat → Int64) : aSt := (158, I, J, RX w)
theorem gI_mkU (w : Bool × Bool × Bool) (I : Nat → Nat → Int32) (J : Nat → Nat → Int64) : gI (mkU w I J) = I := id rfl
theorem gJ_mkU (w : Bool × Bool × Bool) (I : Nat → Nat → Int32) (J : Nat → Nat → Int64) : gJ (mkU w I J) = J := id rfl
theorem gI_mkT (w : Bool × Bool × Bool) (I : Nat → Nat → Int32) (J : Nat → Nat → Int64) : gI (mkT w I J) = I := id rfl
theorem gJ_mkT (w : Bool × Bool × Bool) (I : Nat → Nat → Int32) (J : Nat → Nat → Int64) : gJ (mkT w I J) = J := id rfl
set_option maxRecDepth 100000 in
set_option maxHeartbeats 4000000 in
theorem eu_J7_fill_53178_0 (X : Nat × (Nat → Int32)) (d n : Nat) (w : Bool × Bool × Bool) (I : Nat → Nat → Int32) (J : Nat → Nat → Int64) (o0 : Nat) (x1 : Int32) : aR X d m_J7_fill_53178 (n + 1) 0 [some (.ref o0), some (.int x1), none, none] (0, 0) (mkU w I J) =
  if o0 = 1000000 then (aR X d m_J7_fill_53178 n 5 [some (.ref o0), some (.int x1), some (.int (nI 0)), some (.int (nI X.1))] (0, 0) (mkU w I J)) else if KK o0 = 10 then (aR X d m_J7_fill_53178 n 5 [some (.ref o0), some (.int x1), some (.int (nI 0)), some (.int (nI (LL o0)))] (0, 0) (mkU w I J)) else none := rfl
set_option maxRecDepth 100000 in
set_option maxHeartbeats 4000000 in
theorem eu_J7_fill_53178_5 (X : Nat × (Nat → Int32)) (d n : Nat) (w : Bool × Bool × Bool) (I : Nat → Nat → Int32) (J : Nat → Nat → Int64) (o0 : Nat) (x1 : Int32) (x2 : Int32) (x3 : Int32) : aR X d m_J7_fill_53178 (n + 1) 5 [some (.ref o0), some (.int x1), some (.int x2), some (.int x3)] (0, 0) (mkU w I J) =
  if x2 < x3 then (if KK o0 = 10 ∧ o0 < 1000000 then (if x2 < 0 ∨ LL o0 ≤ x2.toNatClampNeg then none else aR X d m_J7_fill_53178 n 5 [some (.ref o0), some (.int x1), some (.int (x2 + nI 1)), some (.int x3)] (0, 0) (mkU w (uI I o0 x2.toNatClampNeg x1) J)) else none) else rV (mkU w I J) := rfl
set_option maxRecDepth 100000 in
set_option maxHeartbeats 4000000 in
theorem eu_X5_begin_0 (X : Nat × (Nat → Int32)) (d n : Nat) (w : Bool × Bool × Bool) (I : Nat → Nat → Int32) (J : Nat → Nat → Int64) (bl : Bool) (bs : Bool)  : aR X d m_X5_begin (n + 1) 0 [some (.ref (iS bs)), some (.ref (iL bl))] (0, 0) (mkU w I J) =
  if KK ((iL bl) + 4) = 10 ∧ KK ((iS bs) + 1) = 10 ∧ ((iL bl) + 4) < 1000000 ∧ ((iS bs) + 1) < 1000000 ∧ ¬ (nI 0) < 0 ∧ ¬ (nI 0) < 0 ∧ ¬ (nI 12) < 0 ∧ (nI 0).toNatClampNeg + (nI 12).toNatClampNeg ≤ LL ((iL bl) + 4) ∧ (nI 0).toNatClampNeg + (nI 12).toNatClampNeg ≤ LL ((iS bs) + 1) ∧ 0 ≤ 8 then (aR X d m_X5_begin n 14 [some (.ref (iS bs)), some (.ref (iL bl))] (0, 0) (mkU w (va_up (uI (uI I (iS bs) 8 (nI 0)) (iS bs) 9 (nI 0)) ((iS bs) + 1) (va_cpy ((uI (uI I (iS bs) 8 (nI 0)) (iS bs) 9 (nI 0)) ((iL bl) + 4)) ((uI (uI I (iS bs) 8 (nI 0)) (iS bs) 9 (nI 0)) ((iS bs) + 1)) (nI 0).toNatClampNeg (nI 0).toNatClampNeg (nI 12).toNatClampNeg)) J)) else none := by cases bl <;> cases bs <;> rfl
set_option maxRecDepth 100000 in
set_option maxHeartbeats 4000000 in
theorem eu_X5_begin_14 (X : Nat × (Nat → Int32)) (d n : Nat) (w : Bool × Bool × Bool) (I : Nat → Nat → Int32) (J : Nat → Nat → Int64) (bl : Bool) (bs : Bool)  : aR X d m_X5_begin (n + 1) 14 [some (.ref (iS bs)), some (.ref (iL bl))] (0, 0) (mkU w I J) =
  cV (am_call X aP d 301 [.ref ((iS bs) + 2), .int (nI 0)] (mkU w I J)) (fun s1 => if KK ((iL bl) + 5) = 10 ∧ KK ((iS bs) + 3) = 10 ∧ ((iL bl) + 5) < 1000000 ∧ ((iS bs) + 3) < 1000000 ∧ ¬ (nI 0) < 0 ∧ ¬ (nI 0) < 0 ∧ ¬ (nI 5) < 0 ∧ (nI 0).toNatClampNeg + (nI 5).toNatClampNeg ≤ LL ((iL bl) + 5) ∧ (nI 0).toNatClampNeg + (nI 5).toNatClampNeg ≤ LL ((iS bs) + 3) ∧ 0 ≤ 8 then (aR X d m_X5_begin n 26 [some (.ref (iS bs)), some (.ref (iL bl))] (0, 0) (mkU w (va_up (gI s1) ((iS bs) + 3) (va_cpy ((gI s1) ((iL bl) + 5)) ((gI s1) ((iS bs) + 3)) (nI 0).toNatClampNeg (nI 0).toNatClampNeg (nI 5).toNatClampNeg)) (gJ s1))) else none) (fun e9 s1 => rX e9 (mkU w (gI s1) (gJ s1))) := by cases bl <;> cases bs <;> rfl
set_option maxRecDepth 100000 in
set_option maxHeartbeats 4000000 in
theorem eu_X5_begin_26 (X : Nat × (Nat → Int32)) (d n : Nat) (w : Bool × Bool × Bool) (I : Nat → Nat → Int32) (J : Nat → Nat → Int64) (bl : Bool) (bs : Bool)  : aR X d m_X5_begin (n + 1) 26 [some (.ref (iS bs)), some (.ref (iL bl))] (0, 0) (mkU w I J) =
  if KK ((iL bl) + 5) = 10 ∧ KK ((iS bs) + 4) = 10 ∧ ((iL bl) + 5) < 1000000 ∧ ((iS bs) + 4) < 1000000 ∧ ¬ (nI 0) < 0 ∧ ¬ (nI 0) < 0 ∧ ¬ (nI 5) < 0 ∧ (nI 0).toNatClampNeg + (nI 5).toNatClampNeg ≤ LL ((iL bl) + 5) ∧ (nI 0).toNatClampNeg + (nI 5).toNatClampNeg ≤ LL ((iS bs) + 4) ∧ 0 ≤ 8 then (aR X d m_X5_begin n 34 [some (.ref (iS bs)), some (.ref (iL bl))] (0, 0) (mkU w (va_up I ((iS bs) + 4) (va_cpy (I ((iL bl) + 5)) (I ((iS bs) + 4)) (nI 0).toNatClampNeg (nI 0).toNatClampNeg (nI 5).toNatClampNeg)) J)) else none := by cases bl <;> cases bs <;> rfl
set_option maxRecDepth 100000 in
set_option maxHeartbeats 4000000 in
theorem eu_X5_begin_34 (X : Nat × (Nat → Int32)) (d n : Nat) (w : Bool × Bool × Bool) (I : Nat → Nat → Int32) (J : Nat → Nat → Int64) (bl : Bool) (bs : Bool)  : aR X d m_X5_begin (n + 1) 34 [some (.ref (iS bs)), some (.ref (iL bl))] (0, 0) (mkU w I J) =
  cV (am_call X aP d 301 [.ref ((iS bs) + 5), .int (nI 4294967295)] (mkU w I J)) (fun s1 => cV (am_call X aP d 301 [.ref ((iS bs) + 6), .int (nI 0)] (mkU w (gI s1) (gJ s1))) (fun s2 => if KK ((iL bl) + 6) = 10 ∧ KK ((iS bs) + 7) = 10 ∧ ((iL bl) + 6) < 1000000 ∧ ((iS bs) + 7) < 1000000 ∧ ¬ (nI 0) < 0 ∧ ¬ (nI 0) < 0 ∧ ¬ (nI 5) < 0 ∧ (nI 0).toNatClampNeg + (nI 5).toNatClampNeg ≤ LL ((iL bl) + 6) ∧ (nI 0).toNatClampNeg + (nI 5).toNatClampNeg ≤ LL ((iS bs) + 7) ∧ 0 ≤ 8 then (rV (mkU w (va_up (gI s2) ((iS bs) + 7) (va_cpy ((gI s2) ((iL bl) + 6)) ((gI s2) ((iS bs) + 7)) (nI 0).toNatClampNeg (nI 0).toNatClampNeg (nI 5).toNatClampNeg)) (gJ s2))) else none) (fun e9 s2 => rX e9 (mkU w (gI s2) (gJ s2)))) (fun e9 s1 => rX e9 (mkU w (gI s1) (gJ s1))) := by cases bl <;> cases bs <;> rfl
set_option maxRecDepth 100000 in
set_option maxHeartbeats 4000000 in
theorem et_X10_copies_0 (X : Nat × (Nat → Int32)) (d n : Nat) (w : Bool × Bool × Bool) (I : Nat → Nat → Int32) (J : Nat → Nat → Int64) (o1 : Nat) (o2 : Nat) (x3 : Int32) : aR X d m_X10_copies (n + 1) 0 [some (.ref 132), some (.ref o1), some (.ref o2), some (.int x3), none] (0, 0) (mkT w I J) =
  aR X d m_X10_copies n 2 [none, some (.ref o1), some (.ref o2), some (.int x3), some (.int (nI 0))] (0, 0) (mkT w I J) := rfl
set_option maxRecDepth 100000 in
set_option maxHeartbeats 4000000 in
theorem et_X10_copies_2 (X : Nat × (Nat → Int32)) (d n : Nat) (w : Bool × Bool × Bool) (I : Nat → Nat → Int32) (J : Nat → Nat → Int64) (o1 : Nat) (o2 : Nat) (x3 : Int32) (x4 : Int32) : aR X d m_X10_copies (n + 1) 2 [none, some (.ref o1), some (.ref o2), some (.int x3), some (.int x4)] (0, 0) (mkT w I J) =
  if x4 < x3 then (if o1 = 1000000 then (if x4 < 0 ∨ X.1 ≤ x4.toNatClampNeg then none else if KK o2 = 10 ∧ o2 < 1000000 then (if x4 < 0 ∨ LL o2 ≤ x4.toNatClampNeg then none else aR X d m_X10_copies n 2 [none, some (.ref o1), some (.ref o2), some (.int x3), some (.int (x4 + nI 1))] (0, 0) (mkT w (uI I o2 x4.toNatClampNeg (X.2 x4.toNatClampNeg)) J)) else none) else if KK o1 = 10 then (if x4 < 0 ∨ LL o1 ≤ x4.toNatClampNeg then none else if KK o2 = 10 ∧ o2 < 1000000 then (if x4 < 0 ∨ LL o2 ≤ x4.toNatClampNeg then none else aR X d m_X10_copies n 2 [none, some (.ref o1), some (.ref o2), some (.int x3), some (.int (x4 + nI 1))] (0, 0) (mkT w (uI I o2 x4.toNatClampNeg (I o1 x4.toNatClampNeg)) J)) else none) else none) else rV (mkT w I J) := rfl
set_option maxRecDepth 100000 in
set_option maxHeartbeats 4000000 in
theorem et_X10_sets_0 (X : Nat × (Nat → Int32)) (d n : Nat) (w : Bool × Bool × Bool) (I : Nat → Nat → Int32) (J : Nat → Nat → Int64)  : aR X d m_X10_sets (n + 1) 0 [some (.ref 132), none] (0, 0) (mkT w I J) =
  cV (am_call X aP d 171 [.ref 132, .ref 135, .ref 137, .int (nI 48)] (mkT w (uI (uI (uI I 132 17 (I 132 14)) 132 18 ((uI I 132 17 (I 132 14)) 132 15)) 132 19 ((uI (uI I 132 17 (I 132 14)) 132 18 ((uI I 132 17 (I 132 14)) 132 15)) 132 16)) J)) (fun s1 => cV (am_call X aP d 171 [.ref 132, .ref 136, .ref 138, .int (nI 10)] (mkT w (gI s1) (gJ s1))) (fun s2 => aR X d m_X10_sets n 43 [some (.ref 132), some (.int (nI 0))] (0, 0) (mkT w (uI (uI (uI (uI (uI (gI s2) 132 26 (nI 0)) 132 42 (nI 0)) 132 31 (nI 0)) 132 49 (nI 0)) 132 32 (nI 0)) (gJ s2))) (fun e9 s2 => rX e9 (mkT w (gI s2) (gJ s2)))) (fun e9 s1 => rX e9 (mkT w (gI s1) (gJ s1))) := rfl
set_option maxRecDepth 100000 in
set_option maxHeartbeats 4000000 in
theorem et_X10_sets_43 (X : Nat × (Nat → Int32)) (d n : Nat) (w : Bool × Bool × Bool) (I : Nat → Nat → Int32) (J : Nat → Nat → Int64) (x1 : Int32) : aR X d m_X10_sets (n + 1) 43 [some (.ref 132), some (.int x1)] (0, 0) (mkT w I J) =
  if x1 < (nI 51) then (if x1 < 0 ∨ 51 ≤ x1.toNatClampNeg then none else aR X d m_X10_sets n 43 [some (.ref 132), some (.int (x1 + nI 1))] (0, 0) (mkT w (uI I 147 x1.toNatClampNeg (nI 0)) J)) else aR X d m_X10_sets n 55 [some (.ref 132), some (.int (nI 0))] (0, 0) (mkT w I J) := rfl
set_option maxRecDepth 100000 in
set_option maxHeartbeats 4000000 in
theorem et_X10_sets_55 (X : Nat × (Nat → Int32)) (d n : Nat) (w : Bool × Bool × Bool) (I : Nat → Nat → Int32) (J : Nat → Nat → Int64) (x1 : Int32) : aR X d m_X10_sets (n + 1) 55 [some (.ref 132), some (.int x1)] (0, 0) (mkT w I J) =
  if x1 < (I 132 18) then (if (((nI 4) * x1) + (nI 3)) < 0 ∨ 48 ≤ (((nI 4) * x1) + (nI 3)).toNatClampNeg then none else if ((nI 0) + x1) < 0 ∨ 51 ≤ ((nI 0) + x1).toNatClampNeg then none else aR X d m_X10_sets n 55 [some (.ref 132), some (.int (x1 + nI 1))] (0, 0) (mkT w (uI I 147 ((nI 0) + x1).toNatClampNeg (I 137 (((nI 4) * x1) + (nI 3)).toNatClampNeg)) J)) else aR X d m_X10_sets n 77 [some (.ref 132), some (.int (nI 0))] (0, 0) (mkT w I J) := rfl
set_option maxRecDepth 100000 in
set_option maxHeartbeats 4000000 in
theorem et_X10_sets_77 (X : Nat × (Nat → Int32)) (d n : Nat) (w : Bool × Bool × Bool) (I : Nat → Nat → Int32) (J : Nat → Nat → Int64) (x1 : Int32) : aR X d m_X10_sets (n + 1) 77 [some (.ref 132), some (.int x1)] (0, 0) (mkT w I J) =
  if x1 < (I 132 19) then (if ((nI 2) * x1) < 0 ∨ 10 ≤ ((nI 2) * x1).toNatClampNeg then none else if ((nI 24) + x1) < 0 ∨ 51 ≤ ((nI 24) + x1).toNatClampNeg then none else if ((nI 2) * x1) < 0 ∨ 10 ≤ ((nI 2) * x1).toNatClampNeg then none else if ((nI 29) + x1) < 0 ∨ 51 ≤ ((nI 29) + x1).toNatClampNeg then none else if ((nI 34) + x1) < 0 ∨ 51 ≤ ((nI 34) + x1).toNatClampNeg then none else if (((nI 2) * x1) + (nI 1)) < 0 ∨ 10 ≤ (((nI 2) * x1) + (nI 1)).toNatClampNeg then none else if ((nI 44) + x1) < 0 ∨ 51 ≤ ((nI 44) + x1).toNatClampNeg then none else aR X d m_X10_sets n 77 [some (.ref 132), some (.int (x1 + nI 1))] (0, 0) (mkT w (uI (uI (uI (uI I 147 ((nI 24) + x1).toNatClampNeg (I 138 ((nI 2) * x1).toNatClampNeg)) 147 ((nI 29) + x1).toNatClampNeg ((uI I 147 ((nI 24) + x1).toNatClampNeg (I 138 ((nI 2) * x1).toNatClampNeg)) 138 ((nI 2) * x1).toNatClampNeg)) 147 ((nI 34) + x1).toNatClampNeg (nI 4294967295)) 147 ((nI 44) + x1).toNatClampNeg ((uI (uI (uI I 147 ((nI 24) + x1).toNatClampNeg (I 138 ((nI 2) * x1).toNatClampNeg)) 147 ((nI 29) + x1).toNatClampNeg ((uI I 147 ((nI 24) + x1).toNatClampNeg (I 138 ((nI 2) * x1).toNatClampNeg)) 138 ((nI 2) * x1).toNatClampNeg)) 147 ((nI 34) + x1).toNatClampNeg (nI 4294967295)) 138 (((nI 2) * x1) + (nI 1)).toNatClampNeg)) J)) else rV (mkT w I J) := rfl
set_option maxRecDepth 100000 in
set_option maxHeartbeats 4000000 in
theorem et_X10_clears_0 (X : Nat × (Nat → Int32)) (d n : Nat) (w : Bool × Bool × Bool) (I : Nat → Nat → Int32) (J : Nat → Nat → Int64)  : aR X d m_X10_clears (n + 1) 0 [some (.ref 132)] (0, 0) (mkT w I J) =
  rV (mkT w (uI (uI (uI I 132 14 (nI 0)) 132 15 (nI 0)) 132 16 (nI 0)) J) := rfl
section CT1
variable {X : Nat × (Nat → Int32)} {d : Nat} {w : Bool × Bool × Bool} {S : Hp} {J : Nat → Nat → Int64} {nT nR nC : Int} {rd s : Int → Int} {cd : List (Int × Int)} {bl bs bw : Bool}
theorem u_fill {o : Nat} (h1 : KK o = 10) (h2 : o < 1000000) {n : Int} (hn : n = (LL o : Int)) (hn3 : n < 3000) (v : Int) : am_call X aP (d + 1) 301 [.ref o, .int (zI v)] (mkU w (hI S) J) = some (.inl none, (mkU w (hI (fillS S o n v)) J)) := by
  rw [go_J7_fill_53178, eu_J7_fill_53178_0, if_neg (by omega), if_pos h1, z_0, z_nI, ← hn]
  have hpres : ∀ (k : Int) (T : Hp), 0 ≤ k → k < n → T = fillS S o k v → uS T o k v = fillS S o (k + 1) v := fun k T q1 q2 q3 => by
    rw [q3]
    funext o' a
    unfold fillS
    rw [uS_at]
    by_cases e1 : o' = o ∧ a = k
    · rw [if_pos e1, if_pos ⟨e1.1, by omega⟩]
    · rw [if_neg e1]
      by_cases e2 : o' = o ∧ 0 ≤ a ∧ a < k
      · rw [if_pos e2, if_pos ⟨e2.1, by omega⟩]
      · rw [if_neg e2, if_neg (fun z => e2 ⟨z.1, z.2.1, by have := z.1; omega⟩)]
  have h0 : S = fillS S o 0 v := by
    funext o' a
    unfold fillS
    rw [if_neg (by omega)]
  have := loopA (fun n' k T => aR X d m_J7_fill_53178 n' 5 [some (.ref o), some (.int (zI v)), some (.int (zI k)), some (.int (zI n))] (0, 0) (mkU w (hI T) J)) (fun k T => uS T o k v) (fun k T => T = fillS S o k v) n 1 (fun T => some (.inl none, (mkU w (hI T) J))) (fun n' k T q1 q2 q3 => by
    show aR X d m_J7_fill_53178 (n' + 1) 5 [some (.ref o), some (.int (zI v)), some (.int (zI k)), some (.int (zI n))] (0, 0) (mkU w (hI T) J) = aR X d m_J7_fill_53178 n' 5 [some (.ref o), some (.int (zI v)), some (.int (zI ((k + 1)))), some (.int (zI n))] (0, 0) (mkU w (hI (uS T o k v)) J)
    rw [eu_J7_fill_53178_5]
    simp (disch := omega) only [hk, hu, hI_n, hI_un, z_nat, em_d, zl, z_add, z_sub, z_mul, z_lt, z_eq, gI_mkU, gJ_mkU, cI_some, cV_some, cJ_some, cI_x, cV_x, cJ_x, uS_self, uS_ne, if_pos, if_neg, b01, b01n, ite_not, if_true, if_false, h1, h2, true_and, and_true]) hpres (fun n' T q1 q2 => by
    obtain ⟨n', rfl⟩ : ∃ m, n' = m + 1 := ⟨n' - 1, by omega⟩
    show aR X d m_J7_fill_53178 (n' + 1) 5 [some (.ref o), some (.int (zI v)), some (.int (zI n)), some (.int (zI n))] (0, 0) (mkU w (hI T) J) = _
    rw [eu_J7_fill_53178_5]
    simp (disch := omega) only [hk, hu, hI_n, hI_un, z_nat, em_d, zl, z_add, z_sub, z_mul, z_lt, z_eq, gI_mkU, gJ_mkU, cI_some, cV_some, cJ_some, cI_x, cV_x, cJ_x, uS_self, uS_ne, if_pos, if_neg, b01, b01n, ite_not, if_true, if_false, rV_d]) n.toNat 0 S (by omega) (by omega) h0 9999999 (by omega)
  have hV := fold_V (fun k T => uS T o k v) (fun k T => T = fillS S o k v) n hpres n.toNat 0 S (by omega) (by omega) h0
  have hV : fold (fun k T => uS T o k v) n.toNat 0 S = fillS S o n v := hV
  rw [hV] at this
  exact this
end CT1
section CT2
variable {X : Nat × (Nat → Int32)} {d : Nat} {w : Bool × Bool × Bool} {S : Hp} {J : Nat → Nat → Int64} {B : Nat → Int} {sz n tp : Int} {x : LSt} {bl bw bb : Bool}
theorem u_nowBegin (w : Bool × Bool × Bool) (J : Nat → Nat → Int64) (hL : CLd S (iL bl) x) : ∃ S', (∀ d, am_call X aP (d + 2) 47 [.ref 8, .ref ((iL bl))] (mkU w (hI S) J) = some (.inl none, (mkU w (hI S') J))) ∧ CS x.2.1 x.2.2.1 S' 8 (s0F x) ∧ Fr [8, 9, 10, 11, 12, 13, 14, 15] S S' ∧ ∀ k, k ≠ 8 → k ≠ 9 → S' 8 k = S 8 k := by
  have hb := iL_c bl
  obtain ⟨t6, t7, t8, hr, hc, ⟨a1, a2⟩, ⟨a3, a4⟩, ⟨a5, a6⟩, -⟩ := id hL
  have f1 : ∀ (T : Hp) d, am_call X aP (d + 1) 301 [.ref 10, .int (zI 0)] (mkU w (hI T) J) = some (.inl none, (mkU w (hI (fillS T 10 12 0)) J)) := fun T d => u_fill (X := X) (d := d) (w := w) (J := J) (S := T) rfl (by decide) rfl (by decide) 0
  have f2 : ∀ (T : Hp) d, am_call X aP (d + 1) 301 [.ref 13, .int (zI ((-1)))] (mkU w (hI T) J) = some (.inl none, (mkU w (hI (fillS T 13 5 (-1))) J)) := fun T d => u_fill (X := X) (d := d) (w := w) (J := J) (S := T) rfl (by decide) rfl (by decide) (-1)
  have f3 : ∀ (T : Hp) d, am_call X aP (d + 1) 301 [.ref 14, .int (zI 0)] (mkU w (hI T) J) = some (.inl none, (mkU w (hI (fillS T 14 5 0)) J)) := fun T d => u_fill (X := X) (d := d) (w := w) (J := J) (S := T) rfl (by decide) rfl (by decide) 0
  have fo : ∀ (T : Hp) (o : Nat) (m v : Int) (o' : Nat), o' ≠ o → fillS T o m v o' = T o' := fun T o m v o' ho => fillS_fr T o m v o' (fun z => ho (List.mem_singleton.mp z))
  have fi : ∀ (T : Hp) (o : Nat) (m v a : Int), 0 ≤ a → a < m → fillS T o m v o a = v := fun T o m v a h1 h2 => by
    unfold fillS
    rw [if_pos ⟨rfl, h1, h2⟩]
  refine ⟨cpy (fillS (fillS (cpy (cpy (fillS (cpy (uS (uS S 8 8 0) 8 9 0) (iL bl + 4) 9 0 0 12) 10 12 0) (iL bl + 5) 11 0 0 5) (iL bl + 5) 12 0 0 5) 13 5 (-1)) 14 5 0) (iL bl + 6) 15 0 0 5, fun d => ?_, ⟨fun r r1 r2 => ?_, fun c c1 c2 => ?_, ?_, ?_⟩, fun o ho => ?_, fun k q1 q2 => ?_⟩
  · have h0 := eu_X5_begin_0 X (d + 1) 9999999 w (hI S) J bl false
    have e14 := eu_X5_begin_14 X (d + 1) 9999998 w (hI (cpy (uS (uS S 8 8 0) 8 9 0) (iL bl + 4) 9 0 0 12)) J bl false
    have e26 := eu_X5_begin_26 X (d + 1) 9999997 w (hI (cpy (fillS (cpy (uS (uS S 8 8 0) 8 9 0) (iL bl + 4) 9 0 0 12) 10 12 0) (iL bl + 5) 11 0 0 5)) J bl false
    have e34 := eu_X5_begin_34 X (d + 1) 9999996 w (hI (cpy (cpy (fillS (cpy (uS (uS S 8 8 0) 8 9 0) (iL bl + 4) 9 0 0 12) 10 12 0) (iL bl + 5) 11 0 0 5) (iL bl + 5) 12 0 0 5)) J bl false
    have eS : iS false = 8 := rfl
    rw [eS] at h0 e14 e26 e34
    have k1 : KK (8 + 1) = 10 := rfl
    have k3 : KK (8 + 3) = 10 := rfl
    have k4 : KK (8 + 4) = 10 := rfl
    have k7 : KK (8 + 7) = 10 := rfl
    have l1 : LL (8 + 1) = 12 := rfl
    have l3 : LL (8 + 3) = 5 := rfl
    have l4 : LL (8 + 4) = 5 := rfl
    have l7 : LL (8 + 7) = 5 := rfl
    refine (go_X5_begin X (d + 1) false bl (mkU w (hI S) J)).trans ?_
    refine h0.trans ?_
    simp (disch := omega) only [hk, hu, hI_n, hI_un, z_nat, em_d, zl, z_add, z_sub, z_mul, z_lt, z_eq, gI_mkU, gJ_mkU, cI_some, cV_some, cJ_some, cI_x, cV_x, cJ_x, uS_self, uS_ne, if_pos, if_neg, b01, b01n, ite_not, if_true, if_false, Bool.false_eq_true, hLL, k1, l1, and_true, true_and, eq_self, hI_cpy]
    refine e14.trans ?_
    refine cV_go (st := mkU w (hI (fillS (cpy (uS (uS S 8 8 0) 8 9 0) (iL bl + 4) 9 0 0 12) 10 12 0)) J) ?_ ?_
    · simp only [zl]
      exact f1 _ _
    simp (disch := omega) only [hk, hu, hI_n, hI_un, z_nat, em_d, zl, z_add, z_sub, z_mul, z_lt, z_eq, gI_mkU, gJ_mkU, cI_some, cV_some, cJ_some, cI_x, cV_x, cJ_x, uS_self, uS_ne, if_pos, if_neg, b01, b01n, ite_not, if_true, if_false, Bool.false_eq_true, hLL, k3, l3, and_true, true_and, eq_self, hI_cpy]
    refine e26.trans ?_
    simp (disch := omega) only [hk, hu, hI_n, hI_un, z_nat, em_d, zl, z_add, z_sub, z_mul, z_lt, z_eq, gI_mkU, gJ_mkU, cI_some, cV_some, cJ_some, cI_x, cV_x, cJ_x, uS_self, uS_ne, if_pos, if_neg, b01, b01n, ite_not, if_true, if_false, Bool.false_eq_true, hLL, k4, l4, and_true, true_and, eq_self, hI_cpy]
    refine e34.trans ?_
    refine cV_go (st := mkU w (hI (fillS (cpy (cpy (fillS (cpy (uS (uS S 8 8 0) 8 9 0) (iL bl + 4) 9 0 0 12) 10 12 0) (iL bl + 5) 11 0 0 5) (iL bl + 5) 12 0 0 5) 13 5 (-1))) J) ?_ ?_
    · simp only [zl]
      exact f2 _ _
    refine cV_go (st := mkU w (hI (fillS (fillS (cpy (cpy (fillS (cpy (uS (uS S 8 8 0) 8 9 0) (iL bl + 4) 9 0 0 12) 10 12 0) (iL bl + 5) 11 0 0 5) (iL bl + 5) 12 0 0 5) 13 5 (-1)) 14 5 0)) J) ?_ ?_
    · simp only [gI_mkU, gJ_mkU, zl]
      exact f3 _ _
    simp (disch := omega) only [hk, hu, hI_n, hI_un, z_nat, em_d, zl, z_add, z_sub, z_mul, z_lt, z_eq, gI_mkU, gJ_mkU, cI_some, cV_some, cJ_some, cI_x, cV_x, cJ_x, uS_self, uS_ne, if_pos, if_neg, b01, b01n, ite_not, if_true, if_false, Bool.false_eq_true, hLL, k7, l7, and_true, true_and, eq_self, hI_cpy, rV_d]
  · obtain ⟨e1, e2⟩ := s0_r x (r := r) ⟨r1, by omega⟩
    rw [e1, e2]
    constructor
    · show cpy _ _ 15 0 0 5 9 r = _
      rw [cpy_row _ (by decide), fo _ _ _ _ _ (by decide), fo _ _ _ _ _ (by decide), cpy_row _ (by decide), cpy_row _ (by decide), fo _ _ _ _ _ (by decide), cpy_in _ (by omega), uS_row _ _ _ (by omega), uS_row _ _ _ (by omega), show 0 + (r - 0) = r by omega]
      exact (hr r r1 r2).2.2.2
    · show cpy _ _ 15 0 0 5 10 r = _
      rw [cpy_row _ (by decide), fo _ _ _ _ _ (by decide), fo _ _ _ _ _ (by decide), cpy_row _ (by decide), cpy_row _ (by decide), fi _ _ _ _ _ r1 (by omega)]
  · obtain ⟨e1, e2, e3, e4, e5⟩ := s0_c x (c := c) ⟨c1, by omega⟩
    obtain ⟨b1, b2⟩ := hc c c1 c2
    have ex : 0 + (c - 0) = c := by omega
    rw [e1, e2, e3, e4, e5]
    refine ⟨?_, ?_, ?_, ?_, ?_⟩
    · show cpy _ _ 15 0 0 5 11 c = _
      rw [cpy_row _ (by decide), fo _ _ _ _ _ (by decide), fo _ _ _ _ _ (by decide), cpy_row _ (by decide), cpy_in _ (by omega), fo _ _ _ _ _ (by omega), cpy_row _ (by omega), uS_row _ _ _ (by omega), uS_row _ _ _ (by omega), ex]
      exact b1
    · show cpy _ _ 15 0 0 5 12 c = _
      rw [cpy_row _ (by decide), fo _ _ _ _ _ (by decide), fo _ _ _ _ _ (by decide), cpy_in _ (by omega), cpy_row _ (by omega), fo _ _ _ _ _ (by omega), cpy_row _ (by omega), uS_row _ _ _ (by omega), uS_row _ _ _ (by omega), ex]
      exact b1
    · show cpy _ _ 15 0 0 5 13 c = _
      rw [cpy_row _ (by decide), fo _ _ _ _ _ (by decide), fi _ _ _ _ _ c1 (by omega)]
    · show cpy _ _ 15 0 0 5 14 c = _
      rw [cpy_row _ (by decide), fi _ _ _ _ _ c1 (by omega)]
    · show cpy _ _ 15 0 0 5 15 c = _
      rw [cpy_in _ (by omega), fo _ _ _ _ _ (by omega), fo _ _ _ _ _ (by omega), cpy_row _ (by omega), cpy_row _ (by omega), fo _ _ _ _ _ (by omega), cpy_row _ (by omega), uS_row _ _ _ (by omega), uS_row _ _ _ (by omega), ex]
      exact b2
  · rw [cpy_row _ (by decide), fo _ _ _ _ _ (by decide), fo _ _ _ _ _ (by decide), cpy_row _ (by decide), cpy_row _ (by decide), fo _ _ _ _ _ (by decide), cpy_row _ (by decide), uS_ne _ _ (Or.inr (by decide)), uS_self]
    rfl
  · rw [cpy_row _ (by decide), fo _ _ _ _ _ (by decide), fo _ _ _ _ _ (by decide), cpy_row _ (by decide), cpy_row _ (by decide), fo _ _ _ _ _ (by decide), cpy_row _ (by decide), uS_self]
    rfl
  · simp only [List.mem_cons, List.not_mem_nil, or_false, not_or] at ho
    rw [cpy_row _ (by omega), fo _ _ _ _ _ (by omega), fo _ _ _ _ _ (by omega), cpy_row _ (by omega), cpy_row _ (by omega), fo _ _ _ _ _ (by omega), cpy_row _ (by omega), uS_row _ _ _ (by omega), uS_row _ _ _ (by omega)]
  · rw [cpy_row _ (by decide), fo _ _ _ _ _ (by decide), fo _ _ _ _ _ (by decide), cpy_row _ (by decide), cpy_row _ (by decide), fo _ _ _ _ _ (by decide), cpy_row _ (by decide), uS_ne _ _ (Or.inr q2), uS_ne _ _ (Or.inr q1)]
end CT2
section CT3
variable {X : Nat × (Nat → Int32)} {d : Nat} {w : Bool × Bool × Bool} {S : Hp} {J : Nat → Nat → Int64}
theorem t_copies {o1 o2 : Nat} {n : Int} (h1 : KK o1 = 10) (h2 : KK o2 = 10) (h3 : o1 < 1000000) (h4 : o2 < 1000000) (hn : 0 ≤ n) (hn1 : n ≤ (LL o1 : Int)) (hn2 : n ≤ (LL o2 : Int)) (hn3 : n < 3000) (hne : o1 ≠ o2) : am_call X aP (d + 1) 171 [.ref 132, .ref o1, .ref o2, .int (zI n)] (mkT w (hI S) J) = some (.inl none, (mkT w (hI (cpS S o1 o2 n)) J)) := by
  rw [go_X10_copies, et_X10_copies_0, z_0]
  have := loopA (fun n' k T => aR X d m_X10_copies n' 2 [none, some (.ref o1), some (.ref o2), some (.int (zI n)), some (.int (zI k))] (0, 0) (mkT w (hI T) J)) (fun k T => uS T o2 k (T o1 k)) (fun k T => T = cpS S o1 o2 k) n 1 (fun T => some (.inl none, (mkT w (hI T) J))) (fun n' k T q1 q2 q3 => by
    show aR X d m_X10_copies (n' + 1) 2 [none, some (.ref o1), some (.ref o2), some (.int (zI n)), some (.int (zI k))] (0, 0) (mkT w (hI T) J) = aR X d m_X10_copies n' 2 [none, some (.ref o1), some (.ref o2), some (.int (zI n)), some (.int (zI ((k + 1))))] (0, 0) (mkT w (hI (uS T o2 k (T o1 k))) J)
    rw [et_X10_copies_2]
    simp (disch := omega) only [hk, hu, hI_n, hI_un, z_nat, em_d, zl, z_add, z_sub, z_mul, z_lt, z_eq, gI_mkT, gJ_mkT, cI_some, cV_some, cJ_some, cI_x, cV_x, cJ_x, uS_self, uS_ne, if_pos, if_neg, b01, b01n, ite_not, if_true, if_false, h1, h2, h4, true_and, and_true]) (fun k T q1 q2 q3 => by
    rw [q3]
    funext o a
    unfold cpS
    rw [uS_at]
    by_cases e1 : o = o2 ∧ a = k
    · rw [if_pos e1, if_neg (fun z => hne z.1), if_pos ⟨e1.1, by omega⟩, e1.2]
    · rw [if_neg e1]
      by_cases e2 : o = o2 ∧ 0 ≤ a ∧ a < k
      · rw [if_pos e2, if_pos ⟨e2.1, by omega⟩]
      · rw [if_neg e2, if_neg (fun z => e2 ⟨z.1, z.2.1, by have := z.1; omega⟩)]) (fun n' T q1 q2 => by
    obtain ⟨n', rfl⟩ : ∃ m, n' = m + 1 := ⟨n' - 1, by omega⟩
    show aR X d m_X10_copies (n' + 1) 2 [none, some (.ref o1), some (.ref o2), some (.int (zI n)), some (.int (zI n))] (0, 0) (mkT w (hI T) J) = _
    rw [et_X10_copies_2]
    simp (disch := omega) only [hk, hu, hI_n, hI_un, z_nat, em_d, zl, z_add, z_sub, z_mul, z_lt, z_eq, gI_mkT, gJ_mkT, cI_some, cV_some, cJ_some, cI_x, cV_x, cJ_x, uS_self, uS_ne, if_pos, if_neg, b01, b01n, ite_not, if_true, if_false, rV_d]) n.toNat 0 S (by omega) (by omega) (by
    funext o a
    unfold cpS
    rw [if_neg (by omega)]) 9999999 (by omega)
  have hV := fold_V (fun k T => uS T o2 k (T o1 k)) (fun k T => T = cpS S o1 o2 k) n (fun k T q1 q2 q3 => by
    rw [q3]
    funext o a
    unfold cpS
    rw [uS_at]
    by_cases e1 : o = o2 ∧ a = k
    · rw [if_pos e1, if_neg (fun z => hne z.1), if_pos ⟨e1.1, by omega⟩, e1.2]
    · rw [if_neg e1]
      by_cases e2 : o = o2 ∧ 0 ≤ a ∧ a < k
      · rw [if_pos e2, if_pos ⟨e2.1, by omega⟩]
      · rw [if_neg e2, if_neg (fun z => e2 ⟨z.1, z.2.1, by have := z.1; omega⟩)]) n.toNat 0 S (by omega) (by omega) (by
    funext o a
    unfold cpS
    rw [if_neg (by omega)])
  have hV : fold (fun k T => uS T o2 k (T o1 k)) n.toNat 0 S = cpS S o1 o2 n := hV
  rw [hV] at this
  exact this
end CT3
section CT4
variable {X : Nat × (Nat → Int32)} {d : Nat} {w : Bool × Bool × Bool} {S : Hp} {J : Nat → Nat → Int64} {B : Nat → Int} {sz n tp : Int} {x : LSt}
theorem t_set43 : ∃ T, Fr [147] S T ∧ (∀ i, 0 ≤ i → i < 51 → T 147 i = 0) ∧ ∀ n : Nat, 51 ≤ n → ∃ n', n ≤ n' + 51 ∧ aR X (d + 1) m_X10_sets n 43 [some (.ref 132), some (.int (zI 0))] (0, 0) (mkT w (hI S) J) = aR X (d + 1) m_X10_sets n' 43 [some (.ref 132), some (.int (zI 51))] (0, 0) (mkT w (hI T) J) := by
  refine ⟨fillS S 147 51 0, fillS_fr _ _ _ _, fun i h1 h2 => ?_, fun n hn => ?_⟩
  · unfold fillS
    rw [if_pos ⟨rfl, h1, h2⟩]
  · have key : ∀ (j k n : Nat), k + j = 51 → j ≤ n → ∃ n', n = n' + j ∧ aR X (d + 1) m_X10_sets n 43 [some (.ref 132), some (.int (zI ((k : Int))))] (0, 0) (mkT w (hI (fillS S 147 k 0)) J) = aR X (d + 1) m_X10_sets n' 43 [some (.ref 132), some (.int (zI 51))] (0, 0) (mkT w (hI (fillS S 147 51 0)) J) := by
      intro j
      induction j with
      | zero =>
        intro k n h1 h2
        have : k = 51 := by omega
        subst this
        exact ⟨n, rfl, rfl⟩
      | succ j ih =>
        intro k n h1 h2
        obtain ⟨n, rfl⟩ : ∃ m, n = m + 1 := ⟨n - 1, by omega⟩
        obtain ⟨n', z1, z2⟩ := ih (k + 1) n (by omega) (by omega)
        have ef : uS (fillS S 147 k 0) 147 (k : Int) 0 = fillS S 147 ((k + 1 : Nat) : Int) 0 := by
          funext o a
          rw [uS_at]
          unfold fillS
          by_cases e1 : o = 147 ∧ a = (k : Int)
          · rw [if_pos e1, if_pos ⟨e1.1, by omega, by omega⟩]
          · rw [if_neg e1]
            by_cases e2 : o = 147 ∧ 0 ≤ a ∧ a < (k : Int)
            · rw [if_pos e2, if_pos ⟨e2.1, e2.2.1, by omega⟩]
            · rw [if_neg e2, if_neg (fun z => by
                by_cases e3 : a = (k : Int)
                · exact e1 ⟨z.1, e3⟩
                · exact e2 ⟨z.1, z.2.1, by omega⟩)]
        refine ⟨n', by omega, ?_⟩
        rw [← ef, show ((k + 1 : Nat) : Int) = (k : Int) + 1 by omega] at z2
        rw [et_X10_sets_43]
        simp (disch := omega) only [hk, hu, hI_n, hI_un, z_nat, em_d, zl, z_add, z_sub, z_mul, z_lt, z_eq, gI_mkT, gJ_mkT, cI_some, cV_some, cJ_some, cI_x, cV_x, cJ_x, uS_self, uS_ne, if_pos, if_neg, b01, b01n, ite_not, if_true, if_false, Bool.false_eq_true]
        exact z2
    have e0 : fillS S 147 ((0 : Nat) : Int) 0 = S := by
      funext o a
      unfold fillS
      rw [if_neg (fun z => by have := z.2; omega)]
    obtain ⟨n', z1, z2⟩ := key 51 0 n (by decide) (by omega)
    rw [e0] at z2
    exact ⟨n', by omega, z2⟩
end CT4
section CT5
variable {X : Nat × (Nat → Int32)} {d : Nat} {w : Bool × Bool × Bool} {S : Hp} {J : Nat → Nat → Int64} {B : Nat → Int} {sz n tp : Int} {x : LSt}
theorem t_set55 {nR : Int} (h18 : S 132 18 = nR) (hR : 0 ≤ nR ∧ nR ≤ 12) : ∃ T, Fr [147] S T ∧ (∀ r, 0 ≤ r → r < nR → T 147 r = S 137 (4 * r + 3)) ∧ (∀ i, nR ≤ i → T 147 i = S 147 i) ∧ ∀ n : Nat, nR.toNat ≤ n → ∃ n', n ≤ n' + nR.toNat ∧ aR X (d + 1) m_X10_sets n 55 [some (.ref 132), some (.int (zI 0))] (0, 0) (mkT w (hI S) J) = aR X (d + 1) m_X10_sets n' 55 [some (.ref 132), some (.int (zI nR))] (0, 0) (mkT w (hI T) J) := by
  obtain ⟨T, ⟨v1, v2, v3⟩, k1⟩ := loopE (fun n k T => (aR X (d + 1) m_X10_sets n 55 [some (.ref 132), some (.int (zI k))] (0, 0) (mkT w (hI T) J))) (fun k T => Fr [147] S T ∧ (∀ r, 0 ≤ r → r < k → T 147 r = S 137 (4 * r + 3)) ∧ (∀ i, k ≤ i → T 147 i = S 147 i)) nR 1 (fun k T q1 q2 q3 => by
    obtain ⟨q3, q4, q5⟩ := q3
    have t18 : T 132 18 = nR := by rw [q3 132 (by decide)]; exact h18
    have t137 : T 137 = S 137 := q3 137 (by decide)
    refine ⟨uS T 147 k (S 137 (4 * k + 3)), ⟨Fr_tr q3 (Fr_u T (L := [147]) _ _ (by decide)) (fun _ z => z) (fun _ z => z), fun r r1 r2 => ?_, fun i i1 => ?_⟩, fun n hn => ?_⟩
    · by_cases e : r = k
      · rw [e, uS_self]
      · rw [uS_ne _ _ (Or.inr e)]
        exact q4 r r1 (by omega)
    · rw [uS_ne _ _ (Or.inr (by omega))]
      exact q5 i (by omega)
    · obtain ⟨n, rfl⟩ : ∃ n', n = n' + 1 := ⟨n - 1, by omega⟩
      refine ⟨n, by omega, ?_⟩
      show (aR X (d + 1) m_X10_sets (n + 1) 55 [some (.ref 132), some (.int (zI k))] (0, 0) (mkT w (hI T) J)) = (aR X (d + 1) m_X10_sets n 55 [some (.ref 132), some (.int (zI ((k + 1))))] (0, 0) (mkT w (hI (uS T 147 k (S 137 (4 * k + 3)))) J))
      rw [et_X10_sets_55]
      simp (disch := omega) only [hk, hu, hI_n, hI_un, z_nat, em_d, zl, z_add, z_sub, z_mul, z_lt, z_eq, gI_mkT, gJ_mkT, cI_some, cV_some, cJ_some, cI_x, cV_x, cJ_x, uS_self, uS_ne, if_pos, if_neg, b01, b01n, ite_not, if_true, if_false, Bool.false_eq_true, Int.zero_add, t18, t137]) nR.toNat 0 S (by omega) (by omega) ⟨Fr_rf _ _, fun r _ _ => by omega, fun _ _ => rfl⟩
  refine ⟨T, v1, v2, v3, fun n hn => ?_⟩
  obtain ⟨n', z1, z2⟩ := k1 n (by omega)
  exact ⟨n', by omega, z2⟩
end CT5
section CT6
variable {X : Nat × (Nat → Int32)} {d : Nat} {w : Bool × Bool × Bool} {S : Hp} {J : Nat → Nat → Int64} {B : Nat → Int} {sz n tp : Int} {x : LSt}
theorem t_set77 {nC : Int} (h19 : S 132 19 = nC) (hC : 0 ≤ nC ∧ nC ≤ 5) : ∃ T, Fr [147] S T ∧ (∀ c, 0 ≤ c → c < nC → T 147 (24 + c) = S 138 (2 * c) ∧ T 147 (29 + c) = S 138 (2 * c) ∧ T 147 (34 + c) = -1 ∧ T 147 (44 + c) = S 138 (2 * c + 1)) ∧ (∀ i, i < 24 ∨ (39 ≤ i ∧ i < 44) ∨ 49 ≤ i → T 147 i = S 147 i) ∧ ∀ n : Nat, nC.toNat ≤ n → ∃ n', n ≤ n' + nC.toNat ∧ aR X (d + 1) m_X10_sets n 77 [some (.ref 132), some (.int (zI 0))] (0, 0) (mkT w (hI S) J) = aR X (d + 1) m_X10_sets n' 77 [some (.ref 132), some (.int (zI nC))] (0, 0) (mkT w (hI T) J) := by
  obtain ⟨T, ⟨v1, v2, v3⟩, k1⟩ := loopE (fun n k T => (aR X (d + 1) m_X10_sets n 77 [some (.ref 132), some (.int (zI k))] (0, 0) (mkT w (hI T) J))) (fun k T => Fr [147] S T ∧ (∀ c, 0 ≤ c → c < k → T 147 (24 + c) = S 138 (2 * c) ∧ T 147 (29 + c) = S 138 (2 * c) ∧ T 147 (34 + c) = -1 ∧ T 147 (44 + c) = S 138 (2 * c + 1)) ∧ (∀ i, i < 24 ∨ (39 ≤ i ∧ i < 44) ∨ 49 ≤ i → T 147 i = S 147 i)) nC 1 (fun k T q1 q2 q3 => by
    obtain ⟨q3, q4, q5⟩ := q3
    have t19 : T 132 19 = nC := by rw [q3 132 (by decide)]; exact h19
    have t138 : T 138 = S 138 := q3 138 (by decide)
    refine ⟨uS (uS (uS (uS T 147 (24 + k) (S 138 (2 * k))) 147 (29 + k) (S 138 (2 * k))) 147 (34 + k) (-1)) 147 (44 + k) (S 138 (2 * k + 1)), ⟨Fr_tr q3 (Fr_tr (Fr_tr (Fr_tr (Fr_u T (L := [147]) _ _ (by decide)) (Fr_u _ (L := [147]) _ _ (by decide)) (fun _ z => z) (fun _ z => z)) (Fr_u _ (L := [147]) _ _ (by decide)) (fun _ z => z) (fun _ z => z)) (Fr_u _ (L := [147]) _ _ (by decide)) (fun _ z => z) (fun _ z => z)) (fun _ z => z) (fun _ z => z), fun r r1 r2 => ?_, fun i i1 => ?_⟩, fun n hn => ?_⟩
    · by_cases e : r = k
      · rw [e]
        simp (disch := omega) only [uS_ne, uS_self, and_self]
      · simp (disch := omega) only [uS_ne]
        exact q4 r r1 (by omega)
    · rw [uS_ne _ _ (Or.inr (by omega)), uS_ne _ _ (Or.inr (by omega)), uS_ne _ _ (Or.inr (by omega)), uS_ne _ _ (Or.inr (by omega))]
      exact q5 i i1
    · obtain ⟨n, rfl⟩ : ∃ n', n = n' + 1 := ⟨n - 1, by omega⟩
      refine ⟨n, by omega, ?_⟩
      show (aR X (d + 1) m_X10_sets (n + 1) 77 [some (.ref 132), some (.int (zI k))] (0, 0) (mkT w (hI T) J)) = (aR X (d + 1) m_X10_sets n 77 [some (.ref 132), some (.int (zI ((k + 1))))] (0, 0) (mkT w (hI (uS (uS (uS (uS T 147 (24 + k) (S 138 (2 * k))) 147 (29 + k) (S 138 (2 * k))) 147 (34 + k) (-1)) 147 (44 + k) (S 138 (2 * k + 1)))) J))
      rw [et_X10_sets_77]
      simp (disch := omega) only [hk, hu, hI_n, hI_un, z_nat, em_d, zl, z_add, z_sub, z_mul, z_lt, z_eq, gI_mkT, gJ_mkT, cI_some, cV_some, cJ_some, cI_x, cV_x, cJ_x, uS_self, uS_ne, if_pos, if_neg, b01, b01n, ite_not, if_true, if_false, Bool.false_eq_true, t19, t138]) nC.toNat 0 S (by omega) (by omega) ⟨Fr_rf _ _, fun r _ _ => by omega, fun _ _ => rfl⟩
  refine ⟨T, v1, v2, v3, fun n hn => ?_⟩
  obtain ⟨n', z1, z2⟩ := k1 n (by omega)
  exact ⟨n', by omega, z2⟩
end CT6
section CT7
variable {X : Nat × (Nat → Int32)} {d : Nat} {w : Bool × Bool × Bool} {S : Hp} {J : Nat → Nat → Int64} {B : Nat → Int} {sz n tp : Int} {x : LSt}
theorem t_sets (hL : MLd S x) : ∃ (S' : Hp) (rd : Int → Int), am_call X aP (d + 2) 173 [.ref 132] (mkT w (hI S) J) = some (.inl none, (mkT w (hI S') J)) ∧ (∀ r, 0 ≤ r → r < x.2.1 → rd (4 * r) = x.2.2.2.1 (4 * r) ∧ rd (4 * r + 1) = x.2.2.2.1 (4 * r + 1) ∧ rd (4 * r + 2) = x.2.2.2.1 (4 * r + 2)) ∧ (S' 132 17 = x.1 ∧ S' 132 18 = x.2.1 ∧ S' 132 19 = x.2.2.1 ∧ ∀ k, 0 ≤ k → k < 48 → S' 137 k = rd k) ∧ NwP x.2.1 x.2.2.1 S' (s0F x) ∧ (S' 132 26 = 0 ∧ S' 132 42 = 0 ∧ S' 132 31 = 0 ∧ S' 132 49 = 0 ∧ S' 132 32 = 0) ∧ Fr [132, 137, 138, 147] S S' ∧ ∀ k, k < 17 ∨ k = 47 → S' 132 k = S 132 k := by
  obtain ⟨t14, t15, t16, hr, hc, ⟨a1, a2⟩, ⟨a3, a4⟩, ⟨a5, a6⟩, hr2, hc2⟩ := id hL
  obtain ⟨S0, hS0⟩ : ∃ T, T = uS (uS (uS S 132 17 x.1) 132 18 x.2.1) 132 19 x.2.2.1 := ⟨_, rfl⟩
  obtain ⟨S1, hS1⟩ : ∃ T, T = cpS (cpS S0 135 137 48) 136 138 10 := ⟨_, rfl⟩
  obtain ⟨S2, hS2⟩ : ∃ T, T = uS (uS (uS (uS (uS S1 132 26 0) 132 42 0) 132 31 0) 132 49 0) 132 32 0 := ⟨_, rfl⟩
  have h1 := fun d => t_copies (X := X) (d := d) (w := w) (J := J) (S := S0) (o1 := 135) (o2 := 137) (n := 48) (by decide) (by decide) (by decide) (by decide) (by decide) (by decide) (by decide) (by decide) (by decide)
  have h2 := fun d => t_copies (X := X) (d := d) (w := w) (J := J) (S := cpS S0 135 137 48) (o1 := 136) (o2 := 138) (n := 10) (by decide) (by decide) (by decide) (by decide) (by decide) (by decide) (by decide) (by decide) (by decide)
  have c1 : ∀ o, o ≠ 137 → o ≠ 138 → S1 o = S0 o := fun o o1 o2 => by
    rw [hS1]
    funext a
    unfold cpS
    rw [if_neg (fun z => o2 z.1), if_neg (fun z => o1 z.1)]
  have c2 : ∀ k, 0 ≤ k → k < 48 → S1 137 k = S 135 k := fun k k1 k2 => by
    rw [hS1]
    unfold cpS
    rw [if_neg (fun z => absurd z.1 (by decide)), if_pos ⟨rfl, k1, k2⟩, hS0, uS_row _ _ _ (by decide), uS_row _ _ _ (by decide), uS_row _ _ _ (by decide)]
  have c3 : ∀ k, 0 ≤ k → k < 10 → S1 138 k = S 136 k := fun k k1 k2 => by
    rw [hS1]
    unfold cpS
    rw [if_pos ⟨rfl, k1, k2⟩, if_neg (fun z => absurd z.1 (by decide)), hS0, uS_row _ _ _ (by decide), uS_row _ _ _ (by decide), uS_row _ _ _ (by decide)]
  have e2 : ∀ o, o ≠ 132 → S2 o = S1 o := fun o ho => by rw [hS2, uS_row _ _ _ ho, uS_row _ _ _ ho, uS_row _ _ _ ho, uS_row _ _ _ ho, uS_row _ _ _ ho]
  have e3 : ∀ k, k ≠ 26 → k ≠ 42 → k ≠ 31 → k ≠ 49 → k ≠ 32 → S2 132 k = S0 132 k := fun k k1 k2 k3 k4 k5 => by
    rw [hS2, uS_ne _ _ (Or.inr k5), uS_ne _ _ (Or.inr k4), uS_ne _ _ (Or.inr k3), uS_ne _ _ (Or.inr k2), uS_ne _ _ (Or.inr k1), c1 132 (by decide) (by decide)]
  have e17 : S2 132 17 = x.1 := by rw [e3 17 (by decide) (by decide) (by decide) (by decide) (by decide), hS0, uS_ne _ _ (Or.inr (by decide)), uS_ne _ _ (Or.inr (by decide)), uS_self]
  have e18 : S2 132 18 = x.2.1 := by rw [e3 18 (by decide) (by decide) (by decide) (by decide) (by decide), hS0, uS_ne _ _ (Or.inr (by decide)), uS_self]
  have e19 : S2 132 19 = x.2.2.1 := by rw [e3 19 (by decide) (by decide) (by decide) (by decide) (by decide), hS0, uS_self]
  obtain ⟨T3, p1, p2, p3⟩ := t_set43 (X := X) (d := d) (w := w) (S := S2) (J := J)
  obtain ⟨T4, p4, p5, p6, p7⟩ := t_set55 (X := X) (d := d) (w := w) (S := T3) (J := J) (nR := x.2.1) (by rw [p1 132 (by decide)]; exact e18) ⟨a3, a4⟩
  obtain ⟨T5, p8, p9, p10, p11⟩ := t_set77 (X := X) (d := d) (w := w) (S := T4) (J := J) (nC := x.2.2.1) (by rw [p4 132 (by decide), p1 132 (by decide)]; exact e19) ⟨a5, a6⟩
  have q132 : T5 132 = S2 132 := by rw [p8 132 (by decide), p4 132 (by decide), p1 132 (by decide)]
  have q137 : T3 137 = S1 137 := by rw [p1 137 (by decide), e2 137 (by decide)]
  have q138 : T4 138 = S1 138 := by rw [p4 138 (by decide), p1 138 (by decide), e2 138 (by decide)]
  have hF : Fr [132, 137, 138, 147] S T5 := fun o ho => by
    simp only [List.mem_cons, List.not_mem_nil, or_false, not_or] at ho
    rw [p8 o (fun z => ho.2.2.2 (List.mem_singleton.mp z)), p4 o (fun z => ho.2.2.2 (List.mem_singleton.mp z)), p1 o (fun z => ho.2.2.2 (List.mem_singleton.mp z)), e2 o ho.1, c1 o ho.2.1 ho.2.2.1, hS0, uS_row _ _ _ ho.1, uS_row _ _ _ ho.1, uS_row _ _ _ ho.1]
  refine ⟨T5, fun k => S 135 k, ?_, fun r r1 r2 => ?_, ⟨by rw [q132]; exact e17, by rw [q132]; exact e18, by rw [q132]; exact e19, fun k k1 k2 => ?_⟩, fun k hk9 => ?_, ?_, hF, fun k hk9 => ?_⟩
  · rw [go_X10_sets, et_X10_sets_0]
    refine cV_go (st := mkT w (hI (cpS S0 135 137 48)) J) ?_ ?_
    · simp (disch := omega) only [hk, hu, hI_n, hI_un, z_nat, em_d, zl, z_add, z_sub, z_mul, z_lt, z_eq, gI_mkT, gJ_mkT, cI_some, cV_some, cJ_some, cI_x, cV_x, cJ_x, uS_self, uS_ne, if_pos, if_neg, b01, b01n, ite_not, if_true, if_false, Bool.false_eq_true, t14, t15, t16]
      rw [← hS0]
      exact h1 _
    refine cV_go (st := mkT w (hI S1) J) ?_ ?_
    · simp (disch := omega) only [hk, hu, hI_n, hI_un, z_nat, em_d, zl, z_add, z_sub, z_mul, z_lt, z_eq, gI_mkT, gJ_mkT, cI_some, cV_some, cJ_some, cI_x, cV_x, cJ_x, uS_self, uS_ne, if_pos, if_neg, b01, b01n, ite_not, if_true, if_false, Bool.false_eq_true]
      rw [hS1]
      exact h2 _
    simp (disch := omega) only [hk, hu, hI_n, hI_un, z_nat, em_d, zl, z_add, z_sub, z_mul, z_lt, z_eq, gI_mkT, gJ_mkT, cI_some, cV_some, cJ_some, cI_x, cV_x, cJ_x, uS_self, uS_ne, if_pos, if_neg, b01, b01n, ite_not, if_true, if_false, Bool.false_eq_true]
    rw [← hS2]
    obtain ⟨n1, z1, z2⟩ := p3 9999999 (by decide)
    refine z2.trans ?_
    obtain ⟨n1, rfl⟩ : ∃ m, n1 = m + 1 := ⟨n1 - 1, by omega⟩
    rw [et_X10_sets_43]
    simp (disch := omega) only [hk, hu, hI_n, hI_un, z_nat, em_d, zl, z_add, z_sub, z_mul, z_lt, z_eq, gI_mkT, gJ_mkT, cI_some, cV_some, cJ_some, cI_x, cV_x, cJ_x, uS_self, uS_ne, if_pos, if_neg, b01, b01n, ite_not, if_true, if_false, Bool.false_eq_true]
    obtain ⟨n2, z3, z4⟩ := p7 n1 (by omega)
    refine z4.trans ?_
    obtain ⟨n2, rfl⟩ : ∃ m, n2 = m + 1 := ⟨n2 - 1, by omega⟩
    have t18 : T4 132 18 = x.2.1 := by rw [p4 132 (by decide), p1 132 (by decide)]; exact e18
    rw [et_X10_sets_55]
    simp (disch := omega) only [hk, hu, hI_n, hI_un, z_nat, em_d, zl, z_add, z_sub, z_mul, z_lt, z_eq, gI_mkT, gJ_mkT, cI_some, cV_some, cJ_some, cI_x, cV_x, cJ_x, uS_self, uS_ne, if_pos, if_neg, b01, b01n, ite_not, if_true, if_false, Bool.false_eq_true, t18]
    obtain ⟨n3, z5, z6⟩ := p11 n2 (by omega)
    refine z6.trans ?_
    obtain ⟨n3, rfl⟩ : ∃ m, n3 = m + 1 := ⟨n3 - 1, by omega⟩
    have t19 : T5 132 19 = x.2.2.1 := by rw [q132]; exact e19
    rw [et_X10_sets_77]
    simp (disch := omega) only [hk, hu, hI_n, hI_un, z_nat, em_d, zl, z_add, z_sub, z_mul, z_lt, z_eq, gI_mkT, gJ_mkT, cI_some, cV_some, cJ_some, cI_x, cV_x, cJ_x, uS_self, uS_ne, if_pos, if_neg, b01, b01n, ite_not, if_true, if_false, Bool.false_eq_true, t19, rV_d]
  · obtain ⟨b1, b2, b3, -⟩ := hr r r1 r2
    exact ⟨b1, b2, b3⟩
  · rw [p8 137 (by decide), p4 137 (by decide), q137]
    exact c2 k k1 k2
  · have hz : ∀ i, x.2.1 ≤ i → 0 ≤ i → i < 51 → T4 147 i = 0 := fun i i1 i2 i3 => by rw [p6 i i1]; exact p2 i i2 i3
    have hcc : ∀ c, 0 ≤ c → c < x.2.2.1 → T5 147 (24 + c) = s0F x (24 + c) ∧ T5 147 (29 + c) = s0F x (29 + c) ∧ T5 147 (34 + c) = s0F x (34 + c) ∧ T5 147 (39 + c) = s0F x (39 + c) ∧ T5 147 (44 + c) = s0F x (44 + c) := fun c q1 q2 => by
      obtain ⟨y1, y2, y3, y4⟩ := p9 c q1 q2
      obtain ⟨z1, z2⟩ := hc c q1 q2
      obtain ⟨e1, e2, e3, e4, e5⟩ := s0_c x (c := c) ⟨q1, by omega⟩
      rw [q138] at y1 y2 y4
      rw [c3 _ (by omega) (by omega), z1] at y1 y2
      rw [c3 _ (by omega) (by omega), z2] at y4
      rw [e1, e2, e3, e4, e5, y1, y2, y3, y4, p10 (39 + c) (by omega), hz (39 + c) (by omega) (by omega) (by omega)]
      exact ⟨rfl, rfl, rfl, rfl, rfl⟩
    rcases hk9 with h | h | h | h | h | h | h | h | h
    · obtain ⟨e1, e2⟩ := s0_r x (r := k) ⟨h.1, by omega⟩
      rw [p10 k (by omega), p5 k h.1 h.2, q137, c2 _ (by omega) (by omega), e1]
      exact (hr k h.1 h.2).2.2.2
    · obtain ⟨e1, e2⟩ := s0_r x (r := k - 12) ⟨by omega, by omega⟩
      rw [show 12 + (k - 12) = k by omega] at e2
      rw [p10 k (by omega), hz k (by omega) (by omega) (by omega), e2]
    · have := (hcc (k - 24) (by omega) (by omega)).1
      rw [show 24 + (k - 24) = k by omega] at this
      exact this
    · have := (hcc (k - 29) (by omega) (by omega)).2.1
      rw [show 29 + (k - 29) = k by omega] at this
      exact this
    · have := (hcc (k - 34) (by omega) (by omega)).2.2.1
      rw [show 34 + (k - 34) = k by omega] at this
      exact this
    · have := (hcc (k - 39) (by omega) (by omega)).2.2.2.1
      rw [show 39 + (k - 39) = k by omega] at this
      exact this
    · have := (hcc (k - 44) (by omega) (by omega)).2.2.2.2
      rw [show 44 + (k - 44) = k by omega] at this
      exact this
    · rw [h, p10 49 (by decide), hz 49 (by omega) (by decide) (by decide)]
      exact (s0_t x).1.symm
    · rw [h, p10 50 (by decide), hz 50 (by omega) (by decide) (by decide)]
      exact (s0_t x).2.symm
  · rw [q132]
    refine ⟨?_, ?_, ?_, ?_, ?_⟩ <;> rw [hS2] <;> simp (disch := decide) only [uS_ne, uS_self]
  · rw [q132, e3 k (by omega) (by omega) (by omega) (by omega) (by omega), hS0, uS_ne _ _ (Or.inr (by omega)), uS_ne _ _ (Or.inr (by omega)), uS_ne _ _ (Or.inr (by omega))]
end CT7
