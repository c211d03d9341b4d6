/-! WHAT THE SMALL MACHINE KEEPS, whatever runs: references known stay known; methods that make nothing leave all references -/
def Gg (pl : Bool) (res : (Option Value ⊕ Nat) × aSt) (st : aSt) : Prop := ResOk st res ∧ (pl = true → gN res.2 = gN st ∧ gR res.2 = gR st)
theorem Gg.up {pl : Bool} {res : (Option Value ⊕ Nat) × aSt} {st st' : aSt} (h : Gg pl res st') (h1 : gN st ≤ gN st') (h2 : pl = true → gN st' = gN st ∧ gR st' = gR st) : Gg pl res st :=
  ⟨⟨h.1.1, Nat.le_trans h1 h.1.2.1, h.1.2.2⟩, fun z => ⟨(h.2 z).1.trans (h2 z).1, (h.2 z).2.trans (h2 z).2⟩⟩
theorem Gg.sm {pl : Bool} {res : (Option Value ⊕ Nat) × aSt} {st st' : aSt} (h : Gg pl res st') (h1 : gN st' = gN st) (h2 : gR st' = gR st) : Gg pl res st := h.up (Nat.le_of_eq h1.symm) (fun _ => ⟨h1, h2⟩)
theorem aInv_nr {C : Nat → List Value → aSt → aRes} {g : aK} {h : Nat × Nat → Nat → aSt → aRes} {B : Nat × Nat} {j b : Nat} {cs : List aE} {ls : aL} {stk : List Value} {cn : Nat × Nat} {st : aSt} {res : (Option Value ⊕ Nat) × aSt} (hh : aInv C g h B j b cs ls stk cn st = some res) :
    ∃ rc : (Option Value ⊕ Nat) × aSt, C j (stk.take (b / 4 % 16)).reverse st = some rc ∧
      ((∃ v : Option Value, rc.1 = .inl v ∧ (∀ o, v ≠ some (.ref o)) ∧ g cs ls (v.toList ++ stk.drop (b / 4 % 16)) (cn.1 + b / 8192 % 256, cn.2 + b / 2097152) (kpb b st rc.2) = some res) ∨ (∃ k : Nat, rc.1 = .inr k ∧ h (cn.1 + b / 8192 % 256, cn.2 + b / 2097152) k (kpb b st rc.2) = some res)) := by
  unfold aInv at hh
  split at hh
  · split at hh
    · split at hh
      · generalize hx : C j (stk.take (b / 4 % 16)).reverse st = x at hh
        unfold cV at hh
        split at hh
        · exact ⟨_, rfl, Or.inl ⟨none, rfl, (fun o z => by cases z), hh⟩⟩
        · exact ⟨_, rfl, Or.inr ⟨_, rfl, hh⟩⟩
        · cases hh
      · split at hh
        · generalize hx : C j (stk.take (b / 4 % 16)).reverse st = x at hh
          unfold cI at hh
          split at hh
          · exact ⟨_, rfl, Or.inl ⟨some (.int _), rfl, (fun o z => by cases z), hh⟩⟩
          · exact ⟨_, rfl, Or.inr ⟨_, rfl, hh⟩⟩
          · cases hh
        · generalize hx : C j (stk.take (b / 4 % 16)).reverse st = x at hh
          unfold cJ at hh
          split at hh
          · exact ⟨_, rfl, Or.inl ⟨some (.long _), rfl, (fun o z => by cases z), hh⟩⟩
          · exact ⟨_, rfl, Or.inr ⟨_, rfl, hh⟩⟩
          · cases hh
    · cases hh
  · cases hh
section PU
variable {X : Nat × (Nat → Int32)} {C : Nat → List Value → aSt → aRes} {M : aM} {g : aK} {res : (Option Value ⊕ Nat) × aSt} {pl : Bool} {pc a b oc : Nat} {cut : Option (List Bool)} {ins : ClassFile.Instr} {cs : List aE} {ls : aL} {stk : List Value} {cn : Nat × Nat} {st : aSt} {ini : Bool}
theorem ps_hnd (K : ∀ (cs' : List aE) (ls' : aL) (stk' : List Value) (cn' : Nat × Nat) (st' : aSt), g cs' ls' stk' cn' st' = some res → (cs' = cs ∨ ∃ i, cs' = M.1.drop i) → VOk st' ls' stk' → Gg pl res st') {code : List aE} (hcode : code = M.1) : ∀ (hs : List (Nat × Nat × Nat × Nat)) (k : Nat), aHnd g code pc ls cn hs k st = some res → VOk st ls [] → (k = 1 ∨ k = 2) → Gg pl res st
  | [], k, h, hV, hk => by
    have h : rX k st = some res := h
    cases h
    exact ⟨⟨hV.1, Nat.le_refl _, (fun o z => by cases z), (fun k9 z => by cases z; exact hk)⟩, fun _ => ⟨rfl, rfl⟩⟩
  | (f, t, i, k9) :: hs, k, h, hV, hk => by
    rw [aHnd] at h
    split at h
    · split at h
      · cases hdr : code.drop i with
        | nil => rw [hdr] at h; cases h
        | cons e9 cs9 =>
          rw [hdr] at h
          exact K _ _ _ _ _ h (Or.inr ⟨i + 1, by rw [← hcode, drop_next hdr]⟩) hV.cat
      · exact ps_hnd K hcode hs k h hV hk
    · exact ps_hnd K hcode hs k h hV hk
theorem ps_inv (hI : ∀ (j : Nat) (As : List Value) (st : aSt) (rc : (Option Value ⊕ Nat) × aSt), C j As st = some rc → Cl st → (∀ o, Value.ref o ∈ As → okr (gN st) o) → ResOk st rc) (hpl : pl = true → b / 4096 % 2 = 0) (K : ∀ (cs' : List aE) (ls' : aL) (stk' : List Value) (cn' : Nat × Nat) (st' : aSt), g cs' ls' stk' cn' st' = some res → (cs' = cs ∨ ∃ i, cs' = M.1.drop i) → VOk st' ls' stk' → Gg pl res st') (hV : VOk st ls stk) (h : aInv C g (fun cn e st => aHnd g M.1 pc ls cn M.2.2.1 e st) M.2.2.2 a b cs ls stk cn st = some res) : Gg pl res st := by
  obtain ⟨rc, h1, h2⟩ := aInv_nr h
  have hok := hI _ _ _ _ h1 hV.1 (fun o ho => hV.2.2 o (List.mem_of_mem_take (List.mem_reverse.mp ho)))
  have hd : ∀ o, Value.ref o ∈ stk.drop (b / 4 % 16) → okr (gN st) o := fun o ho => hV.2.2 o (List.mem_of_mem_drop ho)
  by_cases hb : b / 4096 % 2 = 0
  · have ek : kpb b st rc.2 = kp st rc.2 := by unfold kpb; rw [if_pos hb]
    rw [ek] at h2
    have hV1 : ∀ stk', (∀ o, Value.ref o ∈ stk' → okr (gN st) o) → VOk (kp st rc.2) ls stk' := fun stk' hs => ⟨hV.1, hV.2.1, hs⟩
    rcases h2 with ⟨v, h3, h4, h5⟩ | ⟨k, h3, h5⟩
    · exact (K _ _ _ _ _ h5 (by first | exact Or.inl rfl | exact Or.inr ⟨_, rfl⟩ | exact Or.inr (dropTo_drop _ _)) (hV1 _ (fun o ho => by
        rcases List.mem_append.mp ho with z | z
        · cases v with
          | none => simp at z
          | some w => simp at z; subst z; exact absurd rfl (h4 o)
        · exact hd o z))).sm rfl rfl
    · exact (ps_hnd K rfl _ _ h5 (hV1 _ (fun o ho => by simp at ho)) (hok.2.2.2 _ h3)).sm rfl rfl
  · have ek : kpb b st rc.2 = rc.2 := by unfold kpb; rw [if_neg hb]
    rw [ek] at h2
    have up : ∀ o, okr (gN st) o → okr (gN rc.2) o := fun o h => h.elim (fun q => Or.inl (Nat.lt_of_lt_of_le q hok.2.1)) Or.inr
    have hV1 : ∀ stk', (∀ o, Value.ref o ∈ stk' → okr (gN rc.2) o) → VOk rc.2 ls stk' := fun stk' hs => ⟨hok.1, fun j o hj => up o (hV.2.1 j o hj), hs⟩
    rcases h2 with ⟨v, h3, h4, h5⟩ | ⟨k, h3, h5⟩
    · exact (K _ _ _ _ _ h5 (by first | exact Or.inl rfl | exact Or.inr ⟨_, rfl⟩ | exact Or.inr (dropTo_drop _ _)) (hV1 _ (fun o ho => by
        rcases List.mem_append.mp ho with z | z
        · cases v with
          | none => simp at z
          | some w => simp at z; subst z; exact absurd rfl (h4 o)
        · exact up o (hd o z)))).up hok.2.1 (fun z => absurd (hpl z) hb)
    · exact (ps_hnd K rfl _ _ h5 (hV1 _ (fun o ho => by simp at ho)) (hok.2.2.2 _ h3)).up hok.2.1 (fun z => absurd (hpl z) hb)
theorem swg_f {f : Nat → aRes} {x : Int32} {k d : Nat} {ts : List Nat} (h : swg f x k ts d = some res) : ∃ t, f t = some res := by
  rcases swg_spec ts k d h with ⟨i, t, -, -, h⟩ | ⟨-, h⟩
  · exact ⟨t, h⟩
  · exact ⟨d, h⟩
theorem new_k {ix : Nat} (hw : opb oc ini M pc (.new ix) a b cs = true) (hb : 1000 ≤ b) : b - 1000 = 1 ∨ b - 1000 = 2 := by
  have hw : (if 1000 ≤ b then (match (generalizing := false) cs with
    | (q1, _, .dup, _, _) :: (q2, _, .ldc_w is, a2, _) :: (q3, _, .invokespecial ic, _, _) :: (q4, _, .athrow, _, _) :: _ => decide (q1 = pc + 3 ∧ q2 = pc + 4 ∧ q3 = pc + 7 ∧ q4 = pc + 10) && decide ((b = 1001 ∧ oc = 8 ∧ ix = 378 ∧ is = 380 ∧ ic = 382 ∧ a2 = 17) ∨ (b = 1002 ∧ oc = 8 ∧ ix = 371 ∧ is = 373 ∧ ic = 375 ∧ a2 = 16))
    | _ => false) else _) = true := hw
  rw [if_pos hb] at hw
  split at hw
  · rcases of_decide_eq_true (and2 hw).2 with z | z
    · exact Or.inl (by omega)
    · exact Or.inr (by omega)
  · cases hw
theorem VOk.ref {q : Nat} (h : VOk st ls stk) {r : List Value} (hr : ∀ o, Value.ref o ∈ r → Value.ref o ∈ stk) (hq : okr (gN st) q) : VOk st ls (.ref q :: r) := ⟨h.1, h.2.1, fun o ho => by
  rcases List.mem_cons.mp ho with z | z
  · cases z; exact hq
  · exact h.2.2 o (hr o z)⟩
set_option maxHeartbeats 4000000 in
theorem ps_step (hI : ∀ (j : Nat) (As : List Value) (st : aSt) (rc : (Option Value ⊕ Nat) × aSt), C j As st = some rc → Cl st → (∀ o, Value.ref o ∈ As → okr (gN st) o) → ResOk st rc) (hpl : pl = true → plE (pc, cut, ins, a, b) = true) (hw : (match ins with
    | .tableswitch _ _ _ _ => true
    | i => opb oc ini M pc i a b cs) = true) (K : ∀ (cs' : List aE) (ls' : aL) (stk' : List Value) (cn' : Nat × Nat) (st' : aSt), g cs' ls' stk' cn' st' = some res → (cs' = cs ∨ ∃ i, cs' = M.1.drop i) → VOk st' ls' stk' → Gg pl res st') (hV : VOk st ls stk) (h : am_step X C M g (pc, cut, ins, a, b) cs ls stk cn st = some res) : Gg pl res st := by
  cases ins
  case invokestatic ix =>
    have h : (if a = 1003 then aCopy g cs ls stk cn st else aInv C g (fun cn e st => aHnd g M.1 pc ls cn M.2.2.1 e st) M.2.2.2 a b cs ls stk cn st) = some res := h
    split at h
    · unfold aCopy at h
      split at h
      · split at h
        · exact (K _ _ _ _ _ h (by first | exact Or.inl rfl | exact Or.inr ⟨_, rfl⟩ | exact Or.inr (dropTo_drop _ _)) ((hV.stk (fun o ho => by simp; exact Or.inr (Or.inr ho))).st rfl rfl)).sm rfl rfl
        · cases h
      · cases h
    · exact ps_inv hI (fun z => of_decide_eq_true (hpl z)) K hV h
  case invokevirtual ix =>
    obtain ⟨o, l9, -, -, h⟩ := aRec_use (show aRec stk (b / 4 % 16) (b / 64 % 64) (aInv C g (fun cn e st => aHnd g M.1 pc ls cn M.2.2.1 e st) M.2.2.2 a b cs ls stk cn st) = some res from h)
    exact ps_inv hI (fun z => of_decide_eq_true (hpl z)) K hV h
  case invokespecial ix =>
    have h : (if a = 1000 then (match (generalizing := false) stk with
      | [.ref _] => g cs ls [] cn st
      | _ => none) else aRec stk (b / 4 % 16) (b / 64 % 64) (aInv C g (fun cn e st => aHnd g M.1 pc ls cn M.2.2.1 e st) M.2.2.2 a b cs ls stk cn st)) = some res := h
    split at h
    · split at h
      · exact K _ _ _ _ _ h (by first | exact Or.inl rfl | exact Or.inr ⟨_, rfl⟩ | exact Or.inr (dropTo_drop _ _)) (hV.stk (fun o ho => by simp at ho))
      · cases h
    · obtain ⟨o, l9, -, -, h⟩ := aRec_use h
      exact ps_inv hI (fun z => of_decide_eq_true (hpl z)) K hV h
  case new ix =>
    have h : (if 1000 ≤ b then (if cn.1 + 1 ≤ M.2.2.2.1 ∧ cn.2 + 6 ≤ M.2.2.2.2 ∧ stk = [] ∧ M.2.2.1 = [] then rX (b - 1000) st else none)
      else if cn.1 + 1 ≤ M.2.2.2.1 ∧ cn.2 + b ≤ M.2.2.2.2 ∧ KK (gN st) = a ∧ gN st + 1 < 1000000 then g cs ls (.ref (gN st) :: stk) (cn.1 + 1, cn.2 + b) (mkNew st) else none) = some res := h
    split at h
    · rename_i hb
      split at h
      · cases h
        exact ⟨⟨hV.1, Nat.le_refl _, (fun o z => by cases z), (fun k9 z => (Sum.inr.inj z) ▸ new_k hw hb)⟩, fun _ => ⟨rfl, rfl⟩⟩
      · cases h
    · rename_i hb
      split at h
      · rename_i h9
        exact (K _ _ _ _ _ h (by first | exact Or.inl rfl | exact Or.inr ⟨_, rfl⟩ | exact Or.inr (dropTo_drop _ _)) (hV.new h9.2.2.2)).up (Nat.le_succ _) (fun z => absurd (of_decide_eq_true (hpl z)) hb)
      · cases h
  case newarray t =>
    have h : (match (generalizing := false) stk with
      | .int n :: r => if ¬ n < 0 ∧ n.toNatClampNeg = LL (gN st) ∧ cn.1 + 1 ≤ M.2.2.2.1 ∧ cn.2 + LL (gN st) ≤ M.2.2.2.2 ∧ KK (gN st) = a ∧ gN st + 1 < 1000000 then g cs ls (.ref (gN st) :: r) (cn.1 + 1, cn.2 + LL (gN st)) (mkNew st) else none
      | _ => none) = some res := h
    split at h
    · rename_i n r h8
      split at h
      · rename_i h9
        exact (K _ _ _ _ _ h (by first | exact Or.inl rfl | exact Or.inr ⟨_, rfl⟩ | exact Or.inr (dropTo_drop _ _)) ((hV.stk (fun o ho => List.mem_cons_of_mem _ ho) : VOk st ls r).new h9.2.2.2.2.2)).up (Nat.le_succ _) (fun z => absurd (show false = true from hpl z) (by decide))
      · cases h
    · cases h
  case multianewarray ix n9 =>
    have h : (match (generalizing := false) stk with
      | .int k :: .int n :: r => if ¬ n < 0 ∧ ¬ k < 0 ∧ n.toNatClampNeg = LL (gN st) ∧ cn.1 + (1 + LL (gN st)) ≤ M.2.2.2.1 ∧ cn.2 + (LL (gN st) + LL (gN st) * LL (gN st + 1)) ≤ M.2.2.2.2 ∧ KK (gN st) = 12 ∧ gN st + LL (gN st) < 1000000 ∧ k.toNatClampNeg = LL (gN st + 1) ∧ (List.range (LL (gN st))).all (fun i => KK (gN st + 1 + i) == 10 && LL (gN st + 1 + i) == LL (gN st + 1)) = true then g cs ls (.ref (gN st) :: r) (cn.1 + 1 + LL (gN st), cn.2 + LL (gN st) + LL (gN st) * LL (gN st + 1)) (mkRows st (LL (gN st))) else none
      | _ => none) = some res := h
    split at h
    · rename_i k n r h8
      split at h
      · rename_i h9
        have hb9 := KK_12 h9.2.2.2.2.2.1
        have hl9 := LL_le (gN st)
        have up : ∀ o, okr (gN st) o → okr (gN (mkRows st (LL (gN st)))) o := fun o h => h.elim (fun q => Or.inl (by show o < gN st + 1 + LL (gN st); omega)) Or.inr
        refine (K _ _ _ _ _ h (by first | exact Or.inl rfl | exact Or.inr ⟨_, rfl⟩ | exact Or.inr (dropTo_drop _ _)) ⟨Cl_rows hV.1 (by omega), fun j o hj => up o (hV.2.1 j o hj), fun o ho => ?_⟩).up (by show gN st ≤ gN st + 1 + LL (gN st); omega) (fun z => absurd (show false = true from hpl z) (by decide))
        rcases List.mem_cons.mp ho with z | z
        · cases z; exact Or.inl (by show gN st < gN st + 1 + LL (gN st); omega)
        · exact up o (hV.2.2 o (by simp; exact z))
      · cases h
    · cases h
  case tableswitch dd lo hi9 offs =>
    have h : (match (generalizing := false) stk with
      | .int x :: r => if 0 ≤ lo then swg (fun t => g (dropTo t M.1) ls r cn st) x lo.toNat (offs.toList.map (aTarg pc)) (aTarg pc dd) else none
      | _ => none) = some res := h
    split at h
    · split at h
      · obtain ⟨t, h⟩ := swg_f h
        exact K _ _ _ _ _ h (by first | exact Or.inl rfl | exact Or.inr ⟨_, rfl⟩ | exact Or.inr (dropTo_drop _ _)) (hV.stk (fun o ho => List.mem_cons_of_mem _ ho))
      · cases h
    · cases h
  case getfield ix =>
    have h : (match (generalizing := false) stk with
      | .ref o :: r => if KK o = b / 2 then (if b % 2 = 1 then g cs ls (.int (gI st o a) :: r) cn st else cR (gR st o a) (fun q => g cs ls (.ref q :: r) cn st)) else none
      | _ => none) = some res := h
    split at h
    · rename_i o r h8
      split at h
      · rename_i hko
        split at h
        · exact K _ _ _ _ _ h (by first | exact Or.inl rfl | exact Or.inr ⟨_, rfl⟩ | exact Or.inr (dropTo_drop _ _)) (hV.stk (fun o ho => by simp at ho; simp; exact Or.inr ho))
        · unfold cR at h
          split at h
          · rename_i q hq
            have h10 : b / 2 < 10 := by
              have hw : (fldT.contains (oc, ix, b / 2, a) && decide (b / 2 < 10) && decide (a < cN (b / 2)) && (iFl (b / 2) a == decide (b % 2 = 1)) && nxb cs (pc + 3)) = true := hw
              simp only [Bool.and_eq_true, decide_eq_true_eq] at hw
              exact hw.1.1.1.2
            exact K _ _ _ _ _ h (by first | exact Or.inl rfl | exact Or.inr ⟨_, rfl⟩ | exact Or.inr (dropTo_drop _ _)) (hV.ref (fun o ho => List.mem_cons_of_mem _ ho) (Or.inl (hV.1.2 o _ q (okr_lt (hV.2.2 o List.mem_cons_self) (by omega)) hq)))
          · cases h
      · cases h
    · cases h
  case aaload =>
    have h : (match (generalizing := false) stk with
      | .int i :: .ref o :: r => if KK o = 12 then (if i < 0 ∨ LL o ≤ i.toNatClampNeg then none else cR (gR st o i.toNatClampNeg) (fun q => g cs ls (.ref q :: r) cn st)) else none
      | _ => none) = some res := h
    split at h
    · rename_i i o r h8
      split at h
      · rename_i hko
        split at h
        · cases h
        · unfold cR at h
          split at h
          · rename_i q hq
            exact K _ _ _ _ _ h (by first | exact Or.inl rfl | exact Or.inr ⟨_, rfl⟩ | exact Or.inr (dropTo_drop _ _)) (hV.ref (fun o ho => by simp; exact Or.inr ho) (Or.inl (hV.1.2 o _ q (okr_lt2 (hV.2.2 o (by simp)) (KK_sm (Or.inr hko))) hq)))
          · cases h
      · cases h
    · cases h
  case putfield ix =>
    have h : (match (generalizing := false) stk with
      | .int x :: .ref o :: r => if KK o = b / 2 ∧ b % 2 = 1 then g cs ls r cn (setI st o a x) else none
      | .ref x :: .ref o :: r => if KK o = b / 2 ∧ b % 2 = 0 ∧ x < 1000000 then g cs ls r cn (setR st o a (some x)) else none
      | _ => none) = some res := h
    split at h
    · split at h
      · exact (K _ _ _ _ _ h (by first | exact Or.inl rfl | exact Or.inr ⟨_, rfl⟩ | exact Or.inr (dropTo_drop _ _)) ((hV.stk (fun o ho => by simp; exact Or.inr ho)).st rfl rfl)).sm rfl rfl
      · cases h
    · rename_i x o r h8
      split at h
      · rename_i h9
        have hx : x < gN st := okr_lt2 (hV.2.2 x (by simp)) h9.2.2
        refine (K _ _ _ _ _ h (by first | exact Or.inl rfl | exact Or.inr ⟨_, rfl⟩ | exact Or.inr (dropTo_drop _ _)) ⟨Cl_setR hV.1 hx, hV.2.1, fun o2 h2 => hV.2.2 o2 (by simp; exact Or.inr (Or.inr h2))⟩).up (Nat.le_refl _) (fun z => ?_)
        have := of_decide_eq_true (hpl z)
        have e0 : b % 2 = 1 := this
        omega
      · cases h
    · cases h
  case ldc ix =>
    have h : (if b = 1 then g cs ls (.int (nI a) :: stk) cn st else g cs ls (.ref (2000000 + a) :: stk) cn st) = some res := h
    split at h
    · exact K _ _ _ _ _ h (by first | exact Or.inl rfl | exact Or.inr ⟨_, rfl⟩ | exact Or.inr (dropTo_drop _ _)) (hV.stk (fun o ho => by simpa using ho))
    · exact K _ _ _ _ _ h (by first | exact Or.inl rfl | exact Or.inr ⟨_, rfl⟩ | exact Or.inr (dropTo_drop _ _)) (hV.ref (fun o ho => ho) (Or.inr (by omega)))
  case ldc_w ix =>
    have h : (if b = 1 then g cs ls (.int (nI a) :: stk) cn st else g cs ls (.ref (2000000 + a) :: stk) cn st) = some res := h
    split at h
    · exact K _ _ _ _ _ h (by first | exact Or.inl rfl | exact Or.inr ⟨_, rfl⟩ | exact Or.inr (dropTo_drop _ _)) (hV.stk (fun o ho => by simpa using ho))
    · exact K _ _ _ _ _ h (by first | exact Or.inl rfl | exact Or.inr ⟨_, rfl⟩ | exact Or.inr (dropTo_drop _ _)) (hV.ref (fun o ho => ho) (Or.inr (by omega)))
  case aload ix =>
    have h : (match (generalizing := false) ls[a]? with
      | some (some (.ref x)) => g cs ls (.ref x :: stk) cn st
      | _ => none) = some res := h
    split at h
    · rename_i x hx
      exact K _ _ _ _ _ h (by first | exact Or.inl rfl | exact Or.inr ⟨_, rfl⟩ | exact Or.inr (dropTo_drop _ _)) (hV.ref (fun o ho => ho) (hV.2.1 a x hx))
    · cases h
  case aload_n ix =>
    have h : (match (generalizing := false) ls[a]? with
      | some (some (.ref x)) => g cs ls (.ref x :: stk) cn st
      | _ => none) = some res := h
    split at h
    · rename_i x hx
      exact K _ _ _ _ _ h (by first | exact Or.inl rfl | exact Or.inr ⟨_, rfl⟩ | exact Or.inr (dropTo_drop _ _)) (hV.ref (fun o ho => ho) (hV.2.1 a x hx))
    · cases h
  case iinc i n =>
    have h : (match (generalizing := false) ls[a]? with
      | some (some (.int x)) => if b < 2147483648 then g cs (lst ls a (.int (x + nI b))) stk cn st else g cs (lst ls a (.int (x - nI (4294967296 - b)))) stk cn st
      | _ => none) = some res := h
    split at h
    · split at h
      · exact K _ _ _ _ _ h (by first | exact Or.inl rfl | exact Or.inr ⟨_, rfl⟩ | exact Or.inr (dropTo_drop _ _)) ((hV.stk (fun o ho => by simpa using ho) : VOk st ls (.int _ :: stk)).put)
      · exact K _ _ _ _ _ h (by first | exact Or.inl rfl | exact Or.inr ⟨_, rfl⟩ | exact Or.inr (dropTo_drop _ _)) ((hV.stk (fun o ho => by simpa using ho) : VOk st ls (.int _ :: stk)).put)
    · cases h
  case lstore i =>
    have h : (match (generalizing := false) stk with
      | .long x :: r => g cs (lst2 ls a (.long x)) r cn st
      | _ => none) = some res := h
    split at h
    · exact K _ _ _ _ _ h (by first | exact Or.inl rfl | exact Or.inr ⟨_, rfl⟩ | exact Or.inr (dropTo_drop _ _)) hV.put2
    · cases h
  case lstore_n i =>
    have h : (match (generalizing := false) stk with
      | .long x :: r => g cs (lst2 ls a (.long x)) r cn st
      | _ => none) = some res := h
    split at h
    · exact K _ _ _ _ _ h (by first | exact Or.inl rfl | exact Or.inr ⟨_, rfl⟩ | exact Or.inr (dropTo_drop _ _)) hV.put2
    · cases h
  all_goals first
    | (have h9 : (none : aRes) = some res := h; cases h9; done)
    | skip
  all_goals (delta am_step at h; dsimp only at h)
  all_goals repeat' (split at h)
  all_goals first
    | (cases h; done)
    | (exact K _ _ _ _ _ h (by first | exact Or.inl rfl | exact Or.inr ⟨_, rfl⟩ | exact Or.inr (dropTo_drop _ _)) hV.put)
    | (cases h; exact ⟨⟨hV.1, Nat.le_refl _, (fun o z => by cases z), (fun k z => by cases z)⟩, fun _ => ⟨rfl, rfl⟩⟩)
    | (exact K _ _ _ _ _ h (by first | exact Or.inl rfl | exact Or.inr ⟨_, rfl⟩ | exact Or.inr (dropTo_drop _ _)) (hV.stk (fun o ho => by first | (simpa using ho) | (simp at ho; simp [ho]) | (simp at ho ⊢; rcases ho with ho | ho <;> simp [ho]))))
    | (exact (K _ _ _ _ _ h (by first | exact Or.inl rfl | exact Or.inr ⟨_, rfl⟩ | exact Or.inr (dropTo_drop _ _)) ((hV.stk (fun o ho => by first | exact List.mem_cons_of_mem _ (List.mem_cons_of_mem _ (List.mem_cons_of_mem _ ho)) | (simpa using ho) | (simp at ho; simp [ho]))).st rfl rfl)).sm rfl rfl)
theorem ps_in {back : aK} {cc : ByteArray} (hI : ∀ (j : Nat) (As : List Value) (st : aSt) (rc : (Option Value ⊕ Nat) × aSt), C j As st = some rc → Cl st → (∀ o, Value.ref o ∈ As → okr (gN st) o) → ResOk st rc) (hpl : pl = true → ∀ e ∈ M.1, plE e = true) (hwf : wfb cc oc ini M M.1 = true)
    (K : ∀ (cs' : List aE) (ls' : aL) (stk' : List Value) (cn' : Nat × Nat) (st' : aSt), back cs' ls' stk' cn' st' = some res → (∃ i, cs' = M.1.drop i) → VOk st' ls' stk' → Gg pl res st') :
    ∀ (k : Nat) (cs : List aE) (ls : aL) (stk : List Value) (cn : Nat × Nat) (st : aSt), am_in X C M back k cs ls stk cn st = some res → (∃ i, cs = M.1.drop i) → VOk st ls stk → Gg pl res st := by
  intro k
  induction k with
  | zero => intro cs ls stk cn st h; cases h
  | succ k ih =>
    intro cs ls stk cn st h hi hV
    cases cs with
    | nil => cases h
    | cons e9 cs9 =>
      obtain ⟨pc, cut, ins, a, b⟩ := e9
      obtain ⟨i, hi⟩ := hi
      have h : am_step X C M (nxt back (am_in X C M back k)) (pc, cut, ins, a, b) cs9 ls stk cn st = some res := h
      obtain ⟨hd, hw⟩ := wf_at M.1 i pc a b cut ins cs9 hwf hi.symm
      refine ps_step hI (fun z => hpl z _ (mem_drop hi.symm)) (by cases ins <;> first | rfl | exact hw) (fun cs' ls' stk' cn' st' hg hcs' hV' => ?_) hV h
      have hsuf : ∃ i, cs' = M.1.drop i := by
        rcases hcs' with rfl | hcs'
        · exact ⟨i + 1, (drop_next hi.symm).symm⟩
        · exact hcs'
      unfold nxt at hg
      split at hg
      · exact K _ _ _ _ _ hg hsuf ⟨hV'.1, fun j o hj => hV'.2.1 j o (aMask_at _ _ j _ hj), hV'.2.2⟩
      · exact ih _ _ _ _ _ hg hsuf hV'
theorem ps_run {cc : ByteArray} (hI : ∀ (j : Nat) (As : List Value) (st : aSt) (rc : (Option Value ⊕ Nat) × aSt), C j As st = some rc → Cl st → (∀ o, Value.ref o ∈ As → okr (gN st) o) → ResOk st rc) (hpl : pl = true → ∀ e ∈ M.1, plE e = true) (hwf : wfb cc oc ini M M.1 = true) :
    ∀ (n : Nat) (cs : List aE) (ls : aL) (stk : List Value) (cn : Nat × Nat) (st : aSt), am_run X C M n cs ls stk cn st = some res → (∃ i, cs = M.1.drop i) → VOk st ls stk → Gg pl res st := by
  intro n
  induction n with
  | zero => intro cs ls stk cn st h; cases h
  | succ n ih => exact fun cs ls stk cn st h => ps_in hI hpl hwf ih 400 cs ls stk cn st h
end PU
theorem aIn_ref : ∀ (As : List Value) (n j o : Nat), (aIn As n)[j]? = some (some (.ref o)) → Value.ref o ∈ As
  | [], n, j, o, h => by
    rw [aIn, List.getElem?_replicate] at h
    split at h <;> cases h
  | v :: l, n, j, o, h => by
    have key : ∀ (t : aL), (∀ j : Nat, t[j]? = some (some (Value.ref o)) → Value.ref o ∈ l) → (some v :: t)[j]? = some (some (Value.ref o)) → Value.ref o ∈ v :: l := by
      intro t ht h
      cases j with
      | zero => rw [List.getElem?_cons_zero] at h; cases h; exact List.mem_cons_self
      | succ j => rw [List.getElem?_cons_succ] at h; exact List.mem_cons_of_mem _ (ht j h)
    cases v <;> first
      | exact key _ (fun j h => aIn_ref l _ j o h) h
      | (refine key _ (fun j h => ?_) h
         cases j with
         | zero => cases h
         | succ j => exact aIn_ref l _ j o h)
/-- every row of every method is what it must be -/
def WFall : Prop := ∀ j, j < 303 → wfb (inf j).2.1 (inf j).2.2.2.2.1 (iniJ j) (aP j) (aP j).1 = true
theorem pure_call (W : WFall) (X : Nat × (Nat → Int32)) : ∀ (d j : Nat) (As : List Value) (st : aSt) (rc : (Option Value ⊕ Nat) × aSt), am_call X aP d j As st = some rc → Cl st → (∀ o, Value.ref o ∈ As → okr (gN st) o) → Gg (plT j) rc st := by
  intro d
  induction d with
  | zero => intro j As st rc h; cases h
  | succ d ih =>
    intro j As st rc h hc ha
    have h : (if j < 1000 then (if (As.map fun v => v.category).sum ≤ (aP j).2.1 ∧ As.all noD = true then am_run X (am_call X aP d) (aP j) 10000000 (aP j).1 (aIn As (aP j).2.1) [] (0, 0) st else none) else aPrim j As st) = some rc := h
    split at h
    · split at h
      · by_cases hj : j < 303
        · obtain ⟨k1, -, k3, -⟩ := ck_use hj
          exact ps_run (fun j As st rc z1 z2 z3 => (ih j As st rc z1 z2 z3).1) (fun z => k3 z) (W j hj) _ _ _ _ _ _ h ⟨0, rfl⟩ ⟨hc, fun i o ho => ha o (aIn_ref _ _ _ _ ho), fun o ho => by simp at ho⟩
        · have e : (aP j).1 = [] := by
            unfold aP
            rw [List.getD_eq_getElem?_getD, List.getElem?_eq_none (by rw [aTab_len]; omega)]
            rfl
          rw [e] at h
          cases h
      · cases h
    · unfold aPrim at h
      split at h
      · split at h
        · split at h
          · cases h; exact ⟨⟨hc, Nat.le_refl _, (fun o z => by cases z), (fun k z => by cases z)⟩, fun _ => ⟨rfl, rfl⟩⟩
          · cases h
        · cases h
      · split at h
        · split at h
          · split at h
            · split at h
              · cases h
              · cases h; exact ⟨⟨hc, Nat.le_refl _, (fun o z => by cases z), (fun k z => by cases z)⟩, fun _ => ⟨rfl, rfl⟩⟩
            · cases h
          · cases h
        · cases h
