/-! ALL INSTRUCTIONS: the forward run, but for those that end, call, throw or make many at once (specI) -/
def specI : ClassFile.Instr → Bool
  | .ireturn => true
  | .lreturn => true
  | .return_ => true
  | .invokestatic _ => true
  | .invokevirtual _ => true
  | .invokespecial _ => true
  | .new _ => true
  | .multianewarray _ _ => true
  | .tableswitch _ _ _ _ => true
  | .arraylength => true
  | _ => false
section SM
variable {p : Program} {l : Launch} {e : Env} {R : Room} {s : State} {m : MethodId} {args : Array Value} {below : List Frame} {meth : Method} {c : Code} {Q : State → Prop} {cc : ByteArray} {D : va_G} {cy : Nat → ClassId} {A : Nat → Prop} {nL : Nat} {Ad : (Nat → Nat) → Prop}
variable {X : Nat × (Nat → Int32)} {C : Nat → List Value → aSt → aRes} {M : aM} {res : (Option Value ⊕ Nat) × aSt} {oc : Nat} {ini : Bool} {n0 : Nat}
/-- what a body stands in -/
def Cx (p : Program) (R : Room) (s : State) (m : MethodId) (args : Array Value) (meth : Method) (c : Code) (cc : ByteArray) (D : va_G) (cy : Nat → ClassId) (A : Nat → Prop) (nL : Nat) (Ad : (Nat → Nat) → Prop) (M : aM) (oc : Nat) (ini : Bool) (n0 : Nat) : Prop :=
  p.tables.exec = Jvm.exec ∧ c.code = cc ∧ nL = M.2.1 ∧ (∀ w ∈ Tw, w.before args s = true) ∧ va_K D clL (tysL cy) s ∧ s.vm.findClass (ownN oc) = some m.cls ∧ (ini = true → meth.name = "<init>" ∧ oc < 10) ∧ (∀ t ∈ strT, ∃ tx, ∀ ad, Ad ad → vk_R (ownN t.1) t.2.1 tx (ad (2000000 + t.2.2)) s) ∧ (∀ q, s.heap.size ≤ q → A q) ∧ (∀ (n : Nat) (ad ad' : Nat → Nat), n0 ≤ n → AdX n ad ad' → Ad ad → Ad ad') ∧ M.2.2.2.1 ≤ R.cells ∧ M.2.2.2.2 ≤ R.slots
theorem sim_step {g : aK} {pc a b : Nat} {cut : Option (List Bool)} {ins : ClassFile.Instr} {cs : List aE} {ls : aL} {stk : List Value} {cn : Nat × Nat} {st : aSt} (hC : Cx p R s m args meth c cc D cy A nL Ad M oc ini n0) (hn0 : n0 ≤ gN st)
    (hd : specI ins = false ∨ ins = .arraylength ∨ (∃ t, ins = .newarray t) → decode cc pc = .ok (ins, ilen ins)) (hw : opb oc ini M pc ins a b cs = true) (hN : Nx p l e R s m args below meth c Q D cy A nL Ad M g res cs st cn) (h : am_step X C M g (pc, cut, ins, a, b) cs ls stk cn st = some res)
    (hSp : specI ins = true → Gp p l e R s m args below meth c Q D clL cy A nL Ad pc ls stk cn st) (hns : ∀ (i : Int32) (r : List Value), ins = .iaload → stk = .int i :: .ref 1000000 :: r → Gp p l e R s m args below meth c Q D clL cy A nL Ad pc ls stk cn st) : Gp p l e R s m args below meth c Q D clL cy A nL Ad pc ls stk cn st := by
  obtain ⟨hx, hb, hnl, hts, hK, hown, hini, hstr, hA, hAd, hRc, hRs⟩ := hC
  have hAd' : ∀ ad ad', AdX (gN st) ad ad' → Ad ad → Ad ad' := fun ad ad' h1 h2 => hAd _ _ _ hn0 h1 h2
  cases ins
  case iadd => exact ss_iadd hx hb (hd (Or.inl rfl)) hw hN h
  case isub => exact ss_isub hx hb (hd (Or.inl rfl)) hw hN h
  case imul => exact ss_imul hx hb (hd (Or.inl rfl)) hw hN h
  case iand => exact ss_iand hx hb (hd (Or.inl rfl)) hw hN h
  case ior => exact ss_ior hx hb (hd (Or.inl rfl)) hw hN h
  case ixor => exact ss_ixor hx hb (hd (Or.inl rfl)) hw hN h
  case ishl => exact ss_ishl hx hb (hd (Or.inl rfl)) hw hN h
  case ishr => exact ss_ishr hx hb (hd (Or.inl rfl)) hw hN h
  case iushr => exact ss_iushr hx hb (hd (Or.inl rfl)) hw hN h
  case ladd => exact ss_ladd hx hb (hd (Or.inl rfl)) hw hN h
  case lmul => exact ss_lmul hx hb (hd (Or.inl rfl)) hw hN h
  case i2l => exact ss_i2l hx hb (hd (Or.inl rfl)) hw hN h
  case lcmp => exact ss_lcmp hx hb (hd (Or.inl rfl)) hw hN h
  case pop => exact ss_pop hx hb (hd (Or.inl rfl)) hw hN h
  case dup2 => exact ss_dup2 hx hb (hd (Or.inl rfl)) hw hN h
  case idiv => exact ss_idiv hx hb (hd (Or.inl rfl)) hw hN h
  case irem => exact ss_irem hx hb (hd (Or.inl rfl)) hw hN h
  case ldiv => exact ss_ldiv hx hb (hd (Or.inl rfl)) hw hN h
  case lrem => exact ss_lrem hx hb (hd (Or.inl rfl)) hw hN h
  case dup => exact ss_dup hx hb (hd (Or.inl rfl)) hw hN h
  case iconst => exact ss_iconst hx hb (hd (Or.inl rfl)) hw hN h
  case bipush => exact ss_bipush hx hb (hd (Or.inl rfl)) hw hN h
  case sipush => exact ss_sipush hx hb (hd (Or.inl rfl)) hw hN h
  case lconst => exact ss_lconst hx hb (hd (Or.inl rfl)) hw hN h
  case iload => exact ss_iload hx hb (hd (Or.inl rfl)) hw hN h
  case lload => exact ss_lload hx hb (hd (Or.inl rfl)) hw hN h
  case aload => exact ss_aload hx hb (hd (Or.inl rfl)) hw hN h
  case iload_n => exact ss_iload_n hx hb (hd (Or.inl rfl)) hw hN h
  case lload_n => exact ss_lload_n hx hb (hd (Or.inl rfl)) hw hN h
  case aload_n => exact ss_aload_n hx hb (hd (Or.inl rfl)) hw hN h
  case goto => exact ss_goto hx hb (hd (Or.inl rfl)) hw hN h
  case istore => exact ss_istore hx hb hnl (hd (Or.inl rfl)) hw hN h
  case astore => exact ss_astore hx hb hnl (hd (Or.inl rfl)) hw hN h
  case lstore => exact ss_lstore hx hb hnl (hd (Or.inl rfl)) hw hN h
  case istore_n => exact ss_istore_n hx hb hnl (hd (Or.inl rfl)) hw hN h
  case astore_n => exact ss_astore_n hx hb hnl (hd (Or.inl rfl)) hw hN h
  case lstore_n => exact ss_lstore_n hx hb hnl (hd (Or.inl rfl)) hw hN h
  case iinc => exact ss_iinc hx hb hnl (hd (Or.inl rfl)) hw hN h
  case getfield => exact ss_getfield hx hb hts hK hown (hd (Or.inl rfl)) hw hN h
  case laload => exact ss_laload hx hb hts hK hown (hd (Or.inl rfl)) hw hN h
  case aaload => exact ss_aaload hx hb hts hK hown (hd (Or.inl rfl)) hw hN h
  case iastore => exact ss_iastore hx hb hts hK hown (hd (Or.inl rfl)) hw hN h
  case lastore => exact ss_lastore hx hb hts hK hown (hd (Or.inl rfl)) hw hN h
  case ldc2_w => exact ss_ldc2_w hx hb hts hK hown (hd (Or.inl rfl)) hw hN h
  case iaload => exact ss_iaload hx hb hts hK hown (fun i r z => hns i r rfl z) (hd (Or.inl rfl)) hw hN h
  case putfield => exact ss_putfield hx hb hts hK hown hini (hd (Or.inl rfl)) hw hN h
  case ldc => exact ss_ldc hx hb hts hK hown hstr (hd (Or.inl rfl)) hw hN h
  case ldc_w => exact ss_ldc_w hx hb hts hK hown hstr (hd (Or.inl rfl)) hw hN h
  case newarray => exact ss_newarray hx hb hts hK hown hA hAd' hRc hRs (hd (Or.inl rfl)) hw hN h
  case ifCond c9 off =>
    cases c9
    case eq => exact ss_if_eq hx hb (hd (Or.inl rfl)) hw hN h
    case ne => exact ss_if_ne hx hb (hd (Or.inl rfl)) hw hN h
    case lt => exact ss_if_lt hx hb (hd (Or.inl rfl)) hw hN h
    case ge => exact ss_if_ge hx hb (hd (Or.inl rfl)) hw hN h
    case gt => exact ss_if_gt hx hb (hd (Or.inl rfl)) hw hN h
    case le => exact ss_if_le hx hb (hd (Or.inl rfl)) hw hN h
  case if_icmp c9 off =>
    cases c9
    case eq => exact ss_icmp_eq hx hb (hd (Or.inl rfl)) hw hN h
    case ne => exact ss_icmp_ne hx hb (hd (Or.inl rfl)) hw hN h
    case lt => exact ss_icmp_lt hx hb (hd (Or.inl rfl)) hw hN h
    case ge => exact ss_icmp_ge hx hb (hd (Or.inl rfl)) hw hN h
    case gt => exact ss_icmp_gt hx hb (hd (Or.inl rfl)) hw hN h
    case le => exact ss_icmp_le hx hb (hd (Or.inl rfl)) hw hN h
  all_goals first
    | exact hSp rfl
    | (have h9 : (none : aRes) = some res := h; cases h9)
theorem Gp_mask {pc : Nat} {ls : aL} {stk : List Value} {cn : Nat × Nat} {st : aSt} {mk : List Bool} (h : Gp p l e R s m args below meth c Q D clL cy A nL Ad pc (aMask mk ls) stk cn st) : Gp p l e R s m args below meth c Q D clL cy A nL Ad pc ls stk cn st := by
  intro ad jl H locs ha hL hV hP hD hS
  exact h ad jl H locs ha (hL.sub (fun j w hj => aMask_at mk ls j w hj)) ⟨hV.1, fun j o hj => hV.2.1 j o (aMask_at mk ls j _ hj), hV.2.2⟩ hP hD hS
theorem wf_at {cc : ByteArray} : ∀ (L : List aE) (i pc a b : Nat) (cut : Option (List Bool)) (ins : ClassFile.Instr) (cs : List aE), wfb cc oc ini M L = true → L.drop i = (pc, cut, ins, a, b) :: cs → ((match ins with
      | .tableswitch d lo hi offs => swb cc M pc d lo hi offs
      | i => decide (decode cc pc = .ok (i, ilen i))) = true) ∧ opb oc ini M pc ins a b cs = true
  | [], i, pc, a, b, cut, ins, cs, h, hi => by simp at hi
  | (pc9, cut9, ins9, a9, b9) :: L, 0, pc, a, b, cut, ins, cs, h, hi => by
    rw [List.drop_zero] at hi
    cases hi
    have h : (((match (generalizing := false) ins9 with
      | .tableswitch d lo hi offs => swb cc M pc9 d lo hi offs
      | i => decide (decode cc pc9 = .ok (i, ilen i))) && opb oc ini M pc9 ins9 a9 b9 L) && wfb cc oc ini M L) = true := h
    obtain ⟨h1, h2⟩ := and2 h
    exact and2 h1
  | (pc9, cut9, ins9, a9, b9) :: L, i + 1, pc, a, b, cut, ins, cs, h, hi => by
    have h : (((match (generalizing := false) ins9 with
      | .tableswitch d lo hi offs => swb cc M pc9 d lo hi offs
      | i => decide (decode cc pc9 = .ok (i, ilen i))) && opb oc ini M pc9 ins9 a9 b9 L) && wfb cc oc ini M L) = true := h
    exact wf_at L i pc a b cut ins cs (and2 h).2 (by simpa using hi)
/-- the special instructions, whatever comes next -/
def SpOk (p : Program) (l : Launch) (e : Env) (R : Room) (s : State) (m : MethodId) (args : Array Value) (below : List Frame) (meth : Method) (c : Code) (Q : State → Prop) (cc : ByteArray) (D : va_G) (cy : Nat → ClassId) (A : Nat → Prop) (nL : Nat) (Ad : (Nat → Nat) → Prop) (X : Nat × (Nat → Int32)) (C : Nat → List Value → aSt → aRes) (M : aM) (res : (Option Value ⊕ Nat) × aSt) (oc : Nat) (ini : Bool) (n0 : Nat) : Prop :=
  ∀ (g : aK) (pc a b i : Nat) (cut : Option (List Bool)) (ins : ClassFile.Instr) (cs : List aE) (ls : aL) (stk : List Value) (cn : Nat × Nat) (st : aSt), M.1.drop i = (pc, cut, ins, a, b) :: cs → (specI ins = true ∨ (ins = .iaload ∧ ∃ (x : Int32) (r : List Value), stk = .int x :: .ref 1000000 :: r)) → n0 ≤ gN st → cnOk M cn → Nx p l e R s m args below meth c Q D cy A nL Ad M g res cs st cn → am_step X C M g (pc, cut, ins, a, b) cs ls stk cn st = some res → Gp p l e R s m args below meth c Q D clL cy A nL Ad pc ls stk cn st
theorem sim_in {back : aK} (hC : Cx p R s m args meth c cc D cy A nL Ad M oc ini n0) (hwf : wfb cc oc ini M M.1 = true) (hSp : SpOk p l e R s m args below meth c Q cc D cy A nL Ad X C M res oc ini n0)
    (hback : ∀ (cs : List aE) (ls : aL) (stk : List Value) (cn : Nat × Nat) (st : aSt), back cs ls stk cn st = some res → (∃ i, cs = M.1.drop i) → n0 ≤ gN st → cnOk M cn → ∀ q, nxb cs q = true → Gp p l e R s m args below meth c Q D clL cy A nL Ad q ls stk cn st) :
    ∀ (k : Nat) (cs : List aE) (ls : aL) (stk : List Value) (cn : Nat × Nat) (st : aSt), am_in X C M back k cs ls stk cn st = some res → (∃ i, cs = M.1.drop i) → n0 ≤ gN st → cnOk M cn → ∀ q, nxb cs q = true → Gp p l e R s m args below meth c Q D clL cy A nL Ad q ls stk cn st := by
  intro k
  induction k with
  | zero => intro cs ls stk cn st h; exact absurd h (fun z => by cases z)
  | succ k ih =>
    intro cs ls stk cn st h hi hn hcn q hq
    obtain ⟨e9, cs9, hcs, he9⟩ := nx_use hq
    subst hcs
    obtain ⟨pc, cut, ins, a, b⟩ := e9
    have he9 : pc = q := he9
    subst he9
    obtain ⟨i, hi⟩ := hi
    have h : am_step X C M (nxt back (am_in X C M back k)) (pc, cut, ins, a, b) cs9 ls stk cn st = some res := h
    obtain ⟨hd, hw⟩ := wf_at M.1 i pc a b cut ins cs9 hwf hi.symm
    have hN : Nx p l e R s m args below meth c Q D cy A nL Ad M (nxt back (am_in X C M back k)) res cs9 st cn := by
      intro cs' q' ls' stk' cn' st' hg hcs' hn' hq'
      have hsuf : ∃ i, cs' = M.1.drop i := by
        rcases hcs' with rfl | hcs'
        · refine ⟨i + 1, ?_⟩
          rw [← List.drop_drop, ← hi]
          rfl
        · exact hcs'
      unfold nxt at hg
      split at hg
      · exact Gp_mask (hback _ _ _ _ _ hg hsuf (Nat.le_trans hn hn'.1) (hn'.2 hcn) q' hq')
      · exact ih _ _ _ _ _ hg hsuf (Nat.le_trans hn hn'.1) (hn'.2 hcn) q' hq'
    refine sim_step hC hn (fun z => ?_) hw hN h (fun z => hSp _ pc a b i cut ins cs9 ls stk cn st hi.symm (Or.inl z) hn hcn hN h) (fun x r z1 z2 => hSp _ pc a b i cut ins cs9 ls stk cn st hi.symm (Or.inr ⟨z1, x, r, z2⟩) hn hcn hN h)
    cases ins <;> first | exact of_decide_eq_true hd | (rcases z with z | z | ⟨t, z⟩ <;> cases z)
theorem sim_run (hC : Cx p R s m args meth c cc D cy A nL Ad M oc ini n0) (hwf : wfb cc oc ini M M.1 = true) (hSp : SpOk p l e R s m args below meth c Q cc D cy A nL Ad X C M res oc ini n0) :
    ∀ (n : Nat) (cs : List aE) (ls : aL) (stk : List Value) (cn : Nat × Nat) (st : aSt), am_run X C M n cs ls stk cn st = some res → (∃ i, cs = M.1.drop i) → n0 ≤ gN st → cnOk M cn → ∀ q, nxb cs q = true → Gp p l e R s m args below meth c Q D clL cy A nL Ad q ls stk cn st := by
  intro n
  induction n with
  | zero => intro cs ls stk cn st h; exact absurd h (fun z => by cases z)
  | succ n ih => exact fun cs ls stk cn st h => sim_in hC hwf hSp ih 400 cs ls stk cn st h
end SM
