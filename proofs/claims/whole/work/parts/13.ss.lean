/-! ONE STEP of the small machine, instruction by instruction, is one of the great one -/
noncomputable def Tw : List Cond := lw_tbl.filter goodWord
theorem tw_of {w : Cond} (h : w ∈ lw_tbl) (g : goodWord w = true) : w ∈ Tw := List.mem_filter.mpr ⟨h, g⟩
theorem nx_use {cs : List aE} {q : Nat} (h : nxb cs q = true) : ∃ e cs', cs = e :: cs' ∧ e.1 = q := by
  match cs, h with
  | e :: cs', h => exact ⟨e, cs', rfl, by simpa [nxb] using h⟩
theorem tg_use {M : aM} {a : Nat} {q : Int} (h : tgb M a q = true) : ∃ t : Nat, nxb (M.1.drop a) t = true ∧ q = (t : Int) := by
  unfold tgb at h
  split at h
  · cases h
  · rename_i e9 cs9 he
    exact ⟨e9.1, by rw [he]; simp [nxb], of_decide_eq_true h⟩
theorem and2 {a b : Bool} (h : (a && b) = true) : a = true ∧ b = true := by simpa using h
theorem lay_in (c : Nat) (hc : c < 10) : ∀ w ∈ u_ws (cC c) (cT c) (cN c), w ∈ Tw := by
  intro w hw
  have g : goodWord w = true := by
    obtain ⟨k, -, rfl⟩ := List.mem_map.mp (show w ∈ (List.range (cN c)).map (u_lay (cC c) (cT c)) from hw)
    unfold u_lay
    split <;> rfl
  refine tw_of ?_ g
  match c, hc, hw with
  | 0, _, hw => exact lay_in0 w hw
  | 1, _, hw => exact lay_in1 w hw
  | 2, _, hw => exact lay_in2 w hw
  | 3, _, hw => exact lay_in3 w hw
  | 4, _, hw => exact lay_in4 w hw
  | 5, _, hw => exact lay_in5 w hw
  | 6, _, hw => exact lay_in6 w hw
  | 7, _, hw => exact lay_in7 w hw
  | 8, _, hw => exact lay_in8 w hw
  | 9, _, hw => exact lay_in9 w hw
  | c + 10, hc, _ => omega
theorem mem_of_contains {α : Type} [BEq α] [LawfulBEq α] {l : List α} {a : α} (h : l.contains a = true) : a ∈ l := by simpa using h
theorem con_use {s : State} {args : Array Value} (hts : ∀ w ∈ Tw, w.before args s = true) {oc ix a : Nat} (h : conT.contains (oc, ix, a) = true) : (Cond.constant (ownN oc) ix (nI a)).before args s = true :=
  hts _ (tw_of (con_in _ (List.mem_map.mpr ⟨(oc, ix, a), mem_of_contains h, rfl⟩)) rfl)
theorem decl_ok : ∀ c, c < 10 → ∀ k, k < cN c → (cT c k).1 = ownN c := by decide +kernel
theorem cC_own : ∀ c, c < 10 → cC c ∈ ownL := by decide +kernel
section SS
variable {p : Program} {l : Launch} {e : Env} {R : Room} {s : State} {m : MethodId} {args : Array Value} {below : List Frame} {meth : Method} {c : Code} {Q : State → Prop} {cc : ByteArray} {D : va_G} {cy : Nat → ClassId} {A : Nat → Prop} {nL : Nat} {Ad : (Nat → Nat) → Prop}
variable {X : Nat × (Nat → Int32)} {C : Nat → List Value → aSt → aRes} {M : aM} {g : aK} {res : (Option Value ⊕ Nat) × aSt} {pc a b oc : Nat} {cut : Option (List Bool)} {cs : List aE} {ls : aL} {stk : List Value} {cn : Nat × Nat} {st : aSt} {ini : Bool}
/-- what was made is within what may be made -/
def cnOk (M : aM) (cn : Nat × Nat) : Prop := cn.1 ≤ M.2.2.2.1 ∧ cn.2 ≤ M.2.2.2.2
/-- what comes next goes on -/
def Nx (p : Program) (l : Launch) (e : Env) (R : Room) (s : State) (m : MethodId) (args : Array Value) (below : List Frame) (meth : Method) (c : Code) (Q : State → Prop) (D : va_G) (cy : Nat → ClassId) (A : Nat → Prop) (nL : Nat) (Ad : (Nat → Nat) → Prop) (M : aM) (g : aK) (res : (Option Value ⊕ Nat) × aSt) (cs : List aE) (st : aSt) (cn : Nat × Nat) : Prop :=
  ∀ (cs' : List aE) (q : Nat) (ls' : aL) (stk' : List Value) (cn' : Nat × Nat) (st' : aSt), g cs' ls' stk' cn' st' = some res → (cs' = cs ∨ ∃ i, cs' = M.1.drop i) → (gN st ≤ gN st' ∧ (cnOk M cn → cnOk M cn')) → nxb cs' q = true → Gp p l e R s m args below meth c Q D clL cy A nL Ad q ls' stk' cn' st'

theorem KK_10 {o : Nat} (h : KK o = 10) (h9 : ¬ o = 1000000) : o < 1000000 := by
  rcases Nat.lt_or_ge o 1000000 with q | q
  · exact q
  · unfold KK at h
    rw [if_pos q, if_neg h9] at h
    by_cases h2 : o < 2000000
    · rw [if_pos h2] at h; omega
    · rw [if_neg h2] at h; split at h <;> omega

theorem ss_iadd (hx : p.tables.exec = Jvm.exec) (hb : c.code = cc) (hd : decode cc pc = .ok (.iadd, ilen (.iadd))) (hw : opb oc ini M pc (.iadd) a b cs = true) (hN : Nx p l e R s m args below meth c Q D cy A nL Ad M g res cs st cn) (h : am_step X C M g (pc, cut, .iadd, a, b) cs ls stk cn st = some res) : Gp p l e R s m args below meth c Q D clL cy A nL Ad pc ls stk cn st := by
  have hw : nxb cs (pc + 1) = true := hw
  have h : (match (generalizing := false) stk with
    | .int y :: .int x :: r => g cs ls (.int (x + y) :: r) cn st
    | _ => none) = some res := h
  split at h
  · exact si_iadd hx hb hd (hN cs _ _ _ _ _ h (Or.inl rfl) ⟨Nat.le_refl _, id⟩ hw)
  · cases h

theorem ss_isub (hx : p.tables.exec = Jvm.exec) (hb : c.code = cc) (hd : decode cc pc = .ok (.isub, ilen (.isub))) (hw : opb oc ini M pc (.isub) a b cs = true) (hN : Nx p l e R s m args below meth c Q D cy A nL Ad M g res cs st cn) (h : am_step X C M g (pc, cut, .isub, a, b) cs ls stk cn st = some res) : Gp p l e R s m args below meth c Q D clL cy A nL Ad pc ls stk cn st := by
  have hw : nxb cs (pc + 1) = true := hw
  have h : (match (generalizing := false) stk with
    | .int y :: .int x :: r => g cs ls (.int (x - y) :: r) cn st
    | _ => none) = some res := h
  split at h
  · exact si_isub hx hb hd (hN cs _ _ _ _ _ h (Or.inl rfl) ⟨Nat.le_refl _, id⟩ hw)
  · cases h

theorem ss_imul (hx : p.tables.exec = Jvm.exec) (hb : c.code = cc) (hd : decode cc pc = .ok (.imul, ilen (.imul))) (hw : opb oc ini M pc (.imul) a b cs = true) (hN : Nx p l e R s m args below meth c Q D cy A nL Ad M g res cs st cn) (h : am_step X C M g (pc, cut, .imul, a, b) cs ls stk cn st = some res) : Gp p l e R s m args below meth c Q D clL cy A nL Ad pc ls stk cn st := by
  have hw : nxb cs (pc + 1) = true := hw
  have h : (match (generalizing := false) stk with
    | .int y :: .int x :: r => g cs ls (.int (x * y) :: r) cn st
    | _ => none) = some res := h
  split at h
  · exact si_imul hx hb hd (hN cs _ _ _ _ _ h (Or.inl rfl) ⟨Nat.le_refl _, id⟩ hw)
  · cases h

theorem ss_iand (hx : p.tables.exec = Jvm.exec) (hb : c.code = cc) (hd : decode cc pc = .ok (.iand, ilen (.iand))) (hw : opb oc ini M pc (.iand) a b cs = true) (hN : Nx p l e R s m args below meth c Q D cy A nL Ad M g res cs st cn) (h : am_step X C M g (pc, cut, .iand, a, b) cs ls stk cn st = some res) : Gp p l e R s m args below meth c Q D clL cy A nL Ad pc ls stk cn st := by
  have hw : nxb cs (pc + 1) = true := hw
  have h : (match (generalizing := false) stk with
    | .int y :: .int x :: r => g cs ls (.int (x &&& y) :: r) cn st
    | _ => none) = some res := h
  split at h
  · exact si_iand hx hb hd (hN cs _ _ _ _ _ h (Or.inl rfl) ⟨Nat.le_refl _, id⟩ hw)
  · cases h

theorem ss_ior (hx : p.tables.exec = Jvm.exec) (hb : c.code = cc) (hd : decode cc pc = .ok (.ior, ilen (.ior))) (hw : opb oc ini M pc (.ior) a b cs = true) (hN : Nx p l e R s m args below meth c Q D cy A nL Ad M g res cs st cn) (h : am_step X C M g (pc, cut, .ior, a, b) cs ls stk cn st = some res) : Gp p l e R s m args below meth c Q D clL cy A nL Ad pc ls stk cn st := by
  have hw : nxb cs (pc + 1) = true := hw
  have h : (match (generalizing := false) stk with
    | .int y :: .int x :: r => g cs ls (.int (x ||| y) :: r) cn st
    | _ => none) = some res := h
  split at h
  · exact si_ior hx hb hd (hN cs _ _ _ _ _ h (Or.inl rfl) ⟨Nat.le_refl _, id⟩ hw)
  · cases h

theorem ss_ixor (hx : p.tables.exec = Jvm.exec) (hb : c.code = cc) (hd : decode cc pc = .ok (.ixor, ilen (.ixor))) (hw : opb oc ini M pc (.ixor) a b cs = true) (hN : Nx p l e R s m args below meth c Q D cy A nL Ad M g res cs st cn) (h : am_step X C M g (pc, cut, .ixor, a, b) cs ls stk cn st = some res) : Gp p l e R s m args below meth c Q D clL cy A nL Ad pc ls stk cn st := by
  have hw : nxb cs (pc + 1) = true := hw
  have h : (match (generalizing := false) stk with
    | .int y :: .int x :: r => g cs ls (.int (x ^^^ y) :: r) cn st
    | _ => none) = some res := h
  split at h
  · exact si_ixor hx hb hd (hN cs _ _ _ _ _ h (Or.inl rfl) ⟨Nat.le_refl _, id⟩ hw)
  · cases h

theorem ss_ishl (hx : p.tables.exec = Jvm.exec) (hb : c.code = cc) (hd : decode cc pc = .ok (.ishl, ilen (.ishl))) (hw : opb oc ini M pc (.ishl) a b cs = true) (hN : Nx p l e R s m args below meth c Q D cy A nL Ad M g res cs st cn) (h : am_step X C M g (pc, cut, .ishl, a, b) cs ls stk cn st = some res) : Gp p l e R s m args below meth c Q D clL cy A nL Ad pc ls stk cn st := by
  have hw : nxb cs (pc + 1) = true := hw
  have h : (match (generalizing := false) stk with
    | .int y :: .int x :: r => g cs ls (.int (x <<< (y &&& 31)) :: r) cn st
    | _ => none) = some res := h
  split at h
  · exact si_ishl hx hb hd (hN cs _ _ _ _ _ h (Or.inl rfl) ⟨Nat.le_refl _, id⟩ hw)
  · cases h

theorem ss_ishr (hx : p.tables.exec = Jvm.exec) (hb : c.code = cc) (hd : decode cc pc = .ok (.ishr, ilen (.ishr))) (hw : opb oc ini M pc (.ishr) a b cs = true) (hN : Nx p l e R s m args below meth c Q D cy A nL Ad M g res cs st cn) (h : am_step X C M g (pc, cut, .ishr, a, b) cs ls stk cn st = some res) : Gp p l e R s m args below meth c Q D clL cy A nL Ad pc ls stk cn st := by
  have hw : nxb cs (pc + 1) = true := hw
  have h : (match (generalizing := false) stk with
    | .int y :: .int x :: r => g cs ls (.int (x >>> (y &&& 31)) :: r) cn st
    | _ => none) = some res := h
  split at h
  · exact si_ishr hx hb hd (hN cs _ _ _ _ _ h (Or.inl rfl) ⟨Nat.le_refl _, id⟩ hw)
  · cases h

theorem ss_iushr (hx : p.tables.exec = Jvm.exec) (hb : c.code = cc) (hd : decode cc pc = .ok (.iushr, ilen (.iushr))) (hw : opb oc ini M pc (.iushr) a b cs = true) (hN : Nx p l e R s m args below meth c Q D cy A nL Ad M g res cs st cn) (h : am_step X C M g (pc, cut, .iushr, a, b) cs ls stk cn st = some res) : Gp p l e R s m args below meth c Q D clL cy A nL Ad pc ls stk cn st := by
  have hw : nxb cs (pc + 1) = true := hw
  have h : (match (generalizing := false) stk with
    | .int y :: .int x :: r => g cs ls (.int ((x.toUInt32 >>> (y.toUInt32 &&& Int32.toUInt32 31)).toInt32) :: r) cn st
    | _ => none) = some res := h
  split at h
  · exact si_iushr hx hb hd (hN cs _ _ _ _ _ h (Or.inl rfl) ⟨Nat.le_refl _, id⟩ hw)
  · cases h

theorem ss_ladd (hx : p.tables.exec = Jvm.exec) (hb : c.code = cc) (hd : decode cc pc = .ok (.ladd, ilen (.ladd))) (hw : opb oc ini M pc (.ladd) a b cs = true) (hN : Nx p l e R s m args below meth c Q D cy A nL Ad M g res cs st cn) (h : am_step X C M g (pc, cut, .ladd, a, b) cs ls stk cn st = some res) : Gp p l e R s m args below meth c Q D clL cy A nL Ad pc ls stk cn st := by
  have hw : nxb cs (pc + 1) = true := hw
  have h : (match (generalizing := false) stk with
    | .long y :: .long x :: r => g cs ls (.long (x + y) :: r) cn st
    | _ => none) = some res := h
  split at h
  · exact si_ladd hx hb hd (hN cs _ _ _ _ _ h (Or.inl rfl) ⟨Nat.le_refl _, id⟩ hw)
  · cases h

theorem ss_lmul (hx : p.tables.exec = Jvm.exec) (hb : c.code = cc) (hd : decode cc pc = .ok (.lmul, ilen (.lmul))) (hw : opb oc ini M pc (.lmul) a b cs = true) (hN : Nx p l e R s m args below meth c Q D cy A nL Ad M g res cs st cn) (h : am_step X C M g (pc, cut, .lmul, a, b) cs ls stk cn st = some res) : Gp p l e R s m args below meth c Q D clL cy A nL Ad pc ls stk cn st := by
  have hw : nxb cs (pc + 1) = true := hw
  have h : (match (generalizing := false) stk with
    | .long y :: .long x :: r => g cs ls (.long (x * y) :: r) cn st
    | _ => none) = some res := h
  split at h
  · exact si_lmul hx hb hd (hN cs _ _ _ _ _ h (Or.inl rfl) ⟨Nat.le_refl _, id⟩ hw)
  · cases h

theorem ss_i2l (hx : p.tables.exec = Jvm.exec) (hb : c.code = cc) (hd : decode cc pc = .ok (.i2l, ilen (.i2l))) (hw : opb oc ini M pc (.i2l) a b cs = true) (hN : Nx p l e R s m args below meth c Q D cy A nL Ad M g res cs st cn) (h : am_step X C M g (pc, cut, .i2l, a, b) cs ls stk cn st = some res) : Gp p l e R s m args below meth c Q D clL cy A nL Ad pc ls stk cn st := by
  have hw : nxb cs (pc + 1) = true := hw
  have h : (match (generalizing := false) stk with
    | .int x :: r => g cs ls (.long x.toInt64 :: r) cn st
    | _ => none) = some res := h
  split at h
  · exact si_i2l hx hb hd (hN cs _ _ _ _ _ h (Or.inl rfl) ⟨Nat.le_refl _, id⟩ hw)
  · cases h

theorem ss_lcmp (hx : p.tables.exec = Jvm.exec) (hb : c.code = cc) (hd : decode cc pc = .ok (.lcmp, ilen (.lcmp))) (hw : opb oc ini M pc (.lcmp) a b cs = true) (hN : Nx p l e R s m args below meth c Q D cy A nL Ad M g res cs st cn) (h : am_step X C M g (pc, cut, .lcmp, a, b) cs ls stk cn st = some res) : Gp p l e R s m args below meth c Q D clL cy A nL Ad pc ls stk cn st := by
  have hw : nxb cs (pc + 1) = true := hw
  have h : (match (generalizing := false) stk with
    | .long y :: .long x :: r => g cs ls (.int (lg_cmp x y) :: r) cn st
    | _ => none) = some res := h
  split at h
  · exact si_lcmp hx hb hd (hN cs _ _ _ _ _ h (Or.inl rfl) ⟨Nat.le_refl _, id⟩ hw)
  · cases h

theorem ss_pop (hx : p.tables.exec = Jvm.exec) (hb : c.code = cc) (hd : decode cc pc = .ok (.pop, ilen (.pop))) (hw : opb oc ini M pc (.pop) a b cs = true) (hN : Nx p l e R s m args below meth c Q D cy A nL Ad M g res cs st cn) (h : am_step X C M g (pc, cut, .pop, a, b) cs ls stk cn st = some res) : Gp p l e R s m args below meth c Q D clL cy A nL Ad pc ls stk cn st := by
  have hw : nxb cs (pc + 1) = true := hw
  have h : (match (generalizing := false) stk with
    | .int z :: r => g cs ls r cn st
    | _ => none) = some res := h
  split at h
  · exact si_pop hx hb hd (hN cs _ _ _ _ _ h (Or.inl rfl) ⟨Nat.le_refl _, id⟩ hw)
  · cases h

theorem ss_dup2 (hx : p.tables.exec = Jvm.exec) (hb : c.code = cc) (hd : decode cc pc = .ok (.dup2, ilen (.dup2))) (hw : opb oc ini M pc (.dup2) a b cs = true) (hN : Nx p l e R s m args below meth c Q D cy A nL Ad M g res cs st cn) (h : am_step X C M g (pc, cut, .dup2, a, b) cs ls stk cn st = some res) : Gp p l e R s m args below meth c Q D clL cy A nL Ad pc ls stk cn st := by
  have hw : nxb cs (pc + 1) = true := hw
  have h : (match (generalizing := false) stk with
    | .int x :: .ref o :: r => g cs ls (.int x :: .ref o :: .int x :: .ref o :: r) cn st
    | _ => none) = some res := h
  split at h
  · exact si_dup2 hx hb hd (hN cs _ _ _ _ _ h (Or.inl rfl) ⟨Nat.le_refl _, id⟩ hw)
  · cases h

theorem ss_idiv (hx : p.tables.exec = Jvm.exec) (hb : c.code = cc) (hd : decode cc pc = .ok (.idiv, ilen (.idiv))) (hw : opb oc ini M pc (.idiv) a b cs = true) (hN : Nx p l e R s m args below meth c Q D cy A nL Ad M g res cs st cn) (h : am_step X C M g (pc, cut, .idiv, a, b) cs ls stk cn st = some res) : Gp p l e R s m args below meth c Q D clL cy A nL Ad pc ls stk cn st := by
  have hw : nxb cs (pc + 1) = true := hw
  have h : (match (generalizing := false) stk with
    | .int y :: .int x :: r => if y = 0 then none else g cs ls (.int (x / y) :: r) cn st
    | _ => none) = some res := h
  split at h
  · split at h
    · cases h
    · rename_i h9
      exact si_idiv hx hb hd h9 (hN cs _ _ _ _ _ h (Or.inl rfl) ⟨Nat.le_refl _, id⟩ hw)
  · cases h

theorem ss_irem (hx : p.tables.exec = Jvm.exec) (hb : c.code = cc) (hd : decode cc pc = .ok (.irem, ilen (.irem))) (hw : opb oc ini M pc (.irem) a b cs = true) (hN : Nx p l e R s m args below meth c Q D cy A nL Ad M g res cs st cn) (h : am_step X C M g (pc, cut, .irem, a, b) cs ls stk cn st = some res) : Gp p l e R s m args below meth c Q D clL cy A nL Ad pc ls stk cn st := by
  have hw : nxb cs (pc + 1) = true := hw
  have h : (match (generalizing := false) stk with
    | .int y :: .int x :: r => if y = 0 then none else g cs ls (.int (x - x / y * y) :: r) cn st
    | _ => none) = some res := h
  split at h
  · split at h
    · cases h
    · rename_i h9
      exact si_irem hx hb hd h9 (hN cs _ _ _ _ _ h (Or.inl rfl) ⟨Nat.le_refl _, id⟩ hw)
  · cases h

theorem ss_ldiv (hx : p.tables.exec = Jvm.exec) (hb : c.code = cc) (hd : decode cc pc = .ok (.ldiv, ilen (.ldiv))) (hw : opb oc ini M pc (.ldiv) a b cs = true) (hN : Nx p l e R s m args below meth c Q D cy A nL Ad M g res cs st cn) (h : am_step X C M g (pc, cut, .ldiv, a, b) cs ls stk cn st = some res) : Gp p l e R s m args below meth c Q D clL cy A nL Ad pc ls stk cn st := by
  have hw : nxb cs (pc + 1) = true := hw
  have h : (match (generalizing := false) stk with
    | .long y :: .long x :: r => if y = 0 then none else g cs ls (.long (x / y) :: r) cn st
    | _ => none) = some res := h
  split at h
  · split at h
    · cases h
    · rename_i h9
      exact si_ldiv hx hb hd h9 (hN cs _ _ _ _ _ h (Or.inl rfl) ⟨Nat.le_refl _, id⟩ hw)
  · cases h

theorem ss_lrem (hx : p.tables.exec = Jvm.exec) (hb : c.code = cc) (hd : decode cc pc = .ok (.lrem, ilen (.lrem))) (hw : opb oc ini M pc (.lrem) a b cs = true) (hN : Nx p l e R s m args below meth c Q D cy A nL Ad M g res cs st cn) (h : am_step X C M g (pc, cut, .lrem, a, b) cs ls stk cn st = some res) : Gp p l e R s m args below meth c Q D clL cy A nL Ad pc ls stk cn st := by
  have hw : nxb cs (pc + 1) = true := hw
  have h : (match (generalizing := false) stk with
    | .long y :: .long x :: r => if y = 0 then none else g cs ls (.long (x - x / y * y) :: r) cn st
    | _ => none) = some res := h
  split at h
  · split at h
    · cases h
    · rename_i h9
      exact si_lrem hx hb hd h9 (hN cs _ _ _ _ _ h (Or.inl rfl) ⟨Nat.le_refl _, id⟩ hw)
  · cases h

theorem ss_dup (hx : p.tables.exec = Jvm.exec) (hb : c.code = cc) (hd : decode cc pc = .ok (.dup, ilen (.dup))) (hw : opb oc ini M pc (.dup) a b cs = true) (hN : Nx p l e R s m args below meth c Q D cy A nL Ad M g res cs st cn) (h : am_step X C M g (pc, cut, .dup, a, b) cs ls stk cn st = some res) : Gp p l e R s m args below meth c Q D clL cy A nL Ad pc ls stk cn st := by
  have hw : nxb cs (pc + 1) = true := hw
  have h : (match (generalizing := false) stk with
    | .int x :: r => g cs ls (.int x :: .int x :: r) cn st
    | .ref x :: r => g cs ls (.ref x :: .ref x :: r) cn st
    | _ => none) = some res := h
  split at h
  · exact si_dupi hx hb hd (hN cs _ _ _ _ _ h (Or.inl rfl) ⟨Nat.le_refl _, id⟩ hw)
  · exact si_dupr hx hb hd (hN cs _ _ _ _ _ h (Or.inl rfl) ⟨Nat.le_refl _, id⟩ hw)
  · cases h

theorem ss_iconst (hx : p.tables.exec = Jvm.exec) (hb : c.code = cc) {n : Int} (hd : decode cc pc = .ok (.iconst n, ilen (.iconst n))) (hw : opb oc ini M pc (.iconst n) a b cs = true) (hN : Nx p l e R s m args below meth c Q D cy A nL Ad M g res cs st cn) (h : am_step X C M g (pc, cut, .iconst n, a, b) cs ls stk cn st = some res) : Gp p l e R s m args below meth c Q D clL cy A nL Ad pc ls stk cn st := by
  obtain ⟨h1, hw⟩ := and2 hw
  have h : g cs ls (.int (nI a) :: stk) cn st = some res := h
  exact si_iconst hx hb hd (of_decide_eq_true h1) (hN cs _ _ _ _ _ h (Or.inl rfl) ⟨Nat.le_refl _, id⟩ hw)

theorem ss_bipush (hx : p.tables.exec = Jvm.exec) (hb : c.code = cc) {n : Int} (hd : decode cc pc = .ok (.bipush n, ilen (.bipush n))) (hw : opb oc ini M pc (.bipush n) a b cs = true) (hN : Nx p l e R s m args below meth c Q D cy A nL Ad M g res cs st cn) (h : am_step X C M g (pc, cut, .bipush n, a, b) cs ls stk cn st = some res) : Gp p l e R s m args below meth c Q D clL cy A nL Ad pc ls stk cn st := by
  obtain ⟨h1, hw⟩ := and2 hw
  have h : g cs ls (.int (nI a) :: stk) cn st = some res := h
  exact si_bipush hx hb hd (of_decide_eq_true h1) (hN cs _ _ _ _ _ h (Or.inl rfl) ⟨Nat.le_refl _, id⟩ hw)

theorem ss_sipush (hx : p.tables.exec = Jvm.exec) (hb : c.code = cc) {n : Int} (hd : decode cc pc = .ok (.sipush n, ilen (.sipush n))) (hw : opb oc ini M pc (.sipush n) a b cs = true) (hN : Nx p l e R s m args below meth c Q D cy A nL Ad M g res cs st cn) (h : am_step X C M g (pc, cut, .sipush n, a, b) cs ls stk cn st = some res) : Gp p l e R s m args below meth c Q D clL cy A nL Ad pc ls stk cn st := by
  obtain ⟨h1, hw⟩ := and2 hw
  have h : g cs ls (.int (nI a) :: stk) cn st = some res := h
  exact si_sipush hx hb hd (of_decide_eq_true h1) (hN cs _ _ _ _ _ h (Or.inl rfl) ⟨Nat.le_refl _, id⟩ hw)

theorem ss_lconst (hx : p.tables.exec = Jvm.exec) (hb : c.code = cc) {n : Fin 2} (hd : decode cc pc = .ok (.lconst n, ilen (.lconst n))) (hw : opb oc ini M pc (.lconst n) a b cs = true) (hN : Nx p l e R s m args below meth c Q D cy A nL Ad M g res cs st cn) (h : am_step X C M g (pc, cut, .lconst n, a, b) cs ls stk cn st = some res) : Gp p l e R s m args below meth c Q D clL cy A nL Ad pc ls stk cn st := by
  obtain ⟨h1, hw⟩ := and2 hw
  have h : g cs ls (.long (lN a) :: stk) cn st = some res := h
  exact si_lconst hx hb hd (of_decide_eq_true h1) (hN cs _ _ _ _ _ h (Or.inl rfl) ⟨Nat.le_refl _, id⟩ hw)

theorem ss_iload (hx : p.tables.exec = Jvm.exec) (hb : c.code = cc) {i : Nat} (hd : decode cc pc = .ok (.iload i, ilen (.iload i))) (hw : opb oc ini M pc (.iload i) a b cs = true) (hN : Nx p l e R s m args below meth c Q D cy A nL Ad M g res cs st cn) (h : am_step X C M g (pc, cut, .iload i, a, b) cs ls stk cn st = some res) : Gp p l e R s m args below meth c Q D clL cy A nL Ad pc ls stk cn st := by
  obtain ⟨h1, hw⟩ := and2 hw
  have h : (match (generalizing := false) ls[a]? with
    | some (some (.int x)) => g cs ls (.int x :: stk) cn st
    | _ => none) = some res := h
  split at h
  · rename_i x h9
    exact si_iload hx hb (i := a) (by rw [← of_decide_eq_true h1]; exact hd) h9 (hN cs _ _ _ _ _ h (Or.inl rfl) ⟨Nat.le_refl _, id⟩ hw)
  · cases h

theorem ss_iload_n (hx : p.tables.exec = Jvm.exec) (hb : c.code = cc) {i : Fin 4} (hd : decode cc pc = .ok (.iload_n i, ilen (.iload_n i))) (hw : opb oc ini M pc (.iload_n i) a b cs = true) (hN : Nx p l e R s m args below meth c Q D cy A nL Ad M g res cs st cn) (h : am_step X C M g (pc, cut, .iload_n i, a, b) cs ls stk cn st = some res) : Gp p l e R s m args below meth c Q D clL cy A nL Ad pc ls stk cn st := by
  obtain ⟨h1, hw⟩ := and2 hw
  have h : (match (generalizing := false) ls[a]? with
    | some (some (.int x)) => g cs ls (.int x :: stk) cn st
    | _ => none) = some res := h
  split at h
  · rename_i x h9
    exact si_iload_n hx hb (i := a) hd (of_decide_eq_true h1) h9 (hN cs _ _ _ _ _ h (Or.inl rfl) ⟨Nat.le_refl _, id⟩ hw)
  · cases h

theorem ss_lload (hx : p.tables.exec = Jvm.exec) (hb : c.code = cc) {i : Nat} (hd : decode cc pc = .ok (.lload i, ilen (.lload i))) (hw : opb oc ini M pc (.lload i) a b cs = true) (hN : Nx p l e R s m args below meth c Q D cy A nL Ad M g res cs st cn) (h : am_step X C M g (pc, cut, .lload i, a, b) cs ls stk cn st = some res) : Gp p l e R s m args below meth c Q D clL cy A nL Ad pc ls stk cn st := by
  obtain ⟨h1, hw⟩ := and2 hw
  have h : (match (generalizing := false) ls[a]? with
    | some (some (.long x)) => g cs ls (.long x :: stk) cn st
    | _ => none) = some res := h
  split at h
  · rename_i x h9
    exact si_lload hx hb (i := a) (by rw [← of_decide_eq_true h1]; exact hd) h9 (hN cs _ _ _ _ _ h (Or.inl rfl) ⟨Nat.le_refl _, id⟩ hw)
  · cases h

theorem ss_lload_n (hx : p.tables.exec = Jvm.exec) (hb : c.code = cc) {i : Fin 4} (hd : decode cc pc = .ok (.lload_n i, ilen (.lload_n i))) (hw : opb oc ini M pc (.lload_n i) a b cs = true) (hN : Nx p l e R s m args below meth c Q D cy A nL Ad M g res cs st cn) (h : am_step X C M g (pc, cut, .lload_n i, a, b) cs ls stk cn st = some res) : Gp p l e R s m args below meth c Q D clL cy A nL Ad pc ls stk cn st := by
  obtain ⟨h1, hw⟩ := and2 hw
  have h : (match (generalizing := false) ls[a]? with
    | some (some (.long x)) => g cs ls (.long x :: stk) cn st
    | _ => none) = some res := h
  split at h
  · rename_i x h9
    exact si_lload_n hx hb (i := a) hd (of_decide_eq_true h1) h9 (hN cs _ _ _ _ _ h (Or.inl rfl) ⟨Nat.le_refl _, id⟩ hw)
  · cases h

theorem ss_aload (hx : p.tables.exec = Jvm.exec) (hb : c.code = cc) {i : Nat} (hd : decode cc pc = .ok (.aload i, ilen (.aload i))) (hw : opb oc ini M pc (.aload i) a b cs = true) (hN : Nx p l e R s m args below meth c Q D cy A nL Ad M g res cs st cn) (h : am_step X C M g (pc, cut, .aload i, a, b) cs ls stk cn st = some res) : Gp p l e R s m args below meth c Q D clL cy A nL Ad pc ls stk cn st := by
  obtain ⟨h1, hw⟩ := and2 hw
  have h : (match (generalizing := false) ls[a]? with
    | some (some (.ref x)) => g cs ls (.ref x :: stk) cn st
    | _ => none) = some res := h
  split at h
  · rename_i x h9
    exact si_aload hx hb (i := a) (by rw [← of_decide_eq_true h1]; exact hd) h9 (hN cs _ _ _ _ _ h (Or.inl rfl) ⟨Nat.le_refl _, id⟩ hw)
  · cases h

theorem ss_aload_n (hx : p.tables.exec = Jvm.exec) (hb : c.code = cc) {i : Fin 4} (hd : decode cc pc = .ok (.aload_n i, ilen (.aload_n i))) (hw : opb oc ini M pc (.aload_n i) a b cs = true) (hN : Nx p l e R s m args below meth c Q D cy A nL Ad M g res cs st cn) (h : am_step X C M g (pc, cut, .aload_n i, a, b) cs ls stk cn st = some res) : Gp p l e R s m args below meth c Q D clL cy A nL Ad pc ls stk cn st := by
  obtain ⟨h1, hw⟩ := and2 hw
  have h : (match (generalizing := false) ls[a]? with
    | some (some (.ref x)) => g cs ls (.ref x :: stk) cn st
    | _ => none) = some res := h
  split at h
  · rename_i x h9
    exact si_aload_n hx hb (i := a) hd (of_decide_eq_true h1) h9 (hN cs _ _ _ _ _ h (Or.inl rfl) ⟨Nat.le_refl _, id⟩ hw)
  · cases h

theorem ss_istore (hx : p.tables.exec = Jvm.exec) (hb : c.code = cc) {i : Nat} (hnl : nL = M.2.1) (hd : decode cc pc = .ok (.istore i, ilen (.istore i))) (hw : opb oc ini M pc (.istore i) a b cs = true) (hN : Nx p l e R s m args below meth c Q D cy A nL Ad M g res cs st cn) (h : am_step X C M g (pc, cut, .istore i, a, b) cs ls stk cn st = some res) : Gp p l e R s m args below meth c Q D clL cy A nL Ad pc ls stk cn st := by
  obtain ⟨h1, hw⟩ := and2 hw
  obtain ⟨h1, h2⟩ := and2 h1
  have h : (match (generalizing := false) stk with
    | .int x :: r => g cs (lst ls a (.int x)) r cn st
    | _ => none) = some res := h
  split at h
  · exact si_istore hx hb (i := a) (by rw [← of_decide_eq_true h1]; exact hd) (by rw [hnl]; exact of_decide_eq_true h2) (hN cs _ _ _ _ _ h (Or.inl rfl) ⟨Nat.le_refl _, id⟩ hw)
  · cases h

theorem ss_istore_n (hx : p.tables.exec = Jvm.exec) (hb : c.code = cc) {i : Fin 4} (hnl : nL = M.2.1) (hd : decode cc pc = .ok (.istore_n i, ilen (.istore_n i))) (hw : opb oc ini M pc (.istore_n i) a b cs = true) (hN : Nx p l e R s m args below meth c Q D cy A nL Ad M g res cs st cn) (h : am_step X C M g (pc, cut, .istore_n i, a, b) cs ls stk cn st = some res) : Gp p l e R s m args below meth c Q D clL cy A nL Ad pc ls stk cn st := by
  obtain ⟨h1, hw⟩ := and2 hw
  obtain ⟨h1, h2⟩ := and2 h1
  have h : (match (generalizing := false) stk with
    | .int x :: r => g cs (lst ls a (.int x)) r cn st
    | _ => none) = some res := h
  split at h
  · exact si_istore_n hx hb (i := a) hd (of_decide_eq_true h1) (by rw [hnl]; exact of_decide_eq_true h2) (hN cs _ _ _ _ _ h (Or.inl rfl) ⟨Nat.le_refl _, id⟩ hw)
  · cases h

theorem ss_astore (hx : p.tables.exec = Jvm.exec) (hb : c.code = cc) {i : Nat} (hnl : nL = M.2.1) (hd : decode cc pc = .ok (.astore i, ilen (.astore i))) (hw : opb oc ini M pc (.astore i) a b cs = true) (hN : Nx p l e R s m args below meth c Q D cy A nL Ad M g res cs st cn) (h : am_step X C M g (pc, cut, .astore i, a, b) cs ls stk cn st = some res) : Gp p l e R s m args below meth c Q D clL cy A nL Ad pc ls stk cn st := by
  obtain ⟨h1, hw⟩ := and2 hw
  obtain ⟨h1, h2⟩ := and2 h1
  have h : (match (generalizing := false) stk with
    | .ref x :: r => g cs (lst ls a (.ref x)) r cn st
    | _ => none) = some res := h
  split at h
  · exact si_astore hx hb (i := a) (by rw [← of_decide_eq_true h1]; exact hd) (by rw [hnl]; exact of_decide_eq_true h2) (hN cs _ _ _ _ _ h (Or.inl rfl) ⟨Nat.le_refl _, id⟩ hw)
  · cases h

theorem ss_astore_n (hx : p.tables.exec = Jvm.exec) (hb : c.code = cc) {i : Fin 4} (hnl : nL = M.2.1) (hd : decode cc pc = .ok (.astore_n i, ilen (.astore_n i))) (hw : opb oc ini M pc (.astore_n i) a b cs = true) (hN : Nx p l e R s m args below meth c Q D cy A nL Ad M g res cs st cn) (h : am_step X C M g (pc, cut, .astore_n i, a, b) cs ls stk cn st = some res) : Gp p l e R s m args below meth c Q D clL cy A nL Ad pc ls stk cn st := by
  obtain ⟨h1, hw⟩ := and2 hw
  obtain ⟨h1, h2⟩ := and2 h1
  have h : (match (generalizing := false) stk with
    | .ref x :: r => g cs (lst ls a (.ref x)) r cn st
    | _ => none) = some res := h
  split at h
  · exact si_astore_n hx hb (i := a) hd (of_decide_eq_true h1) (by rw [hnl]; exact of_decide_eq_true h2) (hN cs _ _ _ _ _ h (Or.inl rfl) ⟨Nat.le_refl _, id⟩ hw)
  · cases h

theorem ss_lstore (hx : p.tables.exec = Jvm.exec) (hb : c.code = cc) {i : Nat} (hnl : nL = M.2.1) (hd : decode cc pc = .ok (.lstore i, ilen (.lstore i))) (hw : opb oc ini M pc (.lstore i) a b cs = true) (hN : Nx p l e R s m args below meth c Q D cy A nL Ad M g res cs st cn) (h : am_step X C M g (pc, cut, .lstore i, a, b) cs ls stk cn st = some res) : Gp p l e R s m args below meth c Q D clL cy A nL Ad pc ls stk cn st := by
  obtain ⟨h1, hw⟩ := and2 hw
  obtain ⟨h1, h2⟩ := and2 h1
  have h : (match (generalizing := false) stk with
    | .long x :: r => g cs (lst2 ls a (.long x)) r cn st
    | _ => none) = some res := h
  split at h
  · exact si_lstore hx hb (i := a) (by rw [← of_decide_eq_true h1]; exact hd) (by rw [hnl]; exact of_decide_eq_true h2) (hN cs _ _ _ _ _ h (Or.inl rfl) ⟨Nat.le_refl _, id⟩ hw)
  · cases h

theorem ss_lstore_n (hx : p.tables.exec = Jvm.exec) (hb : c.code = cc) {i : Fin 4} (hnl : nL = M.2.1) (hd : decode cc pc = .ok (.lstore_n i, ilen (.lstore_n i))) (hw : opb oc ini M pc (.lstore_n i) a b cs = true) (hN : Nx p l e R s m args below meth c Q D cy A nL Ad M g res cs st cn) (h : am_step X C M g (pc, cut, .lstore_n i, a, b) cs ls stk cn st = some res) : Gp p l e R s m args below meth c Q D clL cy A nL Ad pc ls stk cn st := by
  obtain ⟨h1, hw⟩ := and2 hw
  obtain ⟨h1, h2⟩ := and2 h1
  have h : (match (generalizing := false) stk with
    | .long x :: r => g cs (lst2 ls a (.long x)) r cn st
    | _ => none) = some res := h
  split at h
  · exact si_lstore_n hx hb (i := a) hd (of_decide_eq_true h1) (by rw [hnl]; exact of_decide_eq_true h2) (hN cs _ _ _ _ _ h (Or.inl rfl) ⟨Nat.le_refl _, id⟩ hw)
  · cases h

theorem ss_iinc (hx : p.tables.exec = Jvm.exec) (hb : c.code = cc) {i : Nat} {n : Int} (hnl : nL = M.2.1) (hd : decode cc pc = .ok (.iinc i n, ilen (.iinc i n))) (hw : opb oc ini M pc (.iinc i n) a b cs = true) (hN : Nx p l e R s m args below meth c Q D cy A nL Ad M g res cs st cn) (h : am_step X C M g (pc, cut, .iinc i n, a, b) cs ls stk cn st = some res) : Gp p l e R s m args below meth c Q D clL cy A nL Ad pc ls stk cn st := by
  obtain ⟨h1, hq⟩ := and2 hw
  obtain ⟨h1, h3⟩ := and2 h1
  obtain ⟨h1, h2⟩ := and2 h1
  have e1 : i = a := of_decide_eq_true h1
  subst e1
  have hn : i < nL := by rw [hnl]; exact of_decide_eq_true h2
  have h : (match (generalizing := false) ls[i]? with
    | some (some (.int x)) => if b < 2147483648 then g cs (lst ls i (.int (x + nI b))) stk cn st else g cs (lst ls i (.int (x - nI (4294967296 - b)))) stk cn st
    | _ => none) = some res := h
  split at h
  · rename_i x h9
    split at h
    · rename_i h8
      rw [if_pos h8] at h3
      exact si_iinc hx hb hd h9 (by rw [of_decide_eq_true h3]) hn (hN cs _ _ _ _ _ h (Or.inl rfl) ⟨Nat.le_refl _, id⟩ hq)
    · rename_i h8
      rw [if_neg h8] at h3
      exact si_iinc hx hb hd h9 (by rw [of_decide_eq_true h3, Int32.sub_eq_add_neg]) hn (hN cs _ _ _ _ _ h (Or.inl rfl) ⟨Nat.le_refl _, id⟩ hq)
  · cases h

theorem ss_goto (hx : p.tables.exec = Jvm.exec) (hb : c.code = cc) {off : Int} (hd : decode cc pc = .ok (.goto off, ilen (.goto off))) (hw : opb oc ini M pc (.goto off) a b cs = true) (hN : Nx p l e R s m args below meth c Q D cy A nL Ad M g res cs st cn) (h : am_step X C M g (pc, cut, .goto off, a, b) cs ls stk cn st = some res) : Gp p l e R s m args below meth c Q D clL cy A nL Ad pc ls stk cn st := by
  obtain ⟨t, h1, h2⟩ := tg_use hw
  have h : g (M.1.drop a) ls stk cn st = some res := h
  exact si_goto hx hb hd h2 (hN _ _ _ _ _ _ h (Or.inr ⟨a, rfl⟩) ⟨Nat.le_refl _, id⟩ h1)

theorem ss_if_eq (hx : p.tables.exec = Jvm.exec) (hb : c.code = cc) {off : Int} (hd : decode cc pc = .ok (.ifCond .eq off, ilen (.ifCond .eq off))) (hw : opb oc ini M pc (.ifCond .eq off) a b cs = true) (hN : Nx p l e R s m args below meth c Q D cy A nL Ad M g res cs st cn) (h : am_step X C M g (pc, cut, .ifCond .eq off, a, b) cs ls stk cn st = some res) : Gp p l e R s m args below meth c Q D clL cy A nL Ad pc ls stk cn st := by
  obtain ⟨h1, hw⟩ := and2 hw
  obtain ⟨t, h1, h2⟩ := tg_use h1
  have h : (match (generalizing := false) stk with
    | .int x :: r => if x = 0 then g (M.1.drop a) ls r cn st else g cs ls r cn st
    | _ => none) = some res := h
  split at h
  · split at h
    · rename_i h9
      exact si_if_eq hx hb hd h2 (fun _ => (hN _ _ _ _ _ _ h (Or.inr ⟨a, rfl⟩) ⟨Nat.le_refl _, id⟩ h1)) (fun z => absurd h9 z)
    · rename_i h9
      exact si_if_eq hx hb hd h2 (fun z => absurd z h9) (fun _ => (hN _ _ _ _ _ _ h (Or.inl rfl) ⟨Nat.le_refl _, id⟩ hw))
  · cases h

theorem ss_if_ne (hx : p.tables.exec = Jvm.exec) (hb : c.code = cc) {off : Int} (hd : decode cc pc = .ok (.ifCond .ne off, ilen (.ifCond .ne off))) (hw : opb oc ini M pc (.ifCond .ne off) a b cs = true) (hN : Nx p l e R s m args below meth c Q D cy A nL Ad M g res cs st cn) (h : am_step X C M g (pc, cut, .ifCond .ne off, a, b) cs ls stk cn st = some res) : Gp p l e R s m args below meth c Q D clL cy A nL Ad pc ls stk cn st := by
  obtain ⟨h1, hw⟩ := and2 hw
  obtain ⟨t, h1, h2⟩ := tg_use h1
  have h : (match (generalizing := false) stk with
    | .int x :: r => if x = 0 then g cs ls r cn st else g (M.1.drop a) ls r cn st
    | _ => none) = some res := h
  split at h
  · split at h
    · rename_i h9
      exact si_if_ne hx hb hd h2 (fun z => absurd h9 z) (fun _ => (hN _ _ _ _ _ _ h (Or.inl rfl) ⟨Nat.le_refl _, id⟩ hw))
    · rename_i h9
      exact si_if_ne hx hb hd h2 (fun _ => (hN _ _ _ _ _ _ h (Or.inr ⟨a, rfl⟩) ⟨Nat.le_refl _, id⟩ h1)) (fun z => absurd z h9)
  · cases h

theorem ss_if_lt (hx : p.tables.exec = Jvm.exec) (hb : c.code = cc) {off : Int} (hd : decode cc pc = .ok (.ifCond .lt off, ilen (.ifCond .lt off))) (hw : opb oc ini M pc (.ifCond .lt off) a b cs = true) (hN : Nx p l e R s m args below meth c Q D cy A nL Ad M g res cs st cn) (h : am_step X C M g (pc, cut, .ifCond .lt off, a, b) cs ls stk cn st = some res) : Gp p l e R s m args below meth c Q D clL cy A nL Ad pc ls stk cn st := by
  obtain ⟨h1, hw⟩ := and2 hw
  obtain ⟨t, h1, h2⟩ := tg_use h1
  have h : (match (generalizing := false) stk with
    | .int x :: r => if x < 0 then g (M.1.drop a) ls r cn st else g cs ls r cn st
    | _ => none) = some res := h
  split at h
  · split at h
    · rename_i h9
      exact si_if_lt hx hb hd h2 (fun _ => (hN _ _ _ _ _ _ h (Or.inr ⟨a, rfl⟩) ⟨Nat.le_refl _, id⟩ h1)) (fun z => absurd h9 z)
    · rename_i h9
      exact si_if_lt hx hb hd h2 (fun z => absurd z h9) (fun _ => (hN _ _ _ _ _ _ h (Or.inl rfl) ⟨Nat.le_refl _, id⟩ hw))
  · cases h

theorem ss_if_ge (hx : p.tables.exec = Jvm.exec) (hb : c.code = cc) {off : Int} (hd : decode cc pc = .ok (.ifCond .ge off, ilen (.ifCond .ge off))) (hw : opb oc ini M pc (.ifCond .ge off) a b cs = true) (hN : Nx p l e R s m args below meth c Q D cy A nL Ad M g res cs st cn) (h : am_step X C M g (pc, cut, .ifCond .ge off, a, b) cs ls stk cn st = some res) : Gp p l e R s m args below meth c Q D clL cy A nL Ad pc ls stk cn st := by
  obtain ⟨h1, hw⟩ := and2 hw
  obtain ⟨t, h1, h2⟩ := tg_use h1
  have h : (match (generalizing := false) stk with
    | .int x :: r => if x < 0 then g cs ls r cn st else g (M.1.drop a) ls r cn st
    | _ => none) = some res := h
  split at h
  · split at h
    · rename_i h9
      exact si_if_ge hx hb hd h2 (fun z => absurd h9 z) (fun _ => (hN _ _ _ _ _ _ h (Or.inl rfl) ⟨Nat.le_refl _, id⟩ hw))
    · rename_i h9
      exact si_if_ge hx hb hd h2 (fun _ => (hN _ _ _ _ _ _ h (Or.inr ⟨a, rfl⟩) ⟨Nat.le_refl _, id⟩ h1)) (fun z => absurd z h9)
  · cases h

theorem ss_if_gt (hx : p.tables.exec = Jvm.exec) (hb : c.code = cc) {off : Int} (hd : decode cc pc = .ok (.ifCond .gt off, ilen (.ifCond .gt off))) (hw : opb oc ini M pc (.ifCond .gt off) a b cs = true) (hN : Nx p l e R s m args below meth c Q D cy A nL Ad M g res cs st cn) (h : am_step X C M g (pc, cut, .ifCond .gt off, a, b) cs ls stk cn st = some res) : Gp p l e R s m args below meth c Q D clL cy A nL Ad pc ls stk cn st := by
  obtain ⟨h1, hw⟩ := and2 hw
  obtain ⟨t, h1, h2⟩ := tg_use h1
  have h : (match (generalizing := false) stk with
    | .int x :: r => if 0 < x then g (M.1.drop a) ls r cn st else g cs ls r cn st
    | _ => none) = some res := h
  split at h
  · split at h
    · rename_i h9
      exact si_if_gt hx hb hd h2 (fun _ => (hN _ _ _ _ _ _ h (Or.inr ⟨a, rfl⟩) ⟨Nat.le_refl _, id⟩ h1)) (fun z => absurd h9 z)
    · rename_i h9
      exact si_if_gt hx hb hd h2 (fun z => absurd z h9) (fun _ => (hN _ _ _ _ _ _ h (Or.inl rfl) ⟨Nat.le_refl _, id⟩ hw))
  · cases h

theorem ss_if_le (hx : p.tables.exec = Jvm.exec) (hb : c.code = cc) {off : Int} (hd : decode cc pc = .ok (.ifCond .le off, ilen (.ifCond .le off))) (hw : opb oc ini M pc (.ifCond .le off) a b cs = true) (hN : Nx p l e R s m args below meth c Q D cy A nL Ad M g res cs st cn) (h : am_step X C M g (pc, cut, .ifCond .le off, a, b) cs ls stk cn st = some res) : Gp p l e R s m args below meth c Q D clL cy A nL Ad pc ls stk cn st := by
  obtain ⟨h1, hw⟩ := and2 hw
  obtain ⟨t, h1, h2⟩ := tg_use h1
  have h : (match (generalizing := false) stk with
    | .int x :: r => if 0 < x then g cs ls r cn st else g (M.1.drop a) ls r cn st
    | _ => none) = some res := h
  split at h
  · split at h
    · rename_i h9
      exact si_if_le hx hb hd h2 (fun z => absurd h9 z) (fun _ => (hN _ _ _ _ _ _ h (Or.inl rfl) ⟨Nat.le_refl _, id⟩ hw))
    · rename_i h9
      exact si_if_le hx hb hd h2 (fun _ => (hN _ _ _ _ _ _ h (Or.inr ⟨a, rfl⟩) ⟨Nat.le_refl _, id⟩ h1)) (fun z => absurd z h9)
  · cases h

theorem ss_icmp_eq (hx : p.tables.exec = Jvm.exec) (hb : c.code = cc) {off : Int} (hd : decode cc pc = .ok (.if_icmp .eq off, ilen (.if_icmp .eq off))) (hw : opb oc ini M pc (.if_icmp .eq off) a b cs = true) (hN : Nx p l e R s m args below meth c Q D cy A nL Ad M g res cs st cn) (h : am_step X C M g (pc, cut, .if_icmp .eq off, a, b) cs ls stk cn st = some res) : Gp p l e R s m args below meth c Q D clL cy A nL Ad pc ls stk cn st := by
  obtain ⟨h1, hw⟩ := and2 hw
  obtain ⟨t, h1, h2⟩ := tg_use h1
  have h : (match (generalizing := false) stk with
    | .int y :: .int x :: r => if x = y then g (M.1.drop a) ls r cn st else g cs ls r cn st
    | _ => none) = some res := h
  split at h
  · split at h
    · rename_i h9
      exact si_icmp_eq hx hb hd h2 (fun _ => (hN _ _ _ _ _ _ h (Or.inr ⟨a, rfl⟩) ⟨Nat.le_refl _, id⟩ h1)) (fun z => absurd h9 z)
    · rename_i h9
      exact si_icmp_eq hx hb hd h2 (fun z => absurd z h9) (fun _ => (hN _ _ _ _ _ _ h (Or.inl rfl) ⟨Nat.le_refl _, id⟩ hw))
  · cases h

theorem ss_icmp_ne (hx : p.tables.exec = Jvm.exec) (hb : c.code = cc) {off : Int} (hd : decode cc pc = .ok (.if_icmp .ne off, ilen (.if_icmp .ne off))) (hw : opb oc ini M pc (.if_icmp .ne off) a b cs = true) (hN : Nx p l e R s m args below meth c Q D cy A nL Ad M g res cs st cn) (h : am_step X C M g (pc, cut, .if_icmp .ne off, a, b) cs ls stk cn st = some res) : Gp p l e R s m args below meth c Q D clL cy A nL Ad pc ls stk cn st := by
  obtain ⟨h1, hw⟩ := and2 hw
  obtain ⟨t, h1, h2⟩ := tg_use h1
  have h : (match (generalizing := false) stk with
    | .int y :: .int x :: r => if x = y then g cs ls r cn st else g (M.1.drop a) ls r cn st
    | _ => none) = some res := h
  split at h
  · split at h
    · rename_i h9
      exact si_icmp_ne hx hb hd h2 (fun z => absurd h9 z) (fun _ => (hN _ _ _ _ _ _ h (Or.inl rfl) ⟨Nat.le_refl _, id⟩ hw))
    · rename_i h9
      exact si_icmp_ne hx hb hd h2 (fun _ => (hN _ _ _ _ _ _ h (Or.inr ⟨a, rfl⟩) ⟨Nat.le_refl _, id⟩ h1)) (fun z => absurd z h9)
  · cases h

theorem ss_icmp_lt (hx : p.tables.exec = Jvm.exec) (hb : c.code = cc) {off : Int} (hd : decode cc pc = .ok (.if_icmp .lt off, ilen (.if_icmp .lt off))) (hw : opb oc ini M pc (.if_icmp .lt off) a b cs = true) (hN : Nx p l e R s m args below meth c Q D cy A nL Ad M g res cs st cn) (h : am_step X C M g (pc, cut, .if_icmp .lt off, a, b) cs ls stk cn st = some res) : Gp p l e R s m args below meth c Q D clL cy A nL Ad pc ls stk cn st := by
  obtain ⟨h1, hw⟩ := and2 hw
  obtain ⟨t, h1, h2⟩ := tg_use h1
  have h : (match (generalizing := false) stk with
    | .int y :: .int x :: r => if x < y then g (M.1.drop a) ls r cn st else g cs ls r cn st
    | _ => none) = some res := h
  split at h
  · split at h
    · rename_i h9
      exact si_icmp_lt hx hb hd h2 (fun _ => (hN _ _ _ _ _ _ h (Or.inr ⟨a, rfl⟩) ⟨Nat.le_refl _, id⟩ h1)) (fun z => absurd h9 z)
    · rename_i h9
      exact si_icmp_lt hx hb hd h2 (fun z => absurd z h9) (fun _ => (hN _ _ _ _ _ _ h (Or.inl rfl) ⟨Nat.le_refl _, id⟩ hw))
  · cases h

theorem ss_icmp_ge (hx : p.tables.exec = Jvm.exec) (hb : c.code = cc) {off : Int} (hd : decode cc pc = .ok (.if_icmp .ge off, ilen (.if_icmp .ge off))) (hw : opb oc ini M pc (.if_icmp .ge off) a b cs = true) (hN : Nx p l e R s m args below meth c Q D cy A nL Ad M g res cs st cn) (h : am_step X C M g (pc, cut, .if_icmp .ge off, a, b) cs ls stk cn st = some res) : Gp p l e R s m args below meth c Q D clL cy A nL Ad pc ls stk cn st := by
  obtain ⟨h1, hw⟩ := and2 hw
  obtain ⟨t, h1, h2⟩ := tg_use h1
  have h : (match (generalizing := false) stk with
    | .int y :: .int x :: r => if x < y then g cs ls r cn st else g (M.1.drop a) ls r cn st
    | _ => none) = some res := h
  split at h
  · split at h
    · rename_i h9
      exact si_icmp_ge hx hb hd h2 (fun z => absurd h9 z) (fun _ => (hN _ _ _ _ _ _ h (Or.inl rfl) ⟨Nat.le_refl _, id⟩ hw))
    · rename_i h9
      exact si_icmp_ge hx hb hd h2 (fun _ => (hN _ _ _ _ _ _ h (Or.inr ⟨a, rfl⟩) ⟨Nat.le_refl _, id⟩ h1)) (fun z => absurd z h9)
  · cases h

theorem ss_icmp_gt (hx : p.tables.exec = Jvm.exec) (hb : c.code = cc) {off : Int} (hd : decode cc pc = .ok (.if_icmp .gt off, ilen (.if_icmp .gt off))) (hw : opb oc ini M pc (.if_icmp .gt off) a b cs = true) (hN : Nx p l e R s m args below meth c Q D cy A nL Ad M g res cs st cn) (h : am_step X C M g (pc, cut, .if_icmp .gt off, a, b) cs ls stk cn st = some res) : Gp p l e R s m args below meth c Q D clL cy A nL Ad pc ls stk cn st := by
  obtain ⟨h1, hw⟩ := and2 hw
  obtain ⟨t, h1, h2⟩ := tg_use h1
  have h : (match (generalizing := false) stk with
    | .int y :: .int x :: r => if y < x then g (M.1.drop a) ls r cn st else g cs ls r cn st
    | _ => none) = some res := h
  split at h
  · split at h
    · rename_i h9
      exact si_icmp_gt hx hb hd h2 (fun _ => (hN _ _ _ _ _ _ h (Or.inr ⟨a, rfl⟩) ⟨Nat.le_refl _, id⟩ h1)) (fun z => absurd h9 z)
    · rename_i h9
      exact si_icmp_gt hx hb hd h2 (fun z => absurd z h9) (fun _ => (hN _ _ _ _ _ _ h (Or.inl rfl) ⟨Nat.le_refl _, id⟩ hw))
  · cases h

theorem ss_icmp_le (hx : p.tables.exec = Jvm.exec) (hb : c.code = cc) {off : Int} (hd : decode cc pc = .ok (.if_icmp .le off, ilen (.if_icmp .le off))) (hw : opb oc ini M pc (.if_icmp .le off) a b cs = true) (hN : Nx p l e R s m args below meth c Q D cy A nL Ad M g res cs st cn) (h : am_step X C M g (pc, cut, .if_icmp .le off, a, b) cs ls stk cn st = some res) : Gp p l e R s m args below meth c Q D clL cy A nL Ad pc ls stk cn st := by
  obtain ⟨h1, hw⟩ := and2 hw
  obtain ⟨t, h1, h2⟩ := tg_use h1
  have h : (match (generalizing := false) stk with
    | .int y :: .int x :: r => if y < x then g cs ls r cn st else g (M.1.drop a) ls r cn st
    | _ => none) = some res := h
  split at h
  · split at h
    · rename_i h9
      exact si_icmp_le hx hb hd h2 (fun z => absurd h9 z) (fun _ => (hN _ _ _ _ _ _ h (Or.inl rfl) ⟨Nat.le_refl _, id⟩ hw))
    · rename_i h9
      exact si_icmp_le hx hb hd h2 (fun _ => (hN _ _ _ _ _ _ h (Or.inr ⟨a, rfl⟩) ⟨Nat.le_refl _, id⟩ h1)) (fun z => absurd z h9)
  · cases h

theorem fld_use (hts : ∀ w ∈ Tw, w.before args s = true) {ix ci k : Nat} (h : fldT.contains (oc, ix, ci, k) = true) : (Cond.fieldLink (ownN oc) ix (cT ci k).1 (cT ci k).2.1 (cT ci k).2.2.1).before args s = true :=
  hts _ (tw_of (fld_in _ (List.mem_map.mpr ⟨(oc, ix, ci, k), mem_of_contains h, rfl⟩)) rfl)

theorem ss_getfield (hx : p.tables.exec = Jvm.exec) (hb : c.code = cc) {ix : Nat} (hts : ∀ w ∈ Tw, w.before args s = true) (hK : va_K D clL (tysL cy) s) (hown : s.vm.findClass (ownN oc) = some m.cls) (hd : decode cc pc = .ok (.getfield ix, ilen (.getfield ix))) (hw : opb oc ini M pc (.getfield ix) a b cs = true) (hN : Nx p l e R s m args below meth c Q D cy A nL Ad M g res cs st cn) (h : am_step X C M g (pc, cut, .getfield ix, a, b) cs ls stk cn st = some res) : Gp p l e R s m args below meth c Q D clL cy A nL Ad pc ls stk cn st := by
  obtain ⟨h1, hw⟩ := and2 hw
  obtain ⟨h1, h5⟩ := and2 h1
  obtain ⟨h1, h4⟩ := and2 h1
  obtain ⟨h1, h3⟩ := and2 h1
  have h3 := of_decide_eq_true h3
  have h4 := of_decide_eq_true h4
  have h5 : iFl (b / 2) a = decide (b % 2 = 1) := by simpa using h5
  have h : (match (generalizing := false) stk with
    | .ref o :: r => if KK o = b / 2 then (if b % 2 = 1 then g cs ls (.int (gI st o a) :: r) cn st else cR (gR st o a) (fun q => g cs ls (.ref q :: r) cn st)) else none
    | _ => none) = some res := h
  split at h
  · split at h
    · rename_i h9
      split at h
      · rename_i h8
        exact si_getI hx hb hts hK hown h3 (lay_in _ h3) h9 h4 (by rw [h5]; exact decide_eq_true h8) (fld_use hts h1) hd (hN cs _ _ _ _ _ h (Or.inl rfl) ⟨Nat.le_refl _, id⟩ hw)
      · rename_i h8
        unfold cR at h
        split at h
        · rename_i q h7
          exact si_getR hx hb hts hK hown h3 (lay_in _ h3) h9 h4 (by rw [h5]; exact decide_eq_false h8) h7 (fld_use hts h1) hd (hN cs _ _ _ _ _ h (Or.inl rfl) ⟨Nat.le_refl _, id⟩ hw)
        · cases h
    · cases h
  · cases h

theorem ss_iaload (hx : p.tables.exec = Jvm.exec) (hb : c.code = cc) (hts : ∀ w ∈ Tw, w.before args s = true) (hK : va_K D clL (tysL cy) s) (hown : s.vm.findClass (ownN oc) = some m.cls) (hns : ∀ (i : Int32) (r : List Value), stk = .int i :: .ref 1000000 :: r → Gp p l e R s m args below meth c Q D clL cy A nL Ad pc ls stk cn st) (hd : decode cc pc = .ok (.iaload, ilen (.iaload))) (hw : opb oc ini M pc (.iaload) a b cs = true) (hN : Nx p l e R s m args below meth c Q D cy A nL Ad M g res cs st cn) (h : am_step X C M g (pc, cut, .iaload, a, b) cs ls stk cn st = some res) : Gp p l e R s m args below meth c Q D clL cy A nL Ad pc ls stk cn st := by
  have hw : nxb cs (pc + 1) = true := hw
  have h : (match (generalizing := false) stk with
    | .int i :: .ref o :: r => if o = 1000000 then (if i < 0 ∨ X.1 ≤ i.toNatClampNeg then none else g cs ls (.int (X.2 i.toNatClampNeg) :: r) cn st) else if KK o = 10 then (if i < 0 ∨ LL o ≤ i.toNatClampNeg then none else g cs ls (.int (gI st o i.toNatClampNeg) :: r) cn st) else none
    | _ => none) = some res := h
  split at h
  · rename_i i o r h0
    by_cases h9 : o = 1000000
    · subst h9; exact hns i r rfl
    · rw [if_neg h9] at h
      split at h
      · rename_i h8
        split at h
        · cases h
        · rename_i h7
          exact si_iald hx hb hK rfl h8 (KK_10 h8 h9) h7 hd (hN cs _ _ _ _ _ h (Or.inl rfl) ⟨Nat.le_refl _, id⟩ hw)
      · cases h
  · cases h

theorem ss_laload (hx : p.tables.exec = Jvm.exec) (hb : c.code = cc) (hts : ∀ w ∈ Tw, w.before args s = true) (hK : va_K D clL (tysL cy) s) (hown : s.vm.findClass (ownN oc) = some m.cls) (hd : decode cc pc = .ok (.laload, ilen (.laload))) (hw : opb oc ini M pc (.laload) a b cs = true) (hN : Nx p l e R s m args below meth c Q D cy A nL Ad M g res cs st cn) (h : am_step X C M g (pc, cut, .laload, a, b) cs ls stk cn st = some res) : Gp p l e R s m args below meth c Q D clL cy A nL Ad pc ls stk cn st := by
  have hw : nxb cs (pc + 1) = true := hw
  have h : (match (generalizing := false) stk with
    | .int i :: .ref o :: r => if KK o = 11 then (if i < 0 ∨ LL o ≤ i.toNatClampNeg then none else g cs ls (.long (gJ st o i.toNatClampNeg) :: r) cn st) else none
    | _ => none) = some res := h
  split at h
  · split at h
    · rename_i h8
      split at h
      · cases h
      · rename_i h7
        exact si_lald hx hb hK rfl h8 h7 hd (hN cs _ _ _ _ _ h (Or.inl rfl) ⟨Nat.le_refl _, id⟩ hw)
    · cases h
  · cases h

theorem ss_aaload (hx : p.tables.exec = Jvm.exec) (hb : c.code = cc) (hts : ∀ w ∈ Tw, w.before args s = true) (hK : va_K D clL (tysL cy) s) (hown : s.vm.findClass (ownN oc) = some m.cls) (hd : decode cc pc = .ok (.aaload, ilen (.aaload))) (hw : opb oc ini M pc (.aaload) a b cs = true) (hN : Nx p l e R s m args below meth c Q D cy A nL Ad M g res cs st cn) (h : am_step X C M g (pc, cut, .aaload, a, b) cs ls stk cn st = some res) : Gp p l e R s m args below meth c Q D clL cy A nL Ad pc ls stk cn st := by
  have hw : nxb cs (pc + 1) = true := hw
  have h : (match (generalizing := false) stk with
    | .int i :: .ref o :: r => if KK o = 12 then (if i < 0 ∨ LL o ≤ i.toNatClampNeg then none else cR (gR st o i.toNatClampNeg) (fun q => g cs ls (.ref q :: r) cn st)) else none
    | _ => none) = some res := h
  split at h
  · split at h
    · rename_i h8
      split at h
      · cases h
      · rename_i h7
        unfold cR at h
        split at h
        · rename_i q h6
          exact si_aald hx hb hK h8 h7 h6 hd (hN cs _ _ _ _ _ h (Or.inl rfl) ⟨Nat.le_refl _, id⟩ hw)
        · cases h
    · cases h
  · cases h

theorem ss_iastore (hx : p.tables.exec = Jvm.exec) (hb : c.code = cc) (hts : ∀ w ∈ Tw, w.before args s = true) (hK : va_K D clL (tysL cy) s) (hown : s.vm.findClass (ownN oc) = some m.cls) (hd : decode cc pc = .ok (.iastore, ilen (.iastore))) (hw : opb oc ini M pc (.iastore) a b cs = true) (hN : Nx p l e R s m args below meth c Q D cy A nL Ad M g res cs st cn) (h : am_step X C M g (pc, cut, .iastore, a, b) cs ls stk cn st = some res) : Gp p l e R s m args below meth c Q D clL cy A nL Ad pc ls stk cn st := by
  have hw : nxb cs (pc + 1) = true := hw
  have h : (match (generalizing := false) stk with
    | .int x :: .int i :: .ref o :: r => if KK o = 10 ∧ o < 1000000 then (if i < 0 ∨ LL o ≤ i.toNatClampNeg then none else g cs ls r cn (setI st o i.toNatClampNeg x)) else none
    | _ => none) = some res := h
  split at h
  · split at h
    · rename_i h8
      split at h
      · cases h
      · rename_i h7
        exact si_iast hx hb hK rfl h8.1 h8.2 h7 hd (hN cs _ _ _ _ _ h (Or.inl rfl) ⟨Nat.le_refl _, id⟩ hw)
    · cases h
  · cases h

theorem ss_lastore (hx : p.tables.exec = Jvm.exec) (hb : c.code = cc) (hts : ∀ w ∈ Tw, w.before args s = true) (hK : va_K D clL (tysL cy) s) (hown : s.vm.findClass (ownN oc) = some m.cls) (hd : decode cc pc = .ok (.lastore, ilen (.lastore))) (hw : opb oc ini M pc (.lastore) a b cs = true) (hN : Nx p l e R s m args below meth c Q D cy A nL Ad M g res cs st cn) (h : am_step X C M g (pc, cut, .lastore, a, b) cs ls stk cn st = some res) : Gp p l e R s m args below meth c Q D clL cy A nL Ad pc ls stk cn st := by
  have hw : nxb cs (pc + 1) = true := hw
  have h : (match (generalizing := false) stk with
    | .long x :: .int i :: .ref o :: r => if KK o = 11 then (if i < 0 ∨ LL o ≤ i.toNatClampNeg then none else g cs ls r cn (setJ st o i.toNatClampNeg x)) else none
    | _ => none) = some res := h
  split at h
  · split at h
    · rename_i h8
      split at h
      · cases h
      · rename_i h7
        exact si_last hx hb hK rfl h8 h7 hd (hN cs _ _ _ _ _ h (Or.inl rfl) ⟨Nat.le_refl _, id⟩ hw)
    · cases h
  · cases h

theorem ss_putfield (hx : p.tables.exec = Jvm.exec) (hb : c.code = cc) {ix : Nat} (hts : ∀ w ∈ Tw, w.before args s = true) (hK : va_K D clL (tysL cy) s) (hown : s.vm.findClass (ownN oc) = some m.cls) (hini : ini = true → meth.name = "<init>" ∧ oc < 10) (hd : decode cc pc = .ok (.putfield ix, ilen (.putfield ix))) (hw : opb oc ini M pc (.putfield ix) a b cs = true) (hN : Nx p l e R s m args below meth c Q D cy A nL Ad M g res cs st cn) (h : am_step X C M g (pc, cut, .putfield ix, a, b) cs ls stk cn st = some res) : Gp p l e R s m args below meth c Q D clL cy A nL Ad pc ls stk cn st := by
  obtain ⟨h1, hq⟩ := and2 hw
  obtain ⟨h1, h6⟩ := and2 h1
  obtain ⟨h1, h5⟩ := and2 h1
  obtain ⟨h1, h4⟩ := and2 h1
  obtain ⟨h1, h3⟩ := and2 h1
  have h3 := of_decide_eq_true h3
  have h4 := of_decide_eq_true h4
  have h5 : iFl (b / 2) a = decide (b % 2 = 1) := by simpa using h5
  have h : (match (generalizing := false) stk with
    | .int x :: .ref o :: r => if KK o = b / 2 ∧ b % 2 = 1 then g cs ls r cn (setI st o a x) else none
    | .ref x :: .ref o :: r => if KK o = b / 2 ∧ b % 2 = 0 ∧ x < 1000000 then g cs ls r cn (setR st o a (some x)) else none
    | _ => none) = some res := h
  split at h
  · split at h
    · rename_i h9
      have hf : (cT (b / 2) a).2.2.2 = false := by
        simp only [Bool.or_eq_true, Bool.not_eq_true', Bool.and_eq_true, decide_eq_true_eq] at h6
        rcases h6 with h6 | h6
        · exact h6
        · omega
      exact si_putI hx hb hts hK hown h3 (lay_in _ h3) h9.1 h4 (by rw [h5]; exact decide_eq_true h9.2) hf (fld_use hts h1) hd (hN cs _ _ _ _ _ h (Or.inl rfl) ⟨Nat.le_refl _, id⟩ hq)
    · cases h
  · split at h
    · rename_i h9
      refine si_putR hx hb hts hK hown h3 (lay_in _ h3) h9.1 h4 (by rw [h5]; exact decide_eq_false (by omega)) h9.2.2 ?_ (fld_use hts h1) hd (hN cs _ _ _ _ _ h (Or.inl rfl) ⟨Nat.le_refl _, id⟩ hq)
      simp only [Bool.or_eq_true, Bool.not_eq_true', Bool.and_eq_true, decide_eq_true_eq] at h6
      cases hf : (cT (b / 2) a).2.2.2 with
      | false => exact Or.inl rfl
      | true =>
        rcases h6 with h6 | h6
        · rw [hf] at h6; cases h6
        · exact Or.inr ⟨rfl, (hini h6.1.1).1, by rw [← h6.1.2]; exact decl_ok _ h3 _ h4⟩
    · cases h
  · cases h

theorem ss_ldc (hx : p.tables.exec = Jvm.exec) (hb : c.code = cc) {ix : Nat} (hts : ∀ w ∈ Tw, w.before args s = true) (hK : va_K D clL (tysL cy) s) (hown : s.vm.findClass (ownN oc) = some m.cls) (hstr : ∀ t ∈ strT, ∃ tx, ∀ ad, Ad ad → vk_R (ownN t.1) t.2.1 tx (ad (2000000 + t.2.2)) s) (hd : decode cc pc = .ok (.ldc ix, ilen (.ldc ix))) (hw : opb oc ini M pc (.ldc ix) a b cs = true) (hN : Nx p l e R s m args below meth c Q D cy A nL Ad M g res cs st cn) (h : am_step X C M g (pc, cut, .ldc ix, a, b) cs ls stk cn st = some res) : Gp p l e R s m args below meth c Q D clL cy A nL Ad pc ls stk cn st := by
  obtain ⟨h1, hq⟩ := and2 hw
  have h : (if b = 1 then g cs ls (.int (nI a) :: stk) cn st else g cs ls (.ref (2000000 + a) :: stk) cn st) = some res := h
  split at h
  · rename_i h9
    rw [if_pos h9] at h1
    exact si_ldci hx hb hown (con_use hts h1) hd (hN cs _ _ _ _ _ h (Or.inl rfl) ⟨Nat.le_refl _, id⟩ hq)
  · rename_i h9
    rw [if_neg h9] at h1
    obtain ⟨tx, hz⟩ := hstr _ (mem_of_contains h1)
    exact si_ldcs hx hb hown (by omega) hz hd (hN cs _ _ _ _ _ h (Or.inl rfl) ⟨Nat.le_refl _, id⟩ hq)

theorem ss_ldc_w (hx : p.tables.exec = Jvm.exec) (hb : c.code = cc) {ix : Nat} (hts : ∀ w ∈ Tw, w.before args s = true) (hK : va_K D clL (tysL cy) s) (hown : s.vm.findClass (ownN oc) = some m.cls) (hstr : ∀ t ∈ strT, ∃ tx, ∀ ad, Ad ad → vk_R (ownN t.1) t.2.1 tx (ad (2000000 + t.2.2)) s) (hd : decode cc pc = .ok (.ldc_w ix, ilen (.ldc_w ix))) (hw : opb oc ini M pc (.ldc_w ix) a b cs = true) (hN : Nx p l e R s m args below meth c Q D cy A nL Ad M g res cs st cn) (h : am_step X C M g (pc, cut, .ldc_w ix, a, b) cs ls stk cn st = some res) : Gp p l e R s m args below meth c Q D clL cy A nL Ad pc ls stk cn st := by
  obtain ⟨h1, hq⟩ := and2 hw
  have h : (if b = 1 then g cs ls (.int (nI a) :: stk) cn st else g cs ls (.ref (2000000 + a) :: stk) cn st) = some res := h
  split at h
  · rename_i h9
    rw [if_pos h9] at h1
    exact si_ldcwi hx hb hown (con_use hts h1) hd (hN cs _ _ _ _ _ h (Or.inl rfl) ⟨Nat.le_refl _, id⟩ hq)
  · rename_i h9
    rw [if_neg h9] at h1
    obtain ⟨tx, hz⟩ := hstr _ (mem_of_contains h1)
    exact si_ldcsw hx hb hown (by omega) hz hd (hN cs _ _ _ _ _ h (Or.inl rfl) ⟨Nat.le_refl _, id⟩ hq)

theorem ss_ldc2_w (hx : p.tables.exec = Jvm.exec) (hb : c.code = cc) {ix : Nat} (hts : ∀ w ∈ Tw, w.before args s = true) (hK : va_K D clL (tysL cy) s) (hown : s.vm.findClass (ownN oc) = some m.cls) (hd : decode cc pc = .ok (.ldc2_w ix, ilen (.ldc2_w ix))) (hw : opb oc ini M pc (.ldc2_w ix) a b cs = true) (hN : Nx p l e R s m args below meth c Q D cy A nL Ad M g res cs st cn) (h : am_step X C M g (pc, cut, .ldc2_w ix, a, b) cs ls stk cn st = some res) : Gp p l e R s m args below meth c Q D clL cy A nL Ad pc ls stk cn st := by
  obtain ⟨h1, hq⟩ := and2 hw
  have h : g cs ls (.long (lN a) :: stk) cn st = some res := h
  exact si_ldc2 hx hb hown (hts _ (tw_of (conL_in _ (List.mem_map.mpr ⟨(oc, ix, a), mem_of_contains h1, rfl⟩)) rfl)) hd (hN cs _ _ _ _ _ h (Or.inl rfl) ⟨Nat.le_refl _, id⟩ hq)

theorem ss_new (hx : p.tables.exec = Jvm.exec) (hb : c.code = cc) {ix : Nat} (hts : ∀ w ∈ Tw, w.before args s = true) (hK : va_K D clL (tysL cy) s) (hown : s.vm.findClass (ownN oc) = some m.cls) (hA : ∀ q, s.heap.size ≤ q → A q) (hAd : ∀ ad ad', AdX (gN st) ad ad' → Ad ad → Ad ad') (hRc : M.2.2.2.1 ≤ R.cells) (hRs : M.2.2.2.2 ≤ R.slots) (hb9 : ¬ 1000 ≤ b) (hd : decode cc pc = .ok (.new ix, ilen (.new ix))) (hw : opb oc ini M pc (.new ix) a b cs = true) (hN : Nx p l e R s m args below meth c Q D cy A nL Ad M g res cs st cn) (h : am_step X C M g (pc, cut, .new ix, a, b) cs ls stk cn st = some res) : Gp p l e R s m args below meth c Q D clL cy A nL Ad pc ls stk cn st := by
  have hw : (if 1000 ≤ b then _ else newT.contains (oc, ix, a) && decide (a < 10) && decide (b = cN a) && nxb cs (pc + 3)) = true := hw
  rw [if_neg hb9] at hw
  obtain ⟨h1, hq⟩ := and2 hw
  obtain ⟨h8, h3⟩ := and2 h1
  obtain ⟨hct, h2⟩ := and2 h8
  have h2 := of_decide_eq_true h2
  have h3 := of_decide_eq_true h3
  have h : (if 1000 ≤ b then _ else if cn.1 + 1 ≤ M.2.2.2.1 ∧ cn.2 + b ≤ M.2.2.2.2 ∧ KK (gN st) = a ∧ gN st + 1 < 1000000 then g cs ls (.ref (gN st) :: stk) (cn.1 + 1, cn.2 + b) (mkNew st) else none) = some res := h
  rw [if_neg hb9] at h
  split at h
  · rename_i h9
    subst h3
    exact si_new hx hb hts hK hown hA hAd h2 (lay_in _ h2) h9.2.2.1 (hts _ (tw_of (new_in _ (List.mem_map.mpr ⟨(oc, ix, a), mem_of_contains hct, rfl⟩)) rfl)) (hts _ (tw_of (ins_in _ (List.mem_map.mpr ⟨a, List.mem_range.mpr h2, rfl⟩)) rfl)) (hts _ (tw_of (ini_in _ (List.mem_map.mpr ⟨cC a, cC_own a h2, rfl⟩)) rfl)) h9.2.2.2 (Nat.le_trans h9.1 hRc) (Nat.le_trans h9.2.1 hRs) hd (hN cs _ _ _ _ _ h (Or.inl rfl) ⟨Nat.le_succ _, fun _ => ⟨h9.1, h9.2.1⟩⟩ hq)
  · cases h

theorem ss_newarray (hx : p.tables.exec = Jvm.exec) (hb : c.code = cc) {t : ArrayType} (hts : ∀ w ∈ Tw, w.before args s = true) (hK : va_K D clL (tysL cy) s) (hown : s.vm.findClass (ownN oc) = some m.cls) (hA : ∀ q, s.heap.size ≤ q → A q) (hAd : ∀ ad ad', AdX (gN st) ad ad' → Ad ad → Ad ad') (hRc : M.2.2.2.1 ≤ R.cells) (hRs : M.2.2.2.2 ≤ R.slots) (hd : decode cc pc = .ok (.newarray t, ilen (.newarray t))) (hw : opb oc ini M pc (.newarray t) a b cs = true) (hN : Nx p l e R s m args below meth c Q D cy A nL Ad M g res cs st cn) (h : am_step X C M g (pc, cut, .newarray t, a, b) cs ls stk cn st = some res) : Gp p l e R s m args below meth c Q D clL cy A nL Ad pc ls stk cn st := by
  obtain ⟨h1, hq⟩ := and2 hw
  have hh : (match (generalizing := false) stk with
    | .int n :: r => if ¬ n < 0 ∧ n.toNatClampNeg = LL (gN st) ∧ cn.1 + 1 ≤ M.2.2.2.1 ∧ cn.2 + LL (gN st) ≤ M.2.2.2.2 ∧ KK (gN st) = a ∧ gN st + 1 < 1000000 then g cs ls (.ref (gN st) :: r) (cn.1 + 1, cn.2 + LL (gN st)) (mkNew st) else none
    | _ => none) = some res := h
  split at hh
  · split at hh
    · rename_i h9
      obtain ⟨k1, k2, k3, k4, k5, k6⟩ := h9
      rcases Bool.or_eq_true_iff.mp h1 with h1 | h1
      · obtain ⟨e1, e2⟩ := of_decide_eq_true h1
        subst e1
        exact si_newI hx hb hK hA hAd (hts _ (tw_of (acwW_in _ (by simp)) rfl)) (k5.trans e2) k1 k2 k6 (Nat.le_trans k3 hRc) (Nat.le_trans k4 hRs) hd (hN cs _ _ _ _ _ hh (Or.inl rfl) ⟨Nat.le_succ _, fun _ => ⟨k3, k4⟩⟩ hq)
      · obtain ⟨e1, e2⟩ := of_decide_eq_true h1
        subst e1
        exact si_newJ hx hb hK hA hAd (hts _ (tw_of (acwW_in _ (by simp)) rfl)) (k5.trans e2) k1 k2 k6 (Nat.le_trans k3 hRc) (Nat.le_trans k4 hRs) hd (hN cs _ _ _ _ _ hh (Or.inl rfl) ⟨Nat.le_succ _, fun _ => ⟨k3, k4⟩⟩ hq)
    · cases hh
  · cases hh

end SS
