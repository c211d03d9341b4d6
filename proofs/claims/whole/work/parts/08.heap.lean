/-! fields, arrays, copies, constants, switches -/
theorem KK_big {o : Nat} (h : 1000000 ≤ o) : 10 ≤ KK o := by
  unfold KK
  rw [if_pos h]
  by_cases h1 : o = 1000000
  · rw [if_pos h1]; exact Nat.le_refl _
  · rw [if_neg h1]
    by_cases h2 : o < 2000000
    · rw [if_pos h2]; decide
    · rw [if_neg h2]; split <;> decide
theorem KK_sm {o : Nat} (h : KK o = 11 ∨ KK o = 12) : o < 1000000 := by
  rcases Nat.lt_or_ge o 1000000 with q | q
  · exact q
  · unfold KK at h
    rw [if_pos q] at h
    by_cases h1 : o = 1000000
    · rw [if_pos h1] at h; omega
    · rw [if_neg h1] at h
      by_cases h2 : o < 2000000
      · rw [if_pos h2] at h; omega
      · rw [if_neg h2] at h; split at h <;> omega
theorem cN_nFl : ∀ c, c < 10 → cN c = nFl c := by decide
theorem cTy_int : ∀ c, c < 10 → ∀ k, k < cN c → iFl c k = true → cTy c k = .int := by decide
def isRT (t : FieldType) : Bool := match t with
  | .object _ => true
  | .array _ => true
  | _ => false
theorem cTy_ref : ∀ c, c < 10 → ∀ k, k < cN c → iFl c k = false → isRT (cTy c k) = true := by decide
theorem isRT_nar {t : FieldType} (h : isRT t = true) (a : Nat) : narrow t (.ref a) = .ref a ∧ fits t (.ref a) = true := by
  cases t <;> first | (exact ⟨rfl, rfl⟩) | (simp [isRT] at h)
section SIMH
variable {p : Program} {l : Launch} {e : Env} {R : Room} {s : State} {m : MethodId} {args : Array Value} {below : List Frame} {meth : Method} {c : Code} {Q : State → Prop} {cc : ByteArray} {D : va_G} {cy : Nat → ClassId} {A : Nat → Prop} {nL : Nat} {Ad : (Nat → Nat) → Prop} {tys : List (ClassId × FieldType)} {Ts : List Cond} {own : String}
variable {pc : Nat} {ls : aL} {r : List Value} {cn : Nat × Nat} {st : aSt}
theorem okr_lt {n o : Nat} (h : okr n o) (hk : KK o < 10) : o < n := by
  rcases h with h | h
  · exact h
  · have := KK_big h; omega
theorem okr_lt2 {n o : Nat} (h : okr n o) (hk : o < 1000000) : o < n := by
  rcases h with h | h
  · exact h
  · omega
theorem si_getI (hx : p.tables.exec = Jvm.exec) (hb : c.code = cc) (hts : ∀ w ∈ Ts, w.before args s = true) (hK : va_K D clL tys s) (hown : s.vm.findClass own = some m.cls) {o k ci ix : Nat} (hci : ci < 10) (hin : ∀ w ∈ u_ws (cC ci) (cT ci) (cN ci), w ∈ Ts) (hKo : KK o = ci) (hk : k < cN ci) (hi : iFl ci k = true)
    (hlink : (Cond.fieldLink own ix (cT ci k).1 (cT ci k).2.1 (cT ci k).2.2.1).before args s = true) (d : decode cc pc = .ok (.getfield ix, 3)) (kk : Gp p l e R s m args below meth c Q D clL cy A nL Ad (pc + 3) ls (.int (gI st o k) :: r) cn st) : Gp p l e R s m args below meth c Q D clL cy A nL Ad pc ls (.ref o :: r) cn st := by
  intro ad jl H locs hA hL hV hP hD hS
  have ho : o < gN st := okr_lt (hV.2.2 o List.mem_cons_self) (by omega)
  have hk2 : k < nFl (KK o) := by rw [hKo, ← cN_nFl ci hci]; exact hk
  refine va_get (D := D) (ci := ci) (v := .int (gI st o k)) hx hb hts hin hown hK hP o (by rw [wsOf_at ho, cell_obj (by omega), hKo]) (clL_at ci hci) k hk hlink (fun _ h9 => h9) ?_ d (kk ad jl H locs hA hL (hV.stk (fun o ho => by simp at ho; exact List.mem_cons_of_mem _ ho)) hP hD hS)
  rw [fsOf_at hk2, if_pos (by rw [hKo]; exact hi)]
theorem si_getR (hx : p.tables.exec = Jvm.exec) (hb : c.code = cc) (hts : ∀ w ∈ Ts, w.before args s = true) (hK : va_K D clL tys s) (hown : s.vm.findClass own = some m.cls) {o k ci ix q : Nat} (hci : ci < 10) (hin : ∀ w ∈ u_ws (cC ci) (cT ci) (cN ci), w ∈ Ts) (hKo : KK o = ci) (hk : k < cN ci) (hi : iFl ci k = false) (hq : gR st o k = some q)
    (hlink : (Cond.fieldLink own ix (cT ci k).1 (cT ci k).2.1 (cT ci k).2.2.1).before args s = true) (d : decode cc pc = .ok (.getfield ix, 3)) (kk : Gp p l e R s m args below meth c Q D clL cy A nL Ad (pc + 3) ls (.ref q :: r) cn st) : Gp p l e R s m args below meth c Q D clL cy A nL Ad pc ls (.ref o :: r) cn st := by
  intro ad jl H locs hA hL hV hP hD hS
  have ho : o < gN st := okr_lt (hV.2.2 o List.mem_cons_self) (by omega)
  have hk2 : k < nFl (KK o) := by rw [hKo, ← cN_nFl ci hci]; exact hk
  have hqn : q < gN st := hV.1.2 o k q ho hq
  refine va_get (D := D) (ci := ci) (v := .ref (ad q)) hx hb hts hin hown hK hP o (by rw [wsOf_at ho, cell_obj (by omega), hKo]) (clL_at ci hci) k hk hlink (fun _ h9 => h9) ?_ d (kk ad jl H locs hA hL ⟨hV.1, hV.2.1, fun o2 ho2 => (List.mem_cons.mp ho2).elim (fun z => by cases z; exact Or.inl hqn) (fun z => hV.2.2 o2 (List.mem_cons_of_mem _ z))⟩ hP hD hS)
  rw [fsOf_at hk2, if_neg (by rw [hKo, hi]; decide), hq]
  rfl
theorem si_putI (hx : p.tables.exec = Jvm.exec) (hb : c.code = cc) (hts : ∀ w ∈ Ts, w.before args s = true) (hK : va_K D clL tys s) (hown : s.vm.findClass own = some m.cls) {o k ci ix : Nat} {x : Int32} (hci : ci < 10) (hin : ∀ w ∈ u_ws (cC ci) (cT ci) (cN ci), w ∈ Ts) (hKo : KK o = ci) (hk : k < cN ci) (hi : iFl ci k = true) (hfin : (cT ci k).2.2.2 = false)
    (hlink : (Cond.fieldLink own ix (cT ci k).1 (cT ci k).2.1 (cT ci k).2.2.1).before args s = true) (d : decode cc pc = .ok (.putfield ix, 3)) (kk : Gp p l e R s m args below meth c Q D clL cy A nL Ad (pc + 3) ls r cn (setI st o k x)) : Gp p l e R s m args below meth c Q D clL cy A nL Ad pc ls (.int x :: .ref o :: r) cn st := by
  intro ad jl H locs hA hL hV hP hD hS
  have ho : o < gN st := okr_lt (hV.2.2 o (by simp)) (by omega)
  have hk2 : k < nFl (KK o) := by rw [hKo, ← cN_nFl ci hci]; exact hk
  have hty := cty_ok ci hci k hk
  rw [cTy_int ci hci k hk hi] at hty
  refine va_put (D := D) (ci := ci) (v := .int x) (ty := .int) hx hb hts hin (cTy ci) (cty_ok ci hci) (cnm_ok ci hci) hown hK hP hD hS o (by rw [wsOf_at ho, cell_obj (by omega), hKo]) (clL_at ci hci) k hk hlink (fun _ h9 => h9) hfin hty rfl rfl (by rw [fsOf_len]; exact hk2) d (fun H1 locs1 hP1 hD1 hS1 => ?_)
  have e1 : wsOf cy ad (setI st o k x) = (wsOf cy ad st).set o (ad o, .inr (ci, (fsOf ad st o).set k (.int x))) := by
    rw [wsOf_set (st := st) (st' := setI st o k x) ho rfl (fun i _ h => cell_setI h), cell_obj (by omega), hKo, fsOf_setI hk2 (by rw [hKo]; exact hi)]
  rw [← e1] at hP1 hD1
  exact kk ad jl H1 locs1 hA hL ((hV.stk (fun o ho => by simp; exact Or.inr ho)).st rfl rfl) hP1 hD1 hS1
theorem Cl_setR {st : aSt} {o k v : Nat} (h : Cl st) (hv : v < gN st) : Cl (setR st o k (some v)) := by
  refine ⟨h.1, fun i j r hi hr => ?_⟩
  have e : gR (setR st o k (some v)) i j = va_up st.2.2.2 o (va_up (st.2.2.2 o) k (some v)) i j := rfl
  rw [e] at hr
  by_cases h1 : i = o
  · subst h1
    rw [va_up_self] at hr
    by_cases h2 : j = k
    · subst h2; rw [va_up_self] at hr; cases hr; exact hv
    · rw [va_up_ne _ _ h2] at hr; exact h.2 i j r hi hr
  · rw [va_up_ne _ _ h1] at hr; exact h.2 i j r hi hr
theorem si_putR (hx : p.tables.exec = Jvm.exec) (hb : c.code = cc) (hts : ∀ w ∈ Ts, w.before args s = true) (hK : va_K D clL tys s) (hown : s.vm.findClass own = some m.cls) {o k ci ix v : Nat} (hci : ci < 10) (hin : ∀ w ∈ u_ws (cC ci) (cT ci) (cN ci), w ∈ Ts) (hKo : KK o = ci) (hk : k < cN ci) (hi : iFl ci k = false) (hv9 : v < 1000000) (hfin : (cT ci k).2.2.2 = false ∨ ((cT ci k).2.2.2 = true ∧ meth.name = "<init>" ∧ (cT ci k).1 = own))
    (hlink : (Cond.fieldLink own ix (cT ci k).1 (cT ci k).2.1 (cT ci k).2.2.1).before args s = true) (d : decode cc pc = .ok (.putfield ix, 3)) (kk : Gp p l e R s m args below meth c Q D clL cy A nL Ad (pc + 3) ls r cn (setR st o k (some v))) : Gp p l e R s m args below meth c Q D clL cy A nL Ad pc ls (.ref v :: .ref o :: r) cn st := by
  intro ad jl H locs hA hL hV hP hD hS
  have ho : o < gN st := okr_lt (hV.2.2 o (by simp)) (by omega)
  have hv : v < gN st := okr_lt2 (hV.2.2 v (by simp)) hv9
  have hk2 : k < nFl (KK o) := by rw [hKo, ← cN_nFl ci hci]; exact hk
  have hnf := isRT_nar (cTy_ref ci hci k hk hi) (ad v)
  have e1 : wsOf cy ad (setR st o k (some v)) = (wsOf cy ad st).set o (ad o, .inr (ci, (fsOf ad st o).set k (.ref (ad v)))) := by
    rw [wsOf_set (st := st) (st' := setR st o k (some v)) ho rfl (fun i _ h => cell_setR h), cell_obj (by omega), hKo, fsOf_setR hk2 (by rw [hKo, hi]; decide)]
  have hV2 : VOk (setR st o k (some v)) ls r := ⟨Cl_setR hV.1 hv, hV.2.1, fun o2 h2 => hV.2.2 o2 (by simp; exact Or.inr (Or.inr h2))⟩
  rcases hfin with hfin | ⟨hfin, hin2, hdec⟩
  · refine va_put (D := D) (ci := ci) (v := .ref (ad v)) (ty := cTy ci k) hx hb hts hin (cTy ci) (cty_ok ci hci) (cnm_ok ci hci) hown hK hP hD hS o (by rw [wsOf_at ho, cell_obj (by omega), hKo]) (clL_at ci hci) k hk hlink (fun _ h9 => h9) hfin (cty_ok ci hci k hk) hnf.1 hnf.2 (by rw [fsOf_len]; exact hk2) d (fun H1 locs1 hP1 hD1 hS1 => ?_)
    rw [← e1] at hP1 hD1
    exact kk ad jl H1 locs1 hA hL hV2 hP1 hD1 hS1
  · refine va_putF (D := D) (ci := ci) (v := .ref (ad v)) (ty := cTy ci k) hx hb hts hin (cTy ci) (cty_ok ci hci) (cnm_ok ci hci) hown hK hP hD hS o (by rw [wsOf_at ho, cell_obj (by omega), hKo]) (clL_at ci hci) k hk hlink (fun _ h9 => h9) hfin hin2 hdec (cty_ok ci hci k hk) hnf.1 hnf.2 (by rw [fsOf_len]; exact hk2) d (fun H1 locs1 hP1 hD1 hS1 => ?_)
    rw [← e1] at hP1 hD1
    exact kk ad jl H1 locs1 hA hL hV2 hP1 hD1 hS1
theorem si_iald (hx : p.tables.exec = Jvm.exec) (hb : c.code = cc) (hK : va_K D clL tys s) (ht : tys[0]? = some (cy 0, .int)) {o : Nat} {i : Int32} (hKo : KK o = 10) (ho9 : o < 1000000) (hi : ¬ (i < 0 ∨ LL o ≤ i.toNatClampNeg)) (d : decode cc pc = .ok (.iaload, 1)) (kk : Gp p l e R s m args below meth c Q D clL cy A nL Ad (pc + 1) ls (.int (gI st o i.toNatClampNeg) :: r) cn st) : Gp p l e R s m args below meth c Q D clL cy A nL Ad pc ls (.int i :: .ref o :: r) cn st := by
  intro ad jl H locs hA hL hV hP hD hS
  have ho : o < gN st := okr_lt2 (hV.2.2 o (by simp)) ho9
  exact va_iald hx hb hK hP o 0 (by rw [wsOf_at ho, cell_ints hKo]) ht hi d (kk ad jl H locs hA hL (hV.stk (fun o ho => by simp at ho; simp; exact Or.inr ho)) hP hD hS)
theorem si_lald (hx : p.tables.exec = Jvm.exec) (hb : c.code = cc) (hK : va_K D clL tys s) (ht : tys[1]? = some (cy 1, .long)) {o : Nat} {i : Int32} (hKo : KK o = 11) (hi : ¬ (i < 0 ∨ LL o ≤ i.toNatClampNeg)) (d : decode cc pc = .ok (.laload, 1)) (kk : Gp p l e R s m args below meth c Q D clL cy A nL Ad (pc + 1) ls (.long (gJ st o i.toNatClampNeg) :: r) cn st) : Gp p l e R s m args below meth c Q D clL cy A nL Ad pc ls (.int i :: .ref o :: r) cn st := by
  intro ad jl H locs hA hL hV hP hD hS
  have ho : o < gN st := okr_lt2 (hV.2.2 o (by simp)) (KK_sm (Or.inl hKo))
  exact va_lald hx hb hK hP o 1 (by rw [wsOf_at ho, cell_longs hKo]) ht hi d (kk ad jl H locs hA hL (hV.stk (fun o ho => by simp at ho; simp; exact Or.inr ho)) hP hD hS)
theorem si_iast (hx : p.tables.exec = Jvm.exec) (hb : c.code = cc) (hK : va_K D clL tys s) (ht : tys[0]? = some (cy 0, .int)) {o : Nat} {i x : Int32} (hKo : KK o = 10) (ho9 : o < 1000000) (hi : ¬ (i < 0 ∨ LL o ≤ i.toNatClampNeg)) (d : decode cc pc = .ok (.iastore, 1)) (kk : Gp p l e R s m args below meth c Q D clL cy A nL Ad (pc + 1) ls r cn (setI st o i.toNatClampNeg x)) : Gp p l e R s m args below meth c Q D clL cy A nL Ad pc ls (.int x :: .int i :: .ref o :: r) cn st := by
  intro ad jl H locs hA hL hV hP hD hS
  have ho : o < gN st := okr_lt2 (hV.2.2 o (by simp)) ho9
  refine va_iast hx hb hK hP hD hS o 0 (by rw [wsOf_at ho, cell_ints hKo]) ht hi d (fun H1 locs1 hP1 hD1 hS1 => ?_)
  have e1 : wsOf cy ad (setI st o i.toNatClampNeg x) = (wsOf cy ad st).set o (ad o, .inl (cy 0, LL o, .inl (upd (gI st o) i.toNatClampNeg x))) := by
    rw [wsOf_set (st := st) (st' := setI st o i.toNatClampNeg x) ho rfl (fun i _ h => cell_setI h), cell_ints hKo]
    have e2 : gI (setI st o i.toNatClampNeg x) o = upd (gI st o) i.toNatClampNeg x := va_up_self _ _ _
    rw [e2]
  rw [← e1] at hP1 hD1
  exact kk ad jl H1 locs1 hA hL ((hV.stk (fun o ho => by simp; exact Or.inr ho)).st rfl rfl) hP1 hD1 hS1
theorem si_last (hx : p.tables.exec = Jvm.exec) (hb : c.code = cc) (hK : va_K D clL tys s) (ht : tys[1]? = some (cy 1, .long)) {o : Nat} {i : Int32} {x : Int64} (hKo : KK o = 11) (hi : ¬ (i < 0 ∨ LL o ≤ i.toNatClampNeg)) (d : decode cc pc = .ok (.lastore, 1)) (kk : Gp p l e R s m args below meth c Q D clL cy A nL Ad (pc + 1) ls r cn (setJ st o i.toNatClampNeg x)) : Gp p l e R s m args below meth c Q D clL cy A nL Ad pc ls (.long x :: .int i :: .ref o :: r) cn st := by
  intro ad jl H locs hA hL hV hP hD hS
  have ho : o < gN st := okr_lt2 (hV.2.2 o (by simp)) (KK_sm (Or.inl hKo))
  refine va_last hx hb hK hP hD hS o 1 (by rw [wsOf_at ho, cell_longs hKo]) ht hi d (fun H1 locs1 hP1 hD1 hS1 => ?_)
  have e1 : wsOf cy ad (setJ st o i.toNatClampNeg x) = (wsOf cy ad st).set o (ad o, .inl (cy 1, LL o, .inr (.inl (vp_updL (gJ st o) i.toNatClampNeg x)))) := by
    rw [wsOf_set (st := st) (st' := setJ st o i.toNatClampNeg x) ho rfl (fun i _ h => cell_setJ h), cell_longs hKo]
    have e2 : gJ (setJ st o i.toNatClampNeg x) o = vp_updL (gJ st o) i.toNatClampNeg x := va_up_self _ _ _
    rw [e2]
  rw [← e1] at hP1 hD1
  exact kk ad jl H1 locs1 hA hL ((hV.stk (fun o ho => by simp; exact Or.inr ho)).st rfl rfl) hP1 hD1 hS1
theorem si_alen (hx : p.tables.exec = Jvm.exec) (hb : c.code = cc) (hK : va_K D clL tys s) (ht : tys[0]? = some (cy 0, .int)) {o : Nat} (hKo : KK o = 10) (ho9 : o < 1000000) (d : decode cc pc = .ok (.arraylength, 1)) (kk : Gp p l e R s m args below meth c Q D clL cy A nL Ad (pc + 1) ls (.int (nI (LL o)) :: r) cn st) : Gp p l e R s m args below meth c Q D clL cy A nL Ad pc ls (.ref o :: r) cn st := by
  intro ad jl H locs hA hL hV hP hD hS
  have ho : o < gN st := okr_lt2 (hV.2.2 o (by simp)) ho9
  exact va_alen (x := (LL o, .inl (gI st o))) hx hb hK hP o 0 (by rw [wsOf_at ho, cell_ints hKo]) ht rfl d (kk ad jl H locs hA hL (hV.stk (fun o ho => by simp at ho; simp; exact Or.inr ho)) hP hD hS)
theorem si_copy (hx : p.tables.exec = Jvm.exec) (hb : c.code = cc) (hml : c.maxLocals = nL) (hK : va_K D clL tys s) (ht : tys[0]? = some (cy 0, .int)) (hown : s.vm.findClass own = some m.cls) {ix : Nat} (hlink : (Cond.methodLink own ix arraycopyName).before args s = true) (hnat : (Cond.native arraycopyName).before args s = true) (hstat : (Cond.static arraycopyName).before args s = true) (hini : (Cond.initialized "java/lang/System").before args s = true)
    {n dp sp : Int32} {q o : Nat} (h : KK o = 10 ∧ KK q = 10 ∧ o < 1000000 ∧ q < 1000000 ∧ ¬ sp < 0 ∧ ¬ dp < 0 ∧ ¬ n < 0 ∧ sp.toNatClampNeg + n.toNatClampNeg ≤ LL o ∧ dp.toNatClampNeg + n.toNatClampNeg ≤ LL q ∧ (r.map fun v => v.category).sum ≤ 8) (hRf : 1 ≤ R.frames) (hRl : 8 + (nativeFrameWords "java/lang/System" "arraycopy" 5 + 11) ≤ R.locals) (d : decode cc pc = .ok (.invokestatic ix, 3))
    (kk : Gp p l e R s m args below meth c Q D clL cy A nL Ad (pc + 3) ls r cn (setRow st q (va_cpy (gI st o) (gI st q) sp.toNatClampNeg dp.toNatClampNeg n.toNatClampNeg))) : Gp p l e R s m args below meth c Q D clL cy A nL Ad pc ls (.int n :: .int dp :: .ref q :: .int sp :: .ref o :: r) cn st := by
  intro ad jl H locs hA hL hV hP hD hS
  obtain ⟨k1, k2, k3, k4, k5, k6, k7, k8, k9, k10⟩ := h
  have ho : o < gN st := okr_lt2 (hV.2.2 o (by simp)) k3
  have hq : q < gN st := okr_lt2 (hV.2.2 q (by simp)) k4
  refine va_copyi (ty := .int) hx hb (by rw [hml]; exact hL.1.symm) hown hlink hnat hstat hini hK hP hD hS o q 0 0 (by rw [wsOf_at ho, cell_ints k1]) (by rw [wsOf_at hq, cell_ints k2]) ht ht rfl k5 k6 k7 k8 k9 (fun _ _ => rfl) hRf ?_ d (fun H1 locs1 hP1 hD1 hS1 => ?_)
  · have e9 : ((r.map (trv ad)).map fun v => v.category).sum = (r.map fun v => v.category).sum := by
      rw [List.map_map]
      exact congrArg List.sum (List.map_congr_left (fun v _ => trv_cat ad v))
    rw [e9]
    omega
  · have e1 : wsOf cy ad (setRow st q (va_cpy (gI st o) (gI st q) sp.toNatClampNeg dp.toNatClampNeg n.toNatClampNeg)) = (wsOf cy ad st).set q (ad q, .inl (cy 0, LL q, .inl (va_cpy (gI st o) (gI st q) sp.toNatClampNeg dp.toNatClampNeg n.toNatClampNeg))) := by
      rw [wsOf_set (st := st) (st' := setRow st q _) hq rfl (fun i _ h => cell_setRow h), cell_ints k2]
      have e2 : gI (setRow st q (va_cpy (gI st o) (gI st q) sp.toNatClampNeg dp.toNatClampNeg n.toNatClampNeg)) q = va_cpy (gI st o) (gI st q) sp.toNatClampNeg dp.toNatClampNeg n.toNatClampNeg := va_up_self _ _ _
      rw [e2]
    rw [← e1] at hP1 hD1
    exact kk ad jl H1 locs1 hA hL ((hV.stk (fun o ho => by simp; exact Or.inr (Or.inr ho))).st rfl rfl) hP1 hD1 hS1
theorem si_ldcs (hx : p.tables.exec = Jvm.exec) (hb : c.code = cc) (hown : s.vm.findClass own = some m.cls) {ix q : Nat} {tx : String} (hq : 1000000 ≤ q) (hZ : ∀ ad, Ad ad → vk_R own ix tx (ad q) s) (d : decode cc pc = .ok (.ldc ix, 2)) (kk : Gp p l e R s m args below meth c Q D clL cy A nL Ad (pc + 2) ls (.ref q :: r) cn st) : Gp p l e R s m args below meth c Q D clL cy A nL Ad pc ls r cn st := by
  intro ad jl H locs hA hL hV hP hD hS
  exact va_ldcS hx hb hown (hZ ad hA) d (kk ad jl H locs hA hL ⟨hV.1, hV.2.1, fun o2 ho2 => (List.mem_cons.mp ho2).elim (fun z => by cases z; exact Or.inr hq) (hV.2.2 o2)⟩ hP hD hS)
theorem si_ldcsw (hx : p.tables.exec = Jvm.exec) (hb : c.code = cc) (hown : s.vm.findClass own = some m.cls) {ix q : Nat} {tx : String} (hq : 1000000 ≤ q) (hZ : ∀ ad, Ad ad → vk_R own ix tx (ad q) s) (d : decode cc pc = .ok (.ldc_w ix, 3)) (kk : Gp p l e R s m args below meth c Q D clL cy A nL Ad (pc + 3) ls (.ref q :: r) cn st) : Gp p l e R s m args below meth c Q D clL cy A nL Ad pc ls r cn st := by
  intro ad jl H locs hA hL hV hP hD hS
  have k := kk ad jl H locs hA hL ⟨hV.1, hV.2.1, fun o2 ho2 => (List.mem_cons.mp ho2).elim (fun z => by cases z; exact Or.inr hq) (hV.2.2 o2)⟩ hP hD hS
  intro T hT X
  obtain ⟨t, a1, b1⟩ := k T hT X
  exact ⟨t, X.ldcStringW hx hown (text := tx) (a := ad q) (hZ ad hA).1 (hZ ad hA).2 (g := F0 m pc jl (r.map (trv ad))) rfl (by rw [hb]; exact d) t a1, b1⟩
end SIMH
