/-! ENDS of a body, throwing and catching, new things -/
section SIME
variable {p : Program} {l : Launch} {e : Env} {R : Room} {s : State} {m : MethodId} {args : Array Value} {below : List Frame} {meth : Method} {c : Code} {cc : ByteArray} {D : va_G} {cy : Nat → ClassId} {A : Nat → Prop} {nL : Nat} {Ts : List Cond} {own : String}
variable {pc : Nat} {ls : aL} {r : List Value} {cn : Nat × Nat} {st : aSt} {n0 mc ms : Nat} {ad0 : Nat → Nat} {Q : State → Prop} {XC : String → State → State → Prop}
theorem si_ireturn (hx : p.tables.exec = Jvm.exec) (hb : c.code = cc) {x : Int32} {ty : FieldType} (hr : meth.sig.returnType = some ty) (hn : narrow ty (.int x) = .int x) (hlocks : meth.locks = false) (d : decode cc pc = .ok (.ireturn, 1)) (h1 : cn.1 ≤ mc) (h2 : cn.2 ≤ ms) (hK : va_K D clL (tysL cy) s) :
    Gp p l e R s m args below meth c (vx_MQ below (cQ D cy A n0 ad0 (.inl (some (.int x)), st)) XC args s mc ms A) D clL cy A nL (AdX n0 ad0) pc ls [.int x] cn st := by
  intro ad jl H locs ha hL hV hP hD hS
  exact W.widen h1 h2 (vx_ret (W.zret hx hb hr hn (fun t ht hW => ⟨⟨some (.int x), ad, rfl, rfl, ha, by rw [ht]; exact hP, hD, va_K.moved hW.alike hK⟩, hS.F ht⟩) hS.2.2 d hlocks))
theorem si_lreturn (hx : p.tables.exec = Jvm.exec) (hb : c.code = cc) {x : Int64} (hr : meth.sig.returnType = some .long) (hlocks : meth.locks = false) (d : decode cc pc = .ok (.lreturn, 1)) (h1 : cn.1 ≤ mc) (h2 : cn.2 ≤ ms) (hK : va_K D clL (tysL cy) s) :
    Gp p l e R s m args below meth c (vx_MQ below (cQ D cy A n0 ad0 (.inl (some (.long x)), st)) XC args s mc ms A) D clL cy A nL (AdX n0 ad0) pc ls [.long x] cn st := by
  intro ad jl H locs ha hL hV hP hD hS
  exact W.widen h1 h2 (vx_ret (W.lret hx hb hr (fun t ht hW => ⟨⟨some (.long x), ad, rfl, rfl, ha, by rw [ht]; exact hP, hD, va_K.moved hW.alike hK⟩, hS.F ht⟩) hS.2.2 d hlocks))
theorem si_return (hx : p.tables.exec = Jvm.exec) (hb : c.code = cc) (hr : meth.sig.returnType = none) (hlocks : meth.locks = false) (d : decode cc pc = .ok (.return_, 1)) (h1 : cn.1 ≤ mc) (h2 : cn.2 ≤ ms) (hK : va_K D clL (tysL cy) s) :
    Gp p l e R s m args below meth c (vx_MQ below (cQ D cy A n0 ad0 (.inl none, st)) XC args s mc ms A) D clL cy A nL (AdX n0 ad0) pc ls [] cn st := by
  intro ad jl H locs ha hL hV hP hD hS
  exact W.widen h1 h2 (vx_ret (W.vret hx hb hr (fun t ht hW => ⟨⟨none, ad, rfl, rfl, ha, by rw [ht]; exact hP, hD, va_K.moved hW.alike hK⟩, hS.F ht⟩) hS.2.2 d hlocks))
/-- not caught here -/
theorem si_out {k : Nat} {Qc : Array Value → State → Outcome → State → Prop} (hout : ∀ x ∈ c.exceptionTable.toList, covers x pc = false) (hlocks : meth.locks = false) (h1 : cn.1 ≤ mc) (h2 : cn.2 ≤ ms) (hK : va_K D clL (tysL cy) s) :
    Gx p l e R s m args below meth c (vx_MQ below Qc (cX D cy A n0 ad0 (.inr k, st)) args s mc ms A) D cy A nL (AdX n0 ad0) pc ls r cn st k := by
  intro ad jl H locs q9 ce ha hL hV hP hD hS hc hv hcl
  exact vx_out (E := exN k) hout hlocks hc hv hcl (fun t ht hvm => ⟨⟨k, ad, rfl, rfl, ha, by rw [ht]; exact hP, hD, va_K.moved hvm hK⟩, hS.F ht⟩) hS.2.2 h1 h2
/-- throw new E("text"), from 'new' on -/
theorem si_throw {k : Nat} {Qc : Array Value → State → Outcome → State → Prop} (hx : p.tables.exec = Jvm.exec) (hb : c.code = cc) (hml : c.maxLocals = nL) (hl : l.stackTraces = false) {text : String} {names : List String} {ik is ic q : Nat} (hown : s.vm.findClass own = some m.cls) (hcls : Bundle.fit (exN k) = true) (hnames : ∀ n ∈ names, Bundle.fit n = true)
    (hk : (Cond.classLink own ik (exN k)).before args s = true) (hini : (Cond.initialized (exN k)).before args s = true) (hstr : ∀ ad, AdX n0 ad0 ad → vk_R own is text (ad q) s) (hat : ∀ w ∈ vx_atS own ic (exN k) names, w.before args s = true)
    (hgood : ∀ w ∈ Cond.classLink own ik (exN k) :: Cond.initialized (exN k) :: vx_atS own ic (exN k) names, vx_ot w = true)
    (hU : vx_Zq Bundle.tN "UNASSIGNED_STACK" Bundle.steD A s s.heap) (hN : vx_Zq Bundle.tN "SUPPRESSED_SENTINEL" Bundle.listD A s s.heap)
    (d0 : decode cc pc = .ok (.new ik, 3)) (d3 : decode cc (pc + 3) = .ok (.dup, 1)) (d4 : decode cc (pc + 4) = .ok (.ldc_w is, 3)) (d7 : decode cc (pc + 7) = .ok (.invokespecial ic, 3)) (d10 : decode cc (pc + 10) = .ok (.athrow, 1))
    (hout : ∀ x ∈ c.exceptionTable.toList, covers x (pc + 10) = false) (hRf : names.length + 3 < R.frames) (hRl : 13 * (names.length + 1) + 43 ≤ R.locals) (hRc : cn.1 + 1 ≤ R.cells) (hRs : cn.2 + 6 ≤ R.slots) (hlocks : meth.locks = false) (h1 : cn.1 + 1 ≤ mc) (h2 : cn.2 + 6 ≤ ms) (hK : va_K D clL (tysL cy) s) :
    Gp p l e R s m args below meth c (vx_MQ below Qc (cX D cy A n0 ad0 (.inr k, st)) args s mc ms A) D clL cy A nL (AdX n0 ad0) pc ls [] cn st := by
  intro ad jl H locs ha hL hV hP hD hS
  refine vx_throwSW hx hb hl hown hcls hnames hk hini (hstr ad ha) hat hgood hU hN hS (by rw [hml]; exact hL.1) d0 d3 d4 d7 d10 hout hRf (by simpa using hRl) hRc hRs hlocks (fun t hvm hz hq => ?_) hS.2.2 h1 h2
  refine ⟨⟨k, ad, rfl, rfl, ha, hP.kept (fun k9 x hx9 => hq x.1 ((hP k9 x hx9).lt)), hD, va_K.moved hvm hK⟩, Nat.le_trans hS.1 hz, fun q9 hq1 hq2 => ?_⟩
  rw [hq q9 (Nat.lt_of_lt_of_le hq1 hS.1)]
  exact hS.2.1 q9 hq1 hq2
theorem lno_ne : ∀ (l : aL) (i j : Nat) (w : Value), (lno l i)[j]? = some (some w) → j ≠ i ∧ l[j]? = some (some w)
  | [], i, j, w, h => by simp [lno] at h
  | a :: l, 0, 0, w, h => by simp [lno] at h
  | a :: l, 0, j + 1, w, h => ⟨by omega, by simpa [lno] using h⟩
  | a :: l, i + 1, 0, w, h => ⟨by omega, by simpa [lno] using h⟩
  | a :: l, i + 1, j + 1, w, h => by
    rw [lno, List.getElem?_cons_succ] at h
    obtain ⟨h1, h2⟩ := lno_ne l i j w h
    exact ⟨by omega, by rw [List.getElem?_cons_succ]; exact h2⟩
theorem LH.cat {jl' : Array Slot} {ad : Nat → Nat} {i : Nat} {u : Value} (h' : lv_has jl' nL ((i, u) :: (held ad 0 ls).filter (fun q => !(q.1 == i) && !(q.1 + 1 == i && q.2.category == 2)))) : LH jl' nL ad (lno (lclr ls i) i) := by
  refine ⟨h'.1, h'.2.1, fun q hq => ?_⟩
  obtain ⟨w, h1, h2⟩ := held_mem0.mp (show (q.1, q.2) ∈ held ad 0 (lno (lclr ls i) i) from hq)
  refine h'.2.2 q ?_
  obtain ⟨e1, e2⟩ := lno_ne _ i q.1 w h1
  obtain ⟨e2, e3⟩ := lclr_at ls i q.1 w e2
  refine List.mem_cons_of_mem _ (List.mem_filter.mpr ⟨held_mem0.mpr ⟨w, e2, h2⟩, ?_⟩)
  have h3 : ¬ (q.1 + 1 = i ∧ q.2.category = 2) := by rw [h2, trv_cat]; exact e3
  simp only [Bool.and_eq_true, Bool.not_eq_true', beq_eq_false_iff_ne, Bool.and_eq_false_iff]
  refine ⟨e1, ?_⟩
  by_cases h4 : q.1 + 1 = i
  · exact Or.inr (fun h5 => h3 ⟨h4, h5⟩)
  · exact Or.inl h4
theorem VOk.cat {i : Nat} (h : VOk st ls r) : VOk st (lno (lclr ls i) i) [] := ⟨h.1, fun j o hj => h.2.1 j o (lclr_at ls i j _ (lno_ne _ i j _ hj).2).1, fun o ho => by simp at ho⟩
/-- caught here: the handler begins by laying it aside -/
theorem si_catch (hx : p.tables.exec = Jvm.exec) (hb : c.code = cc) {Ad : (Nat → Nat) → Prop} {k i : Nat} {name : String} (hown : s.vm.findClass own = some m.cls) (pre : List ExceptionTableEntry) (x : ExceptionTableEntry) (suf : List ExceptionTableEntry) (hsplit : c.exceptionTable.toList = pre ++ x :: suf)
    (hpass : ∀ z ∈ pre, covers z pc = false ∨ (z.catchType ≠ 0 ∧ ∃ nm : String, (Cond.classLink own z.catchType nm).before args s = true ∧ va_Nc (exN k) nm s)) (hcv : covers x pc = true) (h0 : x.catchType ≠ 0)
    (hlink : (Cond.classLink own x.catchType name).before args s = true) (hcast : (Cond.castable (exN k) name).before args s = true) (hn : i < nL) (d : decode cc x.handlerPc = .ok (.astore i, 2))
    (kk : Gp p l e R s m args below meth c Q D clL cy A nL Ad (x.handlerPc + 2) (lno (lclr ls i) i) [] cn st) : Gx p l e R s m args below meth c Q D cy A nL Ad pc ls r cn st k := by
  intro ad jl H locs q9 ce ha hL hV hP hD hS hc hv hcl
  refine vx_catch (E := exN k) hown pre x suf hsplit hpass hcv h0 hlink hcast hc hv hcl ?_
  exact lv_astore hx hb d hL hn rfl (fun jl2 hl2 => kk ad jl2 H locs ha (LH.cat hl2) hV.cat hP hD hS)
theorem si_catch_n (hx : p.tables.exec = Jvm.exec) (hb : c.code = cc) {Ad : (Nat → Nat) → Prop} {k i : Nat} {j : Fin 4} {name : String} (hown : s.vm.findClass own = some m.cls) (pre : List ExceptionTableEntry) (x : ExceptionTableEntry) (suf : List ExceptionTableEntry) (hsplit : c.exceptionTable.toList = pre ++ x :: suf)
    (hpass : ∀ z ∈ pre, covers z pc = false ∨ (z.catchType ≠ 0 ∧ ∃ nm : String, (Cond.classLink own z.catchType nm).before args s = true ∧ va_Nc (exN k) nm s)) (hcv : covers x pc = true) (h0 : x.catchType ≠ 0)
    (hlink : (Cond.classLink own x.catchType name).before args s = true) (hcast : (Cond.castable (exN k) name).before args s = true) (hn : i < nL) (d : decode cc x.handlerPc = .ok (.astore_n j, 1)) (hi : (j : Nat) = i)
    (kk : Gp p l e R s m args below meth c Q D clL cy A nL Ad (x.handlerPc + 1) (lno (lclr ls i) i) [] cn st) : Gx p l e R s m args below meth c Q D cy A nL Ad pc ls r cn st k := by
  intro ad jl H locs q9 ce ha hL hV hP hD hS hc hv hcl
  refine vx_catch (E := exN k) hown pre x suf hsplit hpass hcv h0 hlink hcast hc hv hcl ?_
  exact lv_astore_n hx hb d hi hL hn rfl (fun jl2 hl2 => kk ad jl2 H locs ha (LH.cat hl2) hV.cat hP hD hS)
end SIME
/-! new things -/
theorem mkNew_cell {cy : Nat → ClassId} {ad : Nat → Nat} {st : aSt} {q i : Nat} (hc : Cl st) (hi : i < gN st) : cellOf cy (va_up ad (gN st) q) (mkNew st) i = cellOf cy ad st i := by
  have hne : i ≠ gN st := by omega
  have e1 : gI (mkNew st) i = gI st i := va_up_ne _ _ hne
  have e2 : gJ (mkNew st) i = gJ st i := va_up_ne _ _ hne
  have e3 : gR (mkNew st) i = gR st i := va_up_ne _ _ hne
  have e4 : ∀ k, (gR st i k).map (va_up ad (gN st) q) = (gR st i k).map ad := by
    intro k
    cases h : gR st i k with
    | none => rfl
    | some r =>
      have := hc.2 i k r hi h
      exact congrArg some (va_up_ne _ _ (by omega))
  unfold cellOf fsOf
  simp only [e1, e2, e3, e4]
theorem wsOf_new {cy : Nat → ClassId} {ad : Nat → Nat} {st : aSt} {q : Nat} (hc : Cl st) : wsOf cy (va_up ad (gN st) q) (mkNew st) = wsOf cy ad st ++ [(q, cellOf cy (va_up ad (gN st) q) (mkNew st) (gN st))] := by
  have hn : gN (mkNew st) = gN st + 1 := rfl
  unfold wsOf
  rw [hn, List.range_succ, List.map_append, List.map_cons, List.map_nil, va_up_self]
  congr 1
  apply List.map_congr_left
  intro i hi
  have hi := List.mem_range.mp hi
  rw [mkNew_cell hc hi, va_up_ne _ _ (by omega)]
theorem Cl_new {st : aSt} (h : Cl st) (h9 : gN st + 1 < 1000000) : Cl (mkNew st) := by
  refine ⟨h9, fun i k r hi hr => ?_⟩
  have hr : va_up st.2.2.2 st.1 (fun _ => none) i k = some r := hr
  by_cases e : i = st.1
  · subst e; rw [va_up_self] at hr; cases hr
  · rw [va_up_ne _ _ e] at hr
    have hi2 : i < gN st + 1 := hi
    have : i ≠ gN st := e
    have := h.2 i k r (by omega) hr
    show r < gN st + 1
    omega
theorem AdX_new {n : Nat} {ad : Nat → Nat} {st : aSt} {q : Nat} (h : n ≤ gN st) (h9 : gN st < 1000000) : AdX n ad (va_up ad (gN st) q) := fun i hi => va_up_ne _ _ (by omega)
section SIMN
variable {p : Program} {l : Launch} {e : Env} {R : Room} {s : State} {m : MethodId} {args : Array Value} {below : List Frame} {meth : Method} {c : Code} {cc : ByteArray} {D : va_G} {cy : Nat → ClassId} {A : Nat → Prop} {nL : Nat} {Ts : List Cond} {own : String} {Ad : (Nat → Nat) → Prop} {Q : State → Prop}
variable {pc : Nat} {ls : aL} {r : List Value} {cn : Nat × Nat} {st : aSt}
theorem VOk.new {stk : List Value} (h : VOk st ls stk) (h9 : gN st + 1 < 1000000) : VOk (mkNew st) ls (.ref (gN st) :: stk) := by
  have up : ∀ o, okr (gN st) o → okr (gN (mkNew st)) o := fun o h => h.elim (fun q => Or.inl (Nat.lt_succ_of_lt q)) Or.inr
  refine ⟨Cl_new h.1 h9, fun j o hj => up o (h.2.1 j o hj), fun o ho => ?_⟩
  rcases List.mem_cons.mp ho with e | e
  · cases e; exact Or.inl (Nat.lt_succ_self _)
  · exact up o (h.2.2 o e)
theorem fs_new {ad : Nat → Nat} (c : Nat) (hc : c < 10) (hk : KK (gN st) = c) (j : Nat) (hj : j < cN c) : defaultValue (cTy c j) = vp_V (fsOf ad (mkNew st) (gN st)) j := by
  have hj2 : j < nFl (KK (gN st)) := by rw [hk, ← cN_nFl c hc]; exact hj
  have e : vp_V (fsOf ad (mkNew st) (gN st)) j = (if iFl (KK (gN st)) j = true then .int (gI (mkNew st) (gN st) j) else va_rf ((gR (mkNew st) (gN st) j).map ad)) := by
    unfold vp_V
    rw [List.getD_eq_getElem?_getD, fsOf_at hj2]
    rfl
  have e1 : gI (mkNew st) (gN st) j = 0 := congrFun (va_up_self st.2.1 st.1 (fun _ => (0 : Int32))) j
  have e2 : gR (mkNew st) (gN st) j = none := congrFun (va_up_self st.2.2.2 st.1 (fun _ => (none : Option Nat))) j
  rw [e, e1, e2, hk]
  cases hi : iFl c j with
  | true => rw [if_pos rfl, cTy_int c hc j hj hi]; rfl
  | false =>
    rw [if_neg (by decide)]
    have := cTy_ref c hc j hj hi
    cases h : cTy c j <;> rw [h] at this <;> first | rfl | (simp [isRT] at this)
theorem si_new (hx : p.tables.exec = Jvm.exec) (hb : c.code = cc) (hts : ∀ w ∈ Ts, w.before args s = true) (hK : va_K D clL (tysL cy) s) (hown : s.vm.findClass own = some m.cls) (hA : ∀ q, s.heap.size ≤ q → A q) (hAd : ∀ ad ad', AdX (gN st) ad ad' → Ad ad → Ad ad') {ci ix : Nat} (hci : ci < 10) (hin : ∀ w ∈ u_ws (cC ci) (cT ci) (cN ci), w ∈ Ts) (hKo : KK (gN st) = ci)
    (hcl : (Cond.classLink own ix (cC ci)).before args s = true) (hinst : (Cond.instantiable (cC ci) (cN ci)).before args s = true) (hini : (Cond.initialized (cC ci)).before args s = true) (h9 : gN st + 1 < 1000000) (hRc : cn.1 + 1 ≤ R.cells) (hRs : cn.2 + cN ci ≤ R.slots) (d : decode cc pc = .ok (.new ix, 3))
    (kk : Gp p l e R s m args below meth c Q D clL cy A nL Ad (pc + 3) ls (.ref (gN st) :: r) (cn.1 + 1, cn.2 + cN ci) (mkNew st)) : Gp p l e R s m args below meth c Q D clL cy A nL Ad pc ls r cn st := by
  intro ad jl H locs ha hL hV hP hD hS
  refine va_new (ci := ci) (fs := fsOf (va_up ad (gN st) H.size) (mkNew st) (gN st)) hx hb hts hin (cTy ci) (cty_ok ci hci) hown hcl hinst hini hK hP hD hS hA (clL_at ci hci) (fun j hj => fs_new ci hci hKo j hj) hRc hRs d (fun q H1 hP1 hD1 hS1 => ?_)
  sorry
end SIMN
