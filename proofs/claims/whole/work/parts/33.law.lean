/-! THE CLAIM OUT OF ONE WALK OF THE LAW'S BODY. Your part is whole_start (and what it stands on); all else here is the same for every law, but numbers. -/
def R_law : String := "RoadHolidaysLaw"
def lw_P (b : Addr) (xs : List Int32) (args : Array Value) (s : State) : Prop := args = #[.ref b] ∧ s.IntsAt b xs ∧ xs.length ≤ 4608 ∧ (Jvm.Cond.and given_1 narrow_1).before args s = true
def lw_Q (_ : Array Value) (s : State) (o : Outcome) (t : State) : Prop := o = .returned (some (.int 1)) ∧ Framed s o t [] 601024 7293034
def lw_Z (below : List Frame) (a : Array Value) (s : State) : State → Prop := fun t => ∃ o, t.status = .running ∧ Ended t below o ∧ lw_Q a s o t
/-- the law's own end, with 1 on the stack, nothing written that was there before, its room as the claim has it -/
theorem lw_ret {p : Program} {l : Launch} {e : Env} {s : State} {m : MethodId} {below : List Frame} {meth : Method} {c : Code} {b : Nat} (hx : p.tables.exec = Jvm.exec) (hb : c.code = code) (hr : meth.sig.returnType = ret) (hlocks : meth.locks = false) {pc : Nat} {H : Heap} {ls : Array Slot} (hdg : decode code pc = .ok (.ireturn, 1)) : W p l e room_1 s m #[Value.ref b] below meth c H [] 601024 7293034 (lw_Z below #[Value.ref b] s) (F0 m pc ls [.int 1]) := by
  intro T hT X
  obtain ⟨fs, hret, hrun, hended, hW, hframe⟩ := X.leave (v := some (.int 1)) (hlocks := hlocks) (fun h => by rw [hr] at h; cases h)
  have hmeth' : T.vm.method? m = some meth := X.method'
  refine ⟨T.setFrames fs, ?_, .returned (some (.int 1)), hrun, hended, rfl, ⟨_, rfl⟩, hW, hframe⟩
  jvm_step X.here [X.here.top, hx, hb, hdg, hmeth', hr, ret, narrow_b1]
  (try refine ⟨rfl, ?_⟩); (try refine ⟨rfl, ?_⟩)
  first | (intro acts; rw [hret _ acts rfl rfl rfl]) | rw [hret _ _ rfl rfl rfl]
  exact Steps.refl _
/-- what holds at the law's entry: the machine, the code, the tables' words (any of lw_tbl by 'hts w (by decide +kernel)'), the script of L ints xs at the cell b, what the Statement gives of the start (any of its parts by flat_of_before) -/
def lw_At (p : Program) (s : State) (m : MethodId) (meth : Method) (c : Code) (b L : Nat) (xs : Nat → Int32) : Prop :=
  p.tables.exec = Jvm.exec ∧ c.code = code ∧ meth.sig.returnType = ret ∧ c.maxLocals = 8 ∧ s.vm.findClass R_law = some m.cls ∧ (∀ w ∈ lw_tbl, w.before #[Value.ref b] s = true) ∧ va_X b L xs s s.heap ∧ b < s.heap.size ∧ meth.locks = false ∧ (Jvm.Cond.and given_1 narrow_1).before #[Value.ref b] s = true
/-- what the small machine answers to the law, script by script: the pure part -/
def LawOk : Prop := ∀ X : Nat × (Nat → Int32), X.1 ≤ 4608 → ∃ (d : Nat) (st' : aSt), d ≤ 800 ∧ am_call X aP (d + 1) 302 [.ref 1000000] st00 = some (.inl (some (.int 1)), st')
theorem am_go302 (X : Nat × (Nat → Int32)) (d : Nat) (st : aSt) : am_call X aP (d + 1) 302 [.ref 1000000] st = am_run X (am_call X aP d) (aP 302) 10000000 (aP 302).1 (aIn [.ref 1000000] (aP 302).2.1) [] (0, 0) st := by
  show (if 302 < 1000 then (if (([.ref 1000000] : List Value).map fun v => v.category).sum ≤ (aP 302).2.1 ∧ ([.ref 1000000] : List Value).all noD = true then am_run X (am_call X aP d) (aP 302) 10000000 (aP 302).1 (aIn [.ref 1000000] (aP 302).2.1) [] (0, 0) st else none) else aPrim 302 [.ref 1000000] st) = _
  rw [if_pos (by decide), if_pos ⟨Nat.le_of_ble_eq_true rfl, rfl⟩]
theorem whole_of (hD : LawOk) {p : Program} {e : Env} {s : State} {m : MethodId} {below : List Frame} {meth : Method} {c : Code} (l : Launch) (hflags : l.flags = flags0) {b L : Nat} {xs : Nat → Int32} (hL : L ≤ 4608) (C0 : lw_At p s m meth c b L xs) : W p l e room_1 s m #[Value.ref b] below meth c s.heap [] 0 0 (lw_Z below #[Value.ref b] s) (entryFrame m ([Value.ref b] : List Value).toArray 8) := by
  obtain ⟨hx, hb, hr, hml, hown, hts, hX, hbl, hlocks, hgv⟩ := C0
  obtain ⟨d, st', hd, hcall⟩ := hD (L, xs) hL
  have hl : l.stackTraces = false := by
    unfold Launch.stackTraces
    rw [hflags]
    decide +kernel
  have hA : ∀ q : Nat, s.heap.size ≤ q → (fun q : Nat => s.heap.size ≤ q) q := fun _ h => h
  obtain ⟨ad, had, hE⟩ := ex_start (A := fun q : Nat => s.heap.size ≤ q) hts hgv hX hbl hL (fun a ha h => absurd ha (Nat.not_lt.mpr h))
  obtain ⟨D, cy, hK⟩ := kn_start hts
  have htw : ∀ w ∈ Tw, w.before #[Value.ref b] s = true := fun w hw => hts w (List.mem_filter.mp hw).1
  rw [am_go302] at hcall
  have hrun := hcall
  generalize hres : ((.inl (some (.int 1)), st') : (Option Value ⊕ Nat) × aSt) = res at hrun
  obtain ⟨k1, -, -, -, -, -, k7, -⟩ := ck_use (j := 302) (by decide)
  have hEx : ∀ ad', AdX 0 ad ad' → exX (L, xs) ad' (fun q : Nat => s.heap.size ≤ q) s s.heap := fun ad' hx9 => (exX_ok (L, xs)).2.2.2.1 _ _ _ _ _ _ hx9 hE
  have hC : Cx p room_1 s m #[Value.ref b] meth c cL_law_ D cy (fun q : Nat => s.heap.size ≤ q) 8 (AdX 0 ad) (aP 302) 11 false 0 := by
    refine ⟨hx, hb, rfl, htw, hK, hown, (fun hi => by cases hi), fun t ht => ?_, hA, fun n a1 a2 h1 h2 h3 => h3.trans h2 h1, Nat.le_refl _, Nat.le_refl _⟩
    obtain ⟨tx, htx⟩ := hE.2.1 t ht
    exact ⟨tx, fun ad' h' => by rw [h' _ (Or.inr (by omega))]; exact htx⟩
  have hY : Cy l room_1 s c (fun q : Nat => s.heap.size ≤ q) 8 (AdX 0 ad) (L, xs) d := ⟨hml, hEx, by show d + 11 ≤ 2048; omega, by show 100 * d + 400 ≤ 84000; omega, ct_all WFall_ok hl (L, xs) d⟩
  have hwf : wfb cL_law_ 11 false (aP 302) (aP 302).1 = true := WFall_ok 302 (by decide)
  have fin : ∀ (pc : Nat) (ls : aL) (cn : Nat × Nat) (st : aSt), decode cL_law_ pc = .ok (.ireturn, 1) → cnOk (aP 302) cn → Gp p l e room_1 s m #[Value.ref b] below meth c (lw_Z below #[Value.ref b] s) D clL cy (fun q : Nat => s.heap.size ≤ q) 8 (AdX 0 ad) pc ls [.int 1] cn st := by
    intro pc ls cn st hd9 hcn ad' jl H locs ha hLH hV hP hD9 hS
    refine va_forget (fun q hq => hS.2.2 q hq) ?_
    refine W.widen (k := 601024) (n := 7293034) hcn.1 hcn.2 ?_
    exact lw_ret hx hb hr hlocks hd9
  have hSp := spOk_of (below := below) (e := e) (p := p) (Q := lw_Z below #[Value.ref b] s) (res := res) (rt := (inf 302).2.2.2.1) hC hY hwf k1
    (fun g pc cs st cn hN ls' r' cn' st1 k' z1 z2 z3 z4 => by
      have z1 : rX k' st1 = some res := z1
      rw [← hres] at z1
      cases z1)
    (fun pc x ls cn st hd9 hr9 hrt hcn => by
      rw [← hres] at hr9
      cases hr9
      exact fin pc ls cn _ hd9 hcn)
    (fun pc x ls cn st hd9 hr9 hrt hcn => by
      rw [← hres] at hr9
      cases hr9)
    (fun pc ls cn st hd9 hr9 hrt hcn => by
      rw [← hres] at hr9
      cases hr9)
    (fun pc k ik is ic a2 ls cn st' d0 d3 d4 d7 d10 hcs hstr hr9 h1 h2 hnil => by
      rw [← hres] at hr9
      cases hr9)
  have hG := sim_run hC hwf hSp 10000000 (aP 302).1 _ [] (0, 0) st00 hrun ⟨0, rfl⟩ (Nat.le_refl _) ⟨Nat.zero_le _, Nat.zero_le _⟩ 0 k7
  have hLH := LH_entry (ad := ad) (As := [.ref 1000000]) (n := 8) (by decide) (by decide)
  have e9 : ([.ref 1000000] : List Value).map (trv ad) = [.ref b] := by
    show [Value.ref (ad 1000000)] = _
    rw [had]
  rw [e9] at hLH
  rw [lg_entry_eq]
  refine hG ad _ s.heap [] (AdX.rf _ _) hLH ⟨⟨by decide, fun i k r hi => absurd hi (Nat.not_lt_zero i)⟩, fun j o ho => Or.inr ?_, fun o ho => by simp at ho⟩ (fun k q hk => ?_) ⟨fun i j p q hi => ?_, fun k q hk => ?_⟩ va_S.rf
  · have := aIn_ref _ _ _ _ ho
    simp at this
    exact Nat.le_of_eq this.symm
  · have hk : ([] : va_W)[k]? = some q := hk
    simp at hk
  · have hi : ([] : va_W)[i]? = some p := hi
    simp at hi
  · have hk : ([] : va_W)[k]? = some q := hk
    simp at hk
