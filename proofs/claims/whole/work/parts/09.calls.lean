/-! CALLS: what a method of the small machine promises of the great one, and how a call of it goes on -/
abbrev tysL (cy : Nat → ClassId) : List (ClassId × FieldType) := [(cy 0, .int), (cy 1, .long), (cy 2, .array .int)]
/-- addresses that were known stay -/
def AdX (n : Nat) (ad ad' : Nat → Nat) : Prop := ∀ i, (i < n ∨ 1000000 ≤ i) → ad' i = ad i
theorem AdX.rf (n : Nat) (ad : Nat → Nat) : AdX n ad ad := fun _ _ => rfl
theorem AdX.trans {n n' : Nat} {a b c : Nat → Nat} (h1 : AdX n a b) (h2 : AdX n' b c) (h : n ≤ n') : AdX n a c := fun i hi => (h2 i (hi.elim (fun q => Or.inl (by omega)) Or.inr)).trans (h1 i hi)
theorem trv_ad {n : Nat} {ad ad' : Nat → Nat} (h : AdX n ad ad') {v : Value} (hv : ∀ o, v = .ref o → okr n o) : trv ad' v = trv ad v := by
  cases v with
  | ref o => exact congrArg Value.ref (h o (hv o rfl))
  | _ => rfl
theorem map_ad {n : Nat} {ad ad' : Nat → Nat} (h : AdX n ad ad') {l : List Value} (hv : ∀ o, Value.ref o ∈ l → okr n o) : l.map (trv ad') = l.map (trv ad) := List.map_congr_left (fun v hm => trv_ad h (fun o e => hv o (e ▸ hm)))
theorem LH.ad {jl : Array Slot} {nL n : Nat} {ad ad' : Nat → Nat} {ls : aL} (h : LH jl nL ad ls) (hx : AdX n ad ad') (hv : ∀ (j o : Nat), ls[j]? = some (some (.ref o)) → okr n o) : LH jl nL ad' ls := by
  refine ⟨h.1, h.2.1, fun q hq => ?_⟩
  obtain ⟨v, h1, h2⟩ := held_mem0.mp (show (q.1, q.2) ∈ held ad' 0 ls from hq)
  refine h.2.2 q (held_mem0.mpr ⟨v, h1, ?_⟩)
  rw [h2]
  exact trv_ad hx (fun o e => hv q.1 o (by rw [h1, e]))
/-- the names of what is thrown -/
def exN (k : Nat) : String := if k = 1 then "java/util/NoSuchElementException" else "java/lang/IllegalArgumentException"
/-- where a method has come to an end: its answer, its world -/
def cQ (D : va_G) (cy : Nat → ClassId) (A : Nat → Prop) (n : Nat) (ad : Nat → Nat) (res : (Option Value ⊕ Nat) × aSt) : Array Value → State → Outcome → State → Prop := fun _ st0 oc t =>
  (∃ (v : Option Value) (ad' : Nat → Nat), res.1 = .inl v ∧ oc = .returned (v.map (trv ad')) ∧ AdX n ad ad' ∧ va_P D clL (wsOf cy ad' res.2) t.heap ∧ va_D A (wsOf cy ad' res.2) ∧ va_K D clL (tysL cy) t) ∧ va_F A st0 t
def cX (D : va_G) (cy : Nat → ClassId) (A : Nat → Prop) (n : Nat) (ad : Nat → Nat) (res : (Option Value ⊕ Nat) × aSt) : String → State → State → Prop := fun E st0 t =>
  (∃ (k : Nat) (ad' : Nat → Nat), res.1 = .inr k ∧ E = exN k ∧ AdX n ad ad' ∧ va_P D clL (wsOf cy ad' res.2) t.heap ∧ va_D A (wsOf cy ad' res.2) ∧ va_K D clL (tysL cy) t) ∧ va_F A st0 t
section SIMC
variable {p : Program} {l : Launch} {e : Env} {R : Room} {s : State} {m : MethodId} {args : Array Value} {below : List Frame} {meth : Method} {c : Code} {Q : State → Prop} {cc : ByteArray} {D : va_G} {cy : Nat → ClassId} {A : Nat → Prop} {nL : Nat} {Ad : (Nat → Nat) → Prop} {tys : List (ClassId × FieldType)} {Ts : List Cond} {own : String}
variable {pc : Nat} {ls : aL} {r : List Value} {cn : Nat × Nat} {st : aSt}
/-- behind a call: it has returned, or thrown -/
theorem si_run {H : Heap} {locs : List Loc} {cells slots mc ms n : Nat} {jl : Array Slot} {stk rest : List Value} {a : Array Value} {A1 : Nat → Prop} {ad : Nat → Nat} {res : (Option Value ⊕ Nat) × aSt}
    (hr : vx_Run p l e R s m args below meth c H locs cells slots mc ms (F0 m pc jl stk) rest (cQ D cy A1 n ad res a) (cX D cy A1 n ad res) A1) (hS : va_S A s.heap H locs) (hA1 : ∀ q, A1 q → A q)
    (kk : ∀ (v : Option Value) (ad' : Nat → Nat) (H1 : Heap) (locs1 : List Loc), res.1 = .inl v → AdX n ad ad' → va_P D clL (wsOf cy ad' res.2) H1 → va_D A (wsOf cy ad' res.2) → va_S A s.heap H1 locs1 → W p l e R s m args below meth c H1 locs1 (cells + mc) (slots + ms) Q (F0 m (pc + 3) jl ((v.map (trv ad')).toList ++ rest)))
    (kx : ∀ (k : Nat) (ad' : Nat → Nat) (H1 : Heap) (locs1 : List Loc) (q9 : Addr) (ce : Cell), res.1 = .inr k → AdX n ad ad' → va_P D clL (wsOf cy ad' res.2) H1 → va_D A (wsOf cy ad' res.2) → va_S A s.heap H1 locs1 → H1[q9]? = some ce → ce.vm = .none → s.vm.findClass (exN k) = some ce.cls → vx_W p l e R s m args below meth c H1 locs1 (cells + mc) (slots + ms) Q (F0 m pc jl rest) q9) :
    W p l e R s m args below meth c H locs cells slots Q (F0 m pc jl stk) := by
  intro T hT X
  rcases hr T hT X with ⟨v, st₀, t, T', L, h0, X', hL, e1, e2, ⟨⟨v9, ad', hv, ho, hx9, hP, hD, -⟩, hF⟩, st⟩ | ⟨q, st₀, t, T', L, E, ce, h0, X', hL, e1, e2, ⟨⟨k, ad', hv, hE, hx9, hP, hD, -⟩, hF⟩, hce, hcv, hcl, st⟩
  · cases ho
    obtain ⟨k1, k2, k3⟩ := vx_keep h0 e1 hS (fun q _ h => hA1 q h) hA1 hL hF
    obtain ⟨t2, a1, b1⟩ := kk v9 ad' T'.heap (locs ++ L) hv hx9 (by rw [e1]; exact hP) (hD.weaken (fun _ _ _ h => hA1 _ h)) k3 T' rfl X'
    exact ⟨t2, st t2 a1, b1⟩
  · subst hE
    obtain ⟨k1, k2, k3⟩ := vx_keep h0 e1 hS (fun q _ h => hA1 q h) hA1 hL hF
    obtain ⟨t2, a1, b1⟩ := kx k ad' T'.heap (locs ++ L) q ce hv hx9 (by rw [e1]; exact hP) (hD.weaken (fun _ _ _ h => hA1 _ h)) k3 (by rw [e1]; exact hce) hcv hcl T' rfl X'
    exact ⟨t2, st.trans a1, b1⟩
theorem wsA {H : Heap} {locs : List Loc} {ad : Nat → Nat} (hD : va_D A (wsOf cy ad st)) (hS : va_S A s.heap H locs) (hA : ∀ q, s.heap.size ≤ q → A q) : ∀ q, va_A (wsOf cy ad st) H.size q → A q := by
  intro q h
  rcases h with ⟨k, e, h⟩ | h
  · exact hD.2 k (q, e) h
  · exact hA q (Nat.le_trans hS.1 h)
/-- from every state that is this one of the small machine, q having been thrown over it, it goes on to Q -/
def Gx (p : Program) (l : Launch) (e : Env) (R : Room) (s : State) (m : MethodId) (args : Array Value) (below : List Frame) (meth : Method) (c : Code) (Q : State → Prop) (D : va_G) (cy : Nat → ClassId) (A : Nat → Prop) (nL : Nat) (Ad : (Nat → Nat) → Prop) (pc : Nat) (ls : aL) (stk : List Value) (cn : Nat × Nat) (st : aSt) (k : Nat) : Prop :=
  ∀ (ad : Nat → Nat) (jl : Array Slot) (H : Heap) (locs : List Loc) (q9 : Addr) (ce : Cell), Ad ad → LH jl nL ad ls → VOk st ls stk → va_P D clL (wsOf cy ad st) H → va_D A (wsOf cy ad st) → va_S A s.heap H locs → H[q9]? = some ce → ce.vm = .none → s.vm.findClass (exN k) = some ce.cls → vx_W p l e R s m args below meth c H locs cn.1 cn.2 Q (F0 m pc jl (stk.map (trv ad))) q9
/-- what the callee leaves behind is closed, and has what was there -/
def ResOk (st : aSt) (res : (Option Value ⊕ Nat) × aSt) : Prop := Cl res.2 ∧ gN st ≤ gN res.2 ∧ (∀ o, res.1 = .inl (some (.ref o)) → okr (gN res.2) o) ∧ ∀ k, res.1 = .inr k → k = 1 ∨ k = 2
theorem si_call {mc ms : Nat} {As : List Value} {res : (Option Value ⊕ Nat) × aSt} (hAd : ∀ (ad ad' : Nat → Nat), AdX (gN st) ad ad' → Ad ad → Ad ad') (hA : ∀ q, s.heap.size ≤ q → A q) (hok : ResOk st res)
    (hrun : ∀ (ad : Nat → Nat) (jl : Array Slot) (H : Heap) (locs : List Loc), Ad ad → jl.size = nL → VOk st ls (As.reverse ++ r) → va_P D clL (wsOf cy ad st) H → va_D A (wsOf cy ad st) → va_S A s.heap H locs → vx_Run p l e R s m args below meth c H locs cn.1 cn.2 mc ms (F0 m pc jl ((As.reverse ++ r).map (trv ad))) (r.map (trv ad)) (cQ D cy (va_A (wsOf cy ad st) H.size) (gN st) ad res ((As.map (trv ad)).toArray)) (cX D cy (va_A (wsOf cy ad st) H.size) (gN st) ad res) (va_A (wsOf cy ad st) H.size))
    (kk : ∀ v, res.1 = .inl v → Gp p l e R s m args below meth c Q D clL cy A nL Ad (pc + 3) ls (v.toList ++ r) (cn.1 + mc, cn.2 + ms) res.2)
    (kx : ∀ k, res.1 = .inr k → Gx p l e R s m args below meth c Q D cy A nL Ad pc ls r (cn.1 + mc, cn.2 + ms) res.2 k) : Gp p l e R s m args below meth c Q D clL cy A nL Ad pc ls (As.reverse ++ r) cn st := by
  intro ad jl H locs ha hL hV hP hD hS
  have hls : ∀ (j o : Nat), ls[j]? = some (some (.ref o)) → okr (gN st) o := hV.2.1
  have hrs : ∀ o, Value.ref o ∈ r → okr (gN st) o := fun o ho => hV.2.2 o (List.mem_append_right _ ho)
  have up : ∀ o, okr (gN st) o → okr (gN res.2) o := fun o h => h.elim (fun q => Or.inl (Nat.lt_of_lt_of_le q hok.2.1)) Or.inr
  refine si_run (hrun ad jl H locs ha hL.1 hV hP hD hS) hS (wsA hD hS hA) (fun v ad' H1 locs1 hv hx hP1 hD1 hS1 => ?_) (fun k ad' H1 locs1 q9 ce hv hx hP1 hD1 hS1 h1 h2 h3 => ?_)
  · have h := kk v hv ad' jl H1 locs1 (hAd _ _ hx ha) (hL.ad hx hls) ⟨hok.1, fun j o h => up o (hls j o h), fun o ho => ?_⟩ hP1 hD1 hS1
    · have e1 : (v.toList ++ r).map (trv ad') = (v.map (trv ad')).toList ++ r.map (trv ad) := by
        rw [List.map_append, map_ad hx hrs]
        cases v <;> rfl
      rw [e1] at h
      exact h
    · rcases List.mem_append.mp ho with h | h
      · cases v with
        | none => simp at h
        | some w => simp at h; subst h; exact hok.2.2.1 o hv
      · exact up o (hrs o h)
  · have h := kx k hv ad' jl H1 locs1 q9 ce (hAd _ _ hx ha) (hL.ad hx hls) ⟨hok.1, fun j o h => up o (hls j o h), fun o ho => up o (hrs o ho)⟩ hP1 hD1 hS1 h1 h2 h3
    rw [map_ad hx hrs] at h
    exact h
end SIMC
