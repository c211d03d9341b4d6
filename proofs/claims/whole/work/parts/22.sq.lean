/-! CALLS, by the methods' contracts -/
theorem pd_use {o : Option MethodDescriptor} {rc na : Nat} (h : o.map (fun d => d.parameters.length + rc) = some na) : ∃ n, o.map (fun d => d.parameters.length) = some n ∧ n + rc = na := by
  cases o with
  | none => cases h
  | some d => exact ⟨_, rfl, Option.some.inj h⟩
theorem calb_use {i : aI} {M : aM} {b rc : Nat} (h : calb i M b rc = true) : b % 4 = retK i.2.2.2.1 ∧ (∃ n, (parseMethodDescriptor i.1.desc).map (fun d => d.parameters.length) = some n ∧ n + rc = b / 4 % 16) ∧ b / 8192 % 256 = M.2.2.2.1 ∧ b / 2097152 = M.2.2.2.2 ∧ i.2.2.1 ≤ 60 := by
  unfold calb at h
  obtain ⟨h, h5⟩ := and2 h
  obtain ⟨h, h4⟩ := and2 h
  obtain ⟨h, h3⟩ := and2 h
  obtain ⟨h1, h2⟩ := and2 h
  exact ⟨of_decide_eq_true h1, pd_use (of_decide_eq_true h2), of_decide_eq_true h3, of_decide_eq_true h4, of_decide_eq_true h5⟩
theorem cdW_code {i : aI} (h : i.2.2.2.2.2.2 = []) : cdW i = Cond.code i.1 i.2.1 i.2.2.1 i.2.2.2.1 := by
  unfold cdW
  rw [h]
theorem cdW_with {i : aI} (h : i.2.2.2.2.2.2 ≠ []) : cdW i = Cond.codeWith i.1 i.2.1 i.2.2.1 i.2.2.2.1 i.2.2.2.2.2.2 := by
  unfold cdW
  cases hx : i.2.2.2.2.2.2 with
  | nil => exact absurd hx h
  | cons x l => rfl
section SQ
variable {p : Program} {l : Launch} {e : Env} {R : Room} {s : State} {m : MethodId} {args : Array Value} {below : List Frame} {meth : Method} {c : Code} {Q : State → Prop} {cc : ByteArray} {D : va_G} {cy : Nat → ClassId} {A : Nat → Prop} {nL : Nat} {Ad : (Nat → Nat) → Prop}
variable {X : Nat × (Nat → Int32)} {M : aM} {g : aK} {res : (Option Value ⊕ Nat) × aSt} {pc a b oc n0 d : Nat} {cut : Option (List Bool)} {cs : List aE} {ls : aL} {stk : List Value} {cn : Nat × Nat} {st : aSt} {ini : Bool}
theorem sp_aInv (hC : Cx p R s m args meth c cc D cy A nL Ad M oc ini n0) (hY : Cy l R s c A nL Ad X d) (hn0 : n0 ≤ gN st) (ha9 : a < 302) (ha1 : a ≠ 299) (ha2 : a ≠ 300) {rc9 : Nat} (hcal : calb (inf a) (aP a) b rc9 = true) (hck : ckC a b = true) (hw : nxb cs (pc + 3) = true) (hN : Nx p l e R s m args below meth c Q D cy A nL Ad M g res cs st cn) (hH : Hd p l e R s m args below meth c Q D cy A nL Ad M g res pc st)
    (h : aInv (am_call X aP d) g (fun cn e st => aHnd g M.1 pc ls cn M.2.2.1 e st) M.2.2.2 a b cs ls stk cn st = some res)
    (hrun : ∀ (As r : List Value) (rc : (Option Value ⊕ Nat) × aSt), stk = As.reverse ++ r → As.length = b / 4 % 16 → (r.map fun v => v.category).sum ≤ 8 → (∀ (ad : Nat → Nat) (sz : Nat), vx_Met l (yN a) (cdW (inf a) :: Tw) (rmN d (aP a).2.2.2) (cP (exX X) D cy ad st sz As) (cQ D cy (va_A (wsOf cy ad st) sz) (gN st) ad rc) (cX D cy (va_A (wsOf cy ad st) sz) (gN st) ad rc) (aP a).2.2.2.1 (aP a).2.2.2.2 (va_A (wsOf cy ad st) sz)) → (cn.1 + (aP a).2.2.2.1 ≤ R.cells ∧ cn.2 + (aP a).2.2.2.2 ≤ R.slots) →
      ∀ (ad : Nat → Nat) (jl : Array Slot) (H : Heap) (locs : List Loc), exX X ad A s s.heap → jl.size = nL → VOk st ls (As.reverse ++ r) → va_P D clL (wsOf cy ad st) H → va_D A (wsOf cy ad st) → va_S A s.heap H locs → vx_Run p l e R s m args below meth c H locs cn.1 cn.2 (aP a).2.2.2.1 (aP a).2.2.2.2 (F0 m pc jl ((As.reverse ++ r).map (trv ad))) (r.map (trv ad)) (cQ D cy (va_A (wsOf cy ad st) H.size) (gN st) ad rc ((As.map (trv ad)).toArray)) (cX D cy (va_A (wsOf cy ad st) H.size) (gN st) ad rc) (va_A (wsOf cy ad st) H.size)) :
    Gp p l e R s m args below meth c Q D clL cy A nL Ad pc ls stk cn st := by
  obtain ⟨hx, hb, hnl, hts, hK, hown, hini, hstr, hA, hAd, hRc, hRs⟩ := hC
  obtain ⟨hml, hEx, hRf, hRl, IH⟩ := hY
  obtain ⟨e1, e2, e3, e4, e5⟩ := calb_use hcal
  obtain ⟨rc, h1, h2, h3, h4, h5, h6⟩ := aInv_use h
  rw [e3] at h4 h6
  rw [e4] at h5 h6
  intro ad jl H locs ha hL hV hP hD hS
  have est := tk_dr stk (b / 4 % 16)
  have hlen : ((stk.take (b / 4 % 16)).reverse).length = b / 4 % 16 := by rw [List.length_reverse, List.length_take]; omega
  obtain ⟨hok, hpl, hM⟩ := IH a ha9 ha1 ha2 _ st rc h1 hV.1 (fun o ho => hV.2.2 o (List.mem_of_mem_take (List.mem_reverse.mp ho)))
  have hkp : kpb b st rc.2 = rc.2 := kpb_same (fun h0 => by
    unfold ckC at hck
    simp only [Bool.or_eq_true, decide_eq_true_eq] at hck
    rcases hck with (hck | hck) | hck
    · omega
    · omega
    · exact hpl hck)
  rw [hkp] at h6
  generalize hAs : (stk.take (b / 4 % 16)).reverse = As at est hlen hM
  generalize hr : stk.drop (b / 4 % 16) = r at est h2 h6
  have key : Gp p l e R s m args below meth c Q D clL cy A nL Ad pc ls (As.reverse ++ r) cn st := by
    refine si_call (mc := (aP a).2.2.2.1) (ms := (aP a).2.2.2.2) (res := rc) (fun ad ad' z1 z2 => hAd _ _ _ hn0 z1 z2) hA hok (fun ad jl H locs ha hsz hV hP hD hS => ?_) (fun v hv => ?_) (fun k hk => ?_)
    · exact hrun As r rc est.symm hlen h2 (fun ad sz => hM D cy ad sz) ⟨Nat.le_trans h4 hRc, Nat.le_trans h5 hRs⟩ ad jl H locs (hEx ad ha) hsz hV hP hD hS
    · rcases h6 with ⟨v', hv', hg⟩ | ⟨k', hk', hg⟩
      · cases hv.symm.trans hv'
        exact hN cs _ _ _ _ _ hg (Or.inl rfl) ⟨hok.2.1, fun _ => ⟨h4, h5⟩⟩ hw
      · cases hv.symm.trans hk'
    · rcases h6 with ⟨v', hv', hg⟩ | ⟨k', hk', hg⟩
      · cases hk.symm.trans hv'
      · cases hk.symm.trans hk'
        exact hH _ _ _ _ _ hg hok.2.1 ⟨h4, h5⟩ (hok.2.2.2 _ hk)
  have hV2 := hV
  rw [← est] at hV2
  have h9 := key ad jl H locs ha hL hV2 hP hD hS
  rw [est] at h9
  exact h9
theorem sp_static (hC : Cx p R s m args meth c cc D cy A nL Ad M oc ini n0) (hY : Cy l R s c A nL Ad X d) (hn0 : n0 ≤ gN st) {ix : Nat} (ha9 : a < 302) (ha1 : a ≠ 299) (ha2 : a ≠ 300) (hcall : callT.contains (oc, ix, a) = true) (hsta : (inf a).2.2.2.2.2.1 = true) (hcal : calb (inf a) (aP a) b 0 = true) (hck : ckC a b = true) (hd : decode cc pc = .ok (.invokestatic ix, 3)) (hw : nxb cs (pc + 3) = true) (hN : Nx p l e R s m args below meth c Q D cy A nL Ad M g res cs st cn) (hH : Hd p l e R s m args below meth c Q D cy A nL Ad M g res pc st)
    (h : aInv (am_call X aP d) g (fun cn e st => aHnd g M.1 pc ls cn M.2.2.1 e st) M.2.2.2 a b cs ls stk cn st = some res) : Gp p l e R s m args below meth c Q D clL cy A nL Ad pc ls stk cn st := by
  refine sp_aInv hC hY hn0 ha9 ha1 ha2 hcal hck hw hN hH h (fun As r rc hstk hlen hsum hM hcc ad jl H locs hE hsz hV hP hD hS => ?_)
  obtain ⟨hx, hb, hnl, hts, hK, hown, hini, hstr, hA, hAd, hRc, hRs⟩ := hC
  obtain ⟨hml, hEx, hRf, hRl, IH⟩ := hY
  obtain ⟨e1, ⟨n, en, e2⟩, e3, e4, e5⟩ := calb_use hcal
  obtain ⟨-, -, -, -, k5, -, -, -, -, k10⟩ := ck_use (j := a) (by omega)
  have hl := tw_of (call_in _ (List.mem_map.mpr ⟨(oc, ix, a), mem_of_contains hcall, rfl⟩)) (rfl : goodWord (callC (oc, ix, a)) = true)
  have hst : Cond.static (yN a) ∈ Tw := by
    have := kd_tw ha9
    unfold kdW at this
    rw [if_pos hsta] at this
    exact this
  have hin : Cond.initialized (yN a).cls ∈ Tw := by
    have e : (yN a).cls = ownN (inf a).2.2.2.2.1 := k5
    rw [e]
    exact tw_of (ownL_ini _ (ownN_in k10)) rfl
  have hy : (yN a).cls ≠ "java/lang/invoke/MethodHandle" ∧ (yN a).cls ≠ "java/lang/invoke/VarHandle" := by
    have e : (yN a).cls = ownN (inf a).2.2.2.2.1 := k5
    rw [e]
    exact ownN_ok _ k10
  by_cases hh : (inf a).2.2.2.2.2.2 = []
  · exact run_S (own := ownN oc) (n := n) (exX_ok X) hx hb hml hown hts hK hA hM (cdW_code hh) (cdW_tw ha9) hl hst hin hy en (by omega) e5 hRf hRl hsum hcc hd hsz hE hP hD hS
  · exact run_SX (own := ownN oc) (n := n) (exX_ok X) hx hb hml hown hts hK hA hM (cdW_with hh) (cdW_tw ha9) hl hst hin hy en (by omega) e5 hRf hRl hsum hcc hd hsz hE hP hD hS
/-- a receiver: the first of the call's values -/
theorem rcv_use {n ci o : Nat} {l9 As r : List Value} (h0 : stk.drop (n + 1 - 1) = .ref o :: l9) (h1 : stk = As.reverse ++ r) (h2 : As.length = n + 1) : ∃ As', As = .ref o :: As' ∧ As'.length = n := by
  cases As with
  | nil => simp at h2
  | cons v As' =>
    have h3 : As'.length = n := by simpa using h2
    rw [h1, List.reverse_cons, List.append_assoc, show n + 1 - 1 = As'.reverse.length by rw [List.length_reverse]; omega, List.drop_left] at h0
    cases h0
    exact ⟨As', rfl, h3⟩
theorem sp_virtual (hC : Cx p R s m args meth c cc D cy A nL Ad M oc ini n0) (hY : Cy l R s c A nL Ad X d) (hn0 : n0 ≤ gN st) {ix ci o : Nat} {l9 : List Value} (ha9 : a < 302) (ha1 : a ≠ 299) (ha2 : a ≠ 300) (hcall : callT.contains (oc, ix, a) = true) (hsel : selJ.contains a = true) (hsta : (inf a).2.2.2.2.2.1 = false) (hcal : calb (inf a) (aP a) b 1 = true) (hci : ci = (inf a).2.2.2.2.1) (hci9 : ci < 10) (hck : ckC a b = true) (hrec : stk.drop (b / 4 % 16 - 1) = .ref o :: l9) (hKo : KK o = ci) (hd : decode cc pc = .ok (.invokevirtual ix, 3)) (hw : nxb cs (pc + 3) = true) (hN : Nx p l e R s m args below meth c Q D cy A nL Ad M g res cs st cn) (hH : Hd p l e R s m args below meth c Q D cy A nL Ad M g res pc st)
    (h : aInv (am_call X aP d) g (fun cn e st => aHnd g M.1 pc ls cn M.2.2.1 e st) M.2.2.2 a b cs ls stk cn st = some res) : Gp p l e R s m args below meth c Q D clL cy A nL Ad pc ls stk cn st := by
  refine sp_aInv hC hY hn0 ha9 ha1 ha2 hcal hck hw hN hH h (fun As r rc hstk hlen hsum hM hcc ad jl H locs hE hsz hV hP hD hS => ?_)
  obtain ⟨hx, hb, hnl, hts, hK, hown, hini, hstr, hA, hAd, hRc, hRs⟩ := hC
  obtain ⟨hml, hEx, hRf, hRl, IH⟩ := hY
  obtain ⟨e1, ⟨n, en, e2⟩, e3, e4, e5⟩ := calb_use hcal
  obtain ⟨-, -, -, -, k5, k6, -, -, -, k10⟩ := ck_use (j := a) (by omega)
  rw [← e2] at hrec hlen
  obtain ⟨As', rfl, hlen'⟩ := rcv_use (ci := 0) hrec hstk hlen
  have hl := tw_of (call_in _ (List.mem_map.mpr ⟨(oc, ix, a), mem_of_contains hcall, rfl⟩)) (rfl : goodWord (callC (oc, ix, a)) = true)
  have hst : Cond.instanceMethod (yN a) ∈ Tw := by
    have := kd_tw ha9
    unfold kdW at this
    rw [hsta, if_neg (by decide)] at this
    exact this
  have ecl : (yN a).cls = cC ci := by rw [cC_ownN ci hci9, hci]; exact k5
  have hse : Cond.selects (cC ci) (yN a) (yN a) ∈ Tw := by
    have := tw_of (sel_in _ (List.mem_map.mpr ⟨a, mem_of_contains hsel, rfl⟩)) (rfl : goodWord (Cond.selects (yN a).cls (yN a) (yN a)) = true)
    rw [ecl] at this
    exact this
  have hin : Cond.initialized (yN a).cls ∈ Tw := by
    have e : (yN a).cls = ownN (inf a).2.2.2.2.1 := k5
    rw [e]
    exact tw_of (ownL_ini _ (ownN_in k10)) rfl
  have hy : (yN a).cls ≠ "java/lang/invoke/MethodHandle" ∧ (yN a).cls ≠ "java/lang/invoke/VarHandle" := by
    have e : (yN a).cls = ownN (inf a).2.2.2.2.1 := k5
    rw [e]
    exact ownN_ok _ k10
  have hh : (inf a).2.2.2.2.2.2 = [] := by
    rcases k6 with z | z
    · exact z
    · omega
  exact run_V (own := ownN oc) (n := n) (exX_ok X) hx hb hml hown hts hK hA hV hci9 hKo ecl hM (cdW_code hh) (cdW_tw ha9) hl hst hse hin hy en hlen' e5 hRf hRl hsum hcc hd hsz hE hP hD hS
theorem sp_special (hC : Cx p R s m args meth c cc D cy A nL Ad M oc ini n0) (hY : Cy l R s c A nL Ad X d) (hn0 : n0 ≤ gN st) {ix ci o : Nat} {l9 : List Value} (ha9 : a < 302) (ha1 : a ≠ 299) (ha2 : a ≠ 300) (hcall : callT.contains (oc, ix, a) = true ∨ nestT.contains (oc, ix, a) = true) (hsta : (inf a).2.2.2.2.2.1 = false) (hnm : (inf a).1.name = "<init>") (hrt : (inf a).2.2.2.1 = none) (hcal : calb (inf a) (aP a) b 1 = true) (hci : ci = (inf a).2.2.2.2.1) (hci9 : ci < 10) (hck : ckC a b = true) (hrec : stk.drop (b / 4 % 16 - 1) = .ref o :: l9) (hKo : KK o = ci) (hd : decode cc pc = .ok (.invokespecial ix, 3)) (hw : nxb cs (pc + 3) = true) (hN : Nx p l e R s m args below meth c Q D cy A nL Ad M g res cs st cn) (hH : Hd p l e R s m args below meth c Q D cy A nL Ad M g res pc st)
    (h : aInv (am_call X aP d) g (fun cn e st => aHnd g M.1 pc ls cn M.2.2.1 e st) M.2.2.2 a b cs ls stk cn st = some res) : Gp p l e R s m args below meth c Q D clL cy A nL Ad pc ls stk cn st := by
  refine sp_aInv hC hY hn0 ha9 ha1 ha2 hcal hck hw hN hH h (fun As r rc hstk hlen hsum hM hcc ad jl H locs hE hsz hV hP hD hS => ?_)
  obtain ⟨hx, hb, hnl, hts, hK, hown, hini, hstr, hA, hAd, hRc, hRs⟩ := hC
  obtain ⟨hml, hEx, hRf, hRl, IH⟩ := hY
  obtain ⟨e1, ⟨n, en, e2⟩, e3, e4, e5⟩ := calb_use hcal
  obtain ⟨-, -, -, -, k5, k6, -, -, -, k10⟩ := ck_use (j := a) (by omega)
  rw [← e2] at hrec hlen
  obtain ⟨As', rfl, hlen'⟩ := rcv_use (ci := 0) hrec hstk hlen
  have hst : Cond.instanceMethod (yN a) ∈ Tw := by
    have := kd_tw ha9
    unfold kdW at this
    rw [hsta, if_neg (by decide)] at this
    exact this
  have ecl : (yN a).cls = cC ci := by rw [cC_ownN ci hci9, hci]; exact k5
  have hin : Cond.initialized (yN a).cls ∈ Tw := by
    have e : (yN a).cls = ownN (inf a).2.2.2.2.1 := k5
    rw [e]
    exact tw_of (ownL_ini _ (ownN_in k10)) rfl
  have hy : (yN a).cls ≠ "java/lang/invoke/MethodHandle" ∧ (yN a).cls ≠ "java/lang/invoke/VarHandle" := by
    have e : (yN a).cls = ownN (inf a).2.2.2.2.1 := k5
    rw [e]
    exact ownN_ok _ k10
  have hh : (inf a).2.2.2.2.2.2 = [] := by
    rcases k6 with z | z
    · exact z
    · omega
  rcases hcall with hcall | hcall
  · have hl := tw_of (call_in _ (List.mem_map.mpr ⟨(oc, ix, a), mem_of_contains hcall, rfl⟩)) (rfl : goodWord (callC (oc, ix, a)) = true)
    exact run_I (own := ownN oc) (n := n) (exX_ok X) hx hb hml hown hts hK hA hV hci9 hKo ecl hM (cdW_code hh) (cdW_tw ha9) hl hst hnm hrt hin hy en hlen' e5 hRf hRl hsum hcc hd hsz hE hP hD hS
  · have hl : va_Nw (.methodLinkNest (ownN oc) ix (yN a) "RoadHolidays") s := hE.2.2.2.2.2.2.2.1 _ (List.mem_append_right _ (List.mem_map.mpr ⟨(oc, ix, a), mem_of_contains hcall, rfl⟩))
    exact run_IN (own := ownN oc) (host := "RoadHolidays") (n := n) (exX_ok X) hx hb hml hown hts hK hA hV hci9 hKo ecl hM (cdW_code hh) (cdW_tw ha9) hl hst hnm hrt hin hy en hlen' e5 hRf hRl hsum hcc hd hsz hE hP hD hS
end SQ
