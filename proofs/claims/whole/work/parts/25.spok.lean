/-! ALL SPECIAL INSTRUCTIONS TOGETHER; what is thrown, and caught -/
def catN (x : Nat) : Nat := if x = 31 then 1 else 2
theorem catW_in : ∀ w ∈ ([Cond.classLink RL 13 (exN 2), Cond.classLink RL 31 (exN 1), Cond.classLink RX9 371 (exN 2), Cond.classLink RX9 378 (exN 1), Cond.initialized (exN 2), Cond.initialized (exN 1)] : List Cond), w ∈ lw_tbl := pick_in (ps := [539, 991, 558, 1004, 123, 129]) (by decide +kernel)
theorem aRec_use {stk : List Value} {n c : Nat} {x : aRes} {res : (Option Value ⊕ Nat) × aSt} (h : aRec stk n c x = some res) : ∃ (o : Nat) (l9 : List Value), stk.drop (n - 1) = .ref o :: l9 ∧ KK o = c ∧ x = some res := by
  unfold aRec at h
  split at h
  · rename_i o l9 he
    split at h
    · rename_i hk
      exact ⟨o, l9, he, hk, h⟩
    · cases h
  · cases h
/-- what outside words say of the kinds thrown -/
def Xw (s : State) : Prop := (∀ w ∈ exNw, va_Nw w s) ∧ va_Nc (exN 1) (exN 2) s ∧ va_Nc (exN 2) (exN 1) s
section SPO
variable {p : Program} {l : Launch} {e : Env} {R : Room} {s : State} {m : MethodId} {args : Array Value} {below : List Frame} {meth : Method} {c : Code} {Q : State → Prop} {cc : ByteArray} {D : va_G} {cy : Nat → ClassId} {A : Nat → Prop} {nL : Nat} {Ad : (Nat → Nat) → Prop}
variable {X : Nat × (Nat → Int32)} {M : aM} {res : (Option Value ⊕ Nat) × aSt} {oc n0 d : Nat} {ini : Bool} {rt : Option FieldType}
/-- past this row of the table -/
def Pas (s : State) (args : Array Value) (own : String) (pc k : Nat) (z : ExceptionTableEntry) : Prop := covers z pc = false ∨ (z.catchType ≠ 0 ∧ ∃ nm : String, (Cond.classLink own z.catchType nm).before args s = true ∧ va_Nc (exN k) nm s)
theorem hd_list {g : aK} {pc : Nat} {cs : List aE} {st : aSt} {cn : Nat × Nat} {hh : List (Nat × Nat × Nat × Nat)} (hC : Cx p R s m args meth c cc D cy A nL Ad M oc ini n0) (hwf : wfb cc oc ini M M.1 = true) (htab : c.exceptionTable.toList = tableOf hh) (hoc : hh = [] ∨ oc = 11) (hXw : Xw s) (hN : Nx p l e R s m args below meth c Q D cy A nL Ad M g res cs st cn)
    (hOut : ∀ (pc : Nat) (ls : aL) (r : List Value) (cn : Nat × Nat) (st' : aSt) (k : Nat), res = (.inr k, st') → cnOk M cn → (∀ z ∈ c.exceptionTable.toList, Pas s args (ownN oc) pc k z) → Gx p l e R s m args below meth c Q D cy A nL Ad pc ls r cn st' k) :
    ∀ (hs xs : List (Nat × Nat × Nat × Nat)) (pre : List ExceptionTableEntry) (ls : aL) (r : List Value) (cn' : Nat × Nat) (st' : aSt) (k : Nat), hdB M hs xs = true → tableOf hh = pre ++ tableOf xs → (∀ z ∈ pre, Pas s args (ownN oc) pc k z) → aHnd g M.1 pc ls cn' hs k st' = some res → gN st ≤ gN st' → cnOk M cn' → (k = 1 ∨ k = 2) → Gx p l e R s m args below meth c Q D cy A nL Ad pc ls r cn' st' k
  | [], [], pre, ls, r, cn', st', k, _, ht, hp, h, hg, hcn, hk2 => by
    have h : rX k st' = some res := h
    refine hOut pc ls r cn' st' k (Option.some.inj h).symm hcn (fun z hz => hp z ?_)
    rw [htab, ht] at hz
    simpa [tableOf] using hz
  | [], x :: xs, pre, ls, r, cn', st', k, hb, ht, hp, h, hg, hcn, hk2 => by cases hb
  | y :: hs, [], pre, ls, r, cn', st', k, hb, ht, hp, h, hg, hcn, hk2 => by cases hb
  | (f, t, i, k9) :: hs, (f', t', hp9, ci) :: xs, pre, ls, r, cn', st', k, hb, ht, hp, h, hg, hcn, hk2 => by
    obtain ⟨hb1, hb2⟩ := and2 (show (hdE M (f, t, i, k9) (f', t', hp9, ci) && hdB M hs xs) = true from hb)
    unfold hdE at hb1
    obtain ⟨hb1, hrow⟩ := and2 hb1
    obtain ⟨hb1, hki⟩ := and2 hb1
    obtain ⟨hf, htt⟩ := and2 hb1
    replace hf : f = f' := of_decide_eq_true hf
    replace htt : t = t' := of_decide_eq_true htt
    subst hf; subst htt
    replace hki : (k9 = 1 ∧ ci = 31) ∨ (k9 = 2 ∧ ci = 13) := by simpa using hki
    have ht' : tableOf hh = (pre ++ [⟨f, t, hp9, ci⟩]) ++ tableOf xs := by rw [ht]; simp [tableOf]
    have hoc : oc = 11 := by
      rcases hoc with z | z
      · rw [z] at ht
        exact absurd (congrArg List.length ht) (by simp [tableOf])
      · exact z
    have hlink : (Cond.classLink (ownN oc) ci (exN k9)).before args s = true := by
      rw [hoc]
      rcases hki with ⟨rfl, rfl⟩ | ⟨rfl, rfl⟩
      · exact hC.2.2.2.1 _ (tw_of (catW_in _ (List.mem_of_getElem? (i := 1) rfl)) rfl)
      · exact hC.2.2.2.1 _ (tw_of (catW_in _ (List.mem_of_getElem? (i := 0) rfl)) rfl)
    have go : Pas s args (ownN oc) pc k ⟨f, t, hp9, ci⟩ → aHnd g M.1 pc ls cn' hs k st' = some res → Gx p l e R s m args below meth c Q D cy A nL Ad pc ls r cn' st' k := fun hpz hh9 =>
      hd_list hC hwf htab (Or.inr hoc) hXw hN hOut hs xs (pre ++ [⟨f, t, hp9, ci⟩]) ls r cn' st' k hb2 ht' (fun z hz => by
        rcases List.mem_append.mp hz with z1 | z1
        · exact hp z z1
        · rw [List.mem_singleton.mp z1]; exact hpz) hh9 hg hcn hk2
    have hci0 : ci ≠ 0 := by omega
    rw [aHnd] at h
    split at h
    · rename_i hcov
      split at h
      · rename_i hek
        subst hek
        cases hdr : M.1.drop i with
        | nil => rw [hdr] at hrow; cases hrow
        | cons e9 cs9 =>
        obtain ⟨q, cut, ins, a, b⟩ := e9
        rw [hdr] at hrow h
        obtain ⟨hrow, hins⟩ := and2 hrow
        obtain ⟨hq, haL⟩ := and2 hrow
        replace hq : q = hp9 := of_decide_eq_true hq
        replace haL : a < M.2.1 := of_decide_eq_true haL
        subst hq
        have h : g cs9 (lno (lclr ls a) a) [] cn' st' = some res := h
        have hsuf : ∃ i, cs9 = M.1.drop i := ⟨i + 1, by rw [← List.drop_drop, hdr]; rfl⟩
        have hgo : ∀ q', nxb cs9 q' = true → Gp p l e R s m args below meth c Q D clL cy A nL Ad q' (lno (lclr ls a) a) [] cn' st' := fun q' hq' => hN _ _ _ _ _ _ h (Or.inr hsuf) ⟨hg, fun _ => hcn⟩ hq'
        obtain ⟨hd, -⟩ := wf_at M.1 i q a b cut ins cs9 hwf hdr
        have hcast : (Cond.castable (exN k) (exN k)).before args s = true := by
          have hm : Cond.castable (exN k) (exN k) ∈ exNw := by
            rcases hki with ⟨rfl, -⟩ | ⟨rfl, -⟩
            · exact List.mem_append_left _ (List.mem_append_left _ (List.mem_cons_self))
            · exact List.mem_append_left _ (List.mem_append_left _ (List.mem_cons_of_mem _ List.mem_cons_self))
          exact va_Nw.use rfl (hXw.1 _ hm)
        have hcv : covers ⟨f, t, q, ci⟩ pc = true := by
          simp only [covers, Bool.and_eq_true, decide_eq_true_eq]
          exact hcov
        have hsp : c.exceptionTable.toList = pre ++ ⟨f, t, q, ci⟩ :: tableOf xs := by rw [htab, ht]; simp [tableOf]
        cases ins <;> (try (replace hins : false = true := hins; cases hins))
        case astore j =>
          obtain ⟨hj, hnx⟩ := and2 hins
          replace hj : j = a := of_decide_eq_true hj
          subst hj
          exact si_catch (name := exN k) hC.1 hC.2.1 hC.2.2.2.2.2.1 pre ⟨f, t, q, ci⟩ (tableOf xs) hsp hp hcv hci0 hlink hcast (by rw [hC.2.2.1]; exact haL) (of_decide_eq_true hd) (hgo _ hnx)
        case astore_n j =>
          obtain ⟨hj, hnx⟩ := and2 hins
          replace hj : j.val = a := of_decide_eq_true hj
          exact si_catch_n (name := exN k) hC.1 hC.2.1 hC.2.2.2.2.2.1 pre ⟨f, t, q, ci⟩ (tableOf xs) hsp hp hcv hci0 hlink hcast (by rw [hC.2.2.1]; exact haL) (of_decide_eq_true hd) hj (hgo _ hnx)
      · rename_i hek
        refine go (Or.inr ⟨hci0, exN k9, hlink, ?_⟩) h
        rcases hki with ⟨rfl, -⟩ | ⟨rfl, -⟩
        · rcases hk2 with rfl | rfl
          · exact absurd rfl hek
          · exact hXw.2.2
        · rcases hk2 with rfl | rfl
          · exact hXw.2.1
          · exact absurd rfl hek
    · rename_i hcov
      refine go (Or.inl ?_) h
      simp only [covers, Bool.and_eq_false_iff, decide_eq_false_iff_not]
      by_cases z : f ≤ pc
      · exact Or.inr (fun z2 => hcov ⟨z, z2⟩)
      · exact Or.inl z
theorem mem_drop {L : List aE} {i : Nat} {e : aE} {cs : List aE} (h : L.drop i = e :: cs) : e ∈ L := List.mem_of_mem_drop (by rw [h]; exact List.mem_cons_self)
theorem drop_next {L : List aE} {i : Nat} {e : aE} {cs : List aE} (h : L.drop i = e :: cs) : L.drop (i + 1) = cs := by
  rw [← List.drop_drop, h]
  rfl
set_option maxHeartbeats 2000000 in
theorem spOk_of (hC : Cx p R s m args meth c cc D cy A nL Ad M oc ini n0) (hY : Cy l R s c A nL Ad X d) (hwf : wfb cc oc ini M M.1 = true) (hck : ∀ e ∈ M.1, ckE rt e = true) (hHd : ∀ (g : aK) (pc : Nat) (cs : List aE) (st : aSt) (cn : Nat × Nat), Nx p l e R s m args below meth c Q D cy A nL Ad M g res cs st cn → Hd p l e R s m args below meth c Q D cy A nL Ad M g res pc st)
    (hI : ∀ (pc : Nat) (x : Int32) (ls : aL) (cn : Nat × Nat) (st : aSt), decode cc pc = .ok (.ireturn, 1) → res = (.inl (some (.int x)), st) → ((rt = some .boolean ∧ (x = 0 ∨ x = 1)) ∨ rt = some .int) → cnOk M cn → Gp p l e R s m args below meth c Q D clL cy A nL Ad pc ls [.int x] cn st)
    (hJ : ∀ (pc : Nat) (x : Int64) (ls : aL) (cn : Nat × Nat) (st : aSt), decode cc pc = .ok (.lreturn, 1) → res = (.inl (some (.long x)), st) → rt = some .long → cnOk M cn → Gp p l e R s m args below meth c Q D clL cy A nL Ad pc ls [.long x] cn st)
    (hV9 : ∀ (pc : Nat) (ls : aL) (cn : Nat × Nat) (st : aSt), decode cc pc = .ok (.return_, 1) → res = (.inl none, st) → rt = none → cnOk M cn → Gp p l e R s m args below meth c Q D clL cy A nL Ad pc ls [] cn st)
    (hXn : ∀ (pc k ik is ic a2 : Nat) (ls : aL) (cn : Nat × Nat) (st : aSt), decode cc pc = .ok (.new ik, 3) → decode cc (pc + 3) = .ok (.dup, 1) → decode cc (pc + 4) = .ok (.ldc_w is, 3) → decode cc (pc + 7) = .ok (.invokespecial ic, 3) → decode cc (pc + 10) = .ok (.athrow, 1) → (k = 1 ∧ oc = 8 ∧ ik = 378 ∧ is = 380 ∧ ic = 382 ∧ a2 = 17) ∨ (k = 2 ∧ oc = 8 ∧ ik = 371 ∧ is = 373 ∧ ic = 375 ∧ a2 = 16) → strT.contains (oc, is, a2) = true → res = (.inr k, st) → cn.1 + 1 ≤ M.2.2.2.1 → cn.2 + 6 ≤ M.2.2.2.2 → M.2.2.1 = [] → Gp p l e R s m args below meth c Q D clL cy A nL Ad pc ls [] cn st) :
    SpOk p l e R s m args below meth c Q cc D cy A nL Ad X (am_call X aP d) M res oc ini n0 := by
  intro g pc a b i cut ins cs ls stk cn st hi hsp hn hcn hN h
  obtain ⟨hd, hw⟩ := wf_at M.1 i pc a b cut ins cs hwf hi
  have hck1 : ckE rt (pc, cut, ins, a, b) = true := hck _ (mem_drop hi)
  have hH : Hd p l e R s m args below meth c Q D cy A nL Ad M g res pc st := hHd g pc cs st cn hN
  rcases hsp with hsp | ⟨rfl, x, r, rfl⟩
  rotate_left
  · exact sp_sld hC hY.2.1 (of_decide_eq_true hd) hw hN h
  cases ins <;> (try (replace hsp : false = true := hsp; cases hsp))
  case arraylength => exact sp_alen hC hY.2.1 (of_decide_eq_true hd) hw hN h
  case ireturn =>
    replace h : (match (generalizing := false) stk with
      | [.int x] => if b = 1 then (match bok x with
        | true => rI x st
        | false => none) else rI x st
      | _ => none) = some res := h
    split at h
    · rename_i x
      have hck2 : ((decide (b = 1) && decide (rt = some .boolean)) || (!decide (b = 1) && decide (rt = some .int))) = true := hck1
      simp only [Bool.or_eq_true, Bool.and_eq_true, Bool.not_eq_true', decide_eq_true_eq, decide_eq_false_iff_not] at hck2
      split at h
      · rename_i hb1
        split at h
        · rename_i hbk
          unfold bok at hbk
          simp only [Bool.or_eq_true, decide_eq_true_eq] at hbk
          refine hI pc x ls cn st (of_decide_eq_true hd) (Option.some.inj h).symm (Or.inl ⟨?_, hbk⟩) hcn
          rcases hck2 with z | z
          · exact z.2
          · exact absurd hb1 z.1
        · cases h
      · rename_i hb1
        refine hI pc x ls cn st (of_decide_eq_true hd) (Option.some.inj h).symm (Or.inr ?_) hcn
        rcases hck2 with z | z
        · exact absurd z.1 hb1
        · exact z.2
    · cases h
  case lreturn =>
    replace h : (match (generalizing := false) stk with
      | [.long x] => rJ x st
      | _ => none) = some res := h
    split at h
    · exact hJ pc _ ls cn st (of_decide_eq_true hd) (Option.some.inj h).symm (of_decide_eq_true hck1) hcn
    · cases h
  case return_ =>
    replace h : (match (generalizing := false) stk with
      | [] => rV st
      | _ => none) = some res := h
    split at h
    · exact hV9 pc ls cn st (of_decide_eq_true hd) (Option.some.inj h).symm (of_decide_eq_true hck1) hcn
    · cases h
  case tableswitch dd lo hi9 offs => exact sp_tsw hC hd (of_decide_eq_true hck1) hN h
  case multianewarray ix n9 =>
    obtain ⟨h1, h2⟩ := and2 hw
    exact sp_mna hC hY.2.1 hn (of_decide_eq_true h1) (of_decide_eq_true hd) h2 hN h
  case invokestatic ix =>
    obtain ⟨h1, h2⟩ := and2 hw
    replace h : (if a = 1003 then aCopy g cs ls stk cn st else aInv (am_call X aP d) g (fun cn e st => aHnd g M.1 pc ls cn M.2.2.1 e st) M.2.2.2 a b cs ls stk cn st) = some res := h
    by_cases h3 : a = 1003
    · rw [if_pos h3] at h h1
      exact sp_copy hC hY.1 hY.2.2.1 hY.2.2.2.1 h1 (of_decide_eq_true hd) h2 hN h
    · rw [if_neg h3] at h h1
      obtain ⟨h1, h4⟩ := and2 h1
      obtain ⟨h1, h5⟩ := and2 h1
      obtain ⟨h1, h6⟩ := and2 h1
      have h1 : a < 302 := of_decide_eq_true h1
      by_cases z1 : a = 299
      · exact sp_math hC hY (Or.inl z1) h6 h4 hcn (of_decide_eq_true hd) h2 hN h
      · by_cases z2 : a = 300
        · exact sp_math hC hY (Or.inr z2) h6 h4 hcn (of_decide_eq_true hd) h2 hN h
        · exact sp_static hC hY hn h1 z1 z2 h6 h5 h4 hck1 (of_decide_eq_true hd) h2 hN hH h
  case invokevirtual ix =>
    obtain ⟨h1, h2⟩ := and2 hw
    obtain ⟨o, l9, hr1, hr2, h⟩ := aRec_use (show aRec stk (b / 4 % 16) (b / 64 % 64) (aInv (am_call X aP d) g (fun cn e st => aHnd g M.1 pc ls cn M.2.2.1 e st) M.2.2.2 a b cs ls stk cn st) = some res from h)
    by_cases h3 : a = 1001
    · rw [if_pos h3] at h1
      subst h3
      exact sp_slength hC hY hn (of_decide_eq_true h1) hcn (of_decide_eq_true hd) h2 hN h
    · rw [if_neg h3] at h1
      by_cases h4 : a = 1002
      · rw [if_pos h4] at h1
        subst h4
        exact sp_scharAt hC hY hn (of_decide_eq_true h1) hcn (of_decide_eq_true hd) h2 hN h
      · rw [if_neg h4] at h1
        simp only [Bool.and_eq_true, Bool.not_eq_true', decide_eq_true_eq] at h1
        obtain ⟨⟨⟨⟨⟨⟨k1, k2⟩, k3⟩, k4⟩, k5⟩, k6⟩, k7⟩ := h1
        have z1 : a ≠ 299 := fun z => by subst z; exact absurd k4 (by decide +kernel)
        have z2 : a ≠ 300 := fun z => by subst z; exact absurd k4 (by decide +kernel)
        exact sp_virtual (ci := b / 64 % 64) hC hY hn k1 z1 z2 k2 k3 k4 k5 k6 (by omega) hck1 hr1 hr2 (of_decide_eq_true hd) h2 hN hH h
  case invokespecial ix =>
    obtain ⟨h1, h2⟩ := and2 hw
    replace h : (if a = 1000 then (match (generalizing := false) stk with
      | [.ref _] => g cs ls [] cn st
      | _ => none) else aRec stk (b / 4 % 16) (b / 64 % 64) (aInv (am_call X aP d) g (fun cn e st => aHnd g M.1 pc ls cn M.2.2.1 e st) M.2.2.2 a b cs ls stk cn st)) = some res := h
    by_cases h3 : a = 1000
    · rw [if_pos h3] at h h1
      exact sp_obj hC hY.1 hY.2.2.1 hY.2.2.2.1 h1 (of_decide_eq_true hd) h2 hN h
    · rw [if_neg h3] at h h1
      obtain ⟨o, l9, hr1, hr2, h⟩ := aRec_use h
      by_cases h4 : a = 1999
      · exfalso
        obtain ⟨rc, hrc, -⟩ := aInv_use h
        rw [h4] at hrc
        cases d with
        | zero => cases hrc
        | succ d => have hrc : (none : aRes) = some rc := hrc; cases hrc
      · rw [if_neg h4] at h1
        simp only [Bool.and_eq_true, Bool.or_eq_true, Bool.not_eq_true', decide_eq_true_eq] at h1
        obtain ⟨⟨⟨⟨⟨⟨⟨k1, k2⟩, k3⟩, k4⟩, k5⟩, k6⟩, k7⟩, k8⟩ := h1
        have z1 : a ≠ 299 := fun z => by subst z; exact absurd k3 (by decide +kernel)
        have z2 : a ≠ 300 := fun z => by subst z; exact absurd k3 (by decide +kernel)
        exact sp_special (ci := b / 64 % 64) hC hY hn k1 z1 z2 k2 k3 k4 k5 k6 k7 (by omega) hck1 hr1 hr2 (of_decide_eq_true hd) h2 hN hH h
  case new ix =>
    by_cases hb : 1000 ≤ b
    · have hw : (if 1000 ≤ b then (match (generalizing := false) cs with
        | (q1, _, .dup, _, _) :: (q2, _, .ldc_w is, a2, _) :: (q3, _, .invokespecial ic, _, _) :: (q4, _, .athrow, _, _) :: _ => decide (q1 = pc + 3 ∧ q2 = pc + 4 ∧ q3 = pc + 7 ∧ q4 = pc + 10) && decide ((b = 1001 ∧ oc = 8 ∧ ix = 378 ∧ is = 380 ∧ ic = 382 ∧ a2 = 17) ∨ (b = 1002 ∧ oc = 8 ∧ ix = 371 ∧ is = 373 ∧ ic = 375 ∧ a2 = 16))
        | _ => false) else _) = true := hw
      rw [if_pos hb] at hw
      replace h : (if 1000 ≤ b then (if cn.1 + 1 ≤ M.2.2.2.1 ∧ cn.2 + 6 ≤ M.2.2.2.2 ∧ stk = [] ∧ M.2.2.1 = [] then rX (b - 1000) st else none) else _) = some res := h
      rw [if_pos hb] at h
      split at h
      · rename_i h9
        obtain ⟨n1, n2, rfl, n4⟩ := h9
        split at hw
        · rename_i q1 c1 a1 b1 q2 c2 is a2 b2 q3 c3 ic a3 b3 q4 c4 a4 b4 tl h7
          obtain ⟨w1, w2⟩ := and2 hw
          obtain ⟨rfl, rfl, rfl, rfl⟩ := of_decide_eq_true w1
          replace w2 := of_decide_eq_true w2
          have i1 := drop_next hi
          have i2 := drop_next i1
          have i3 := drop_next i2
          have i4 := drop_next i3
          obtain ⟨d1, -⟩ := wf_at M.1 _ _ _ _ _ _ _ hwf i1
          obtain ⟨d2, o2⟩ := wf_at M.1 _ _ _ _ _ _ _ hwf i2
          obtain ⟨d3, -⟩ := wf_at M.1 _ _ _ _ _ _ _ hwf i3
          obtain ⟨d4, -⟩ := wf_at M.1 _ _ _ _ _ _ _ hwf i4
          refine hXn pc (b - 1000) ix is ic a2 ls cn st (of_decide_eq_true hd) (of_decide_eq_true d1) (of_decide_eq_true d2) (of_decide_eq_true d3) (of_decide_eq_true d4) ?_ ?_ (Option.some.inj h).symm n1 n2 n4
          · rcases w2 with ⟨rfl, w2⟩ | ⟨rfl, w2⟩
            · exact Or.inl ⟨rfl, w2⟩
            · exact Or.inr ⟨rfl, w2⟩
          · rcases w2 with ⟨-, rfl, -, rfl, -, rfl⟩ | ⟨-, rfl, -, rfl, -, rfl⟩ <;> decide +kernel
        · cases hw
      · cases h
    · obtain ⟨hx, hb9, hnl, hts, hK, hown, hini, hstr, hA, hAd, hRc, hRs⟩ := hC
      exact ss_new hx hb9 hts hK hown hA (fun ad ad' z1 z2 => hAd _ _ _ hn z1 z2) hRc hRs hb (of_decide_eq_true hd) hw hN h
end SPO
