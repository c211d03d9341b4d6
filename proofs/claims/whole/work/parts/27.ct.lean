/-! THE CONTRACTS: every method does in the great machine what the small one says -/
theorem sl_len : ∀ vs : List Value, (lg_sl vs).length = (vs.map fun v => v.category).sum
  | [] => rfl
  | v :: vs => by
    have ih := sl_len vs
    unfold lg_sl at ih ⊢
    rw [List.flatMap_cons, List.length_append, ih, List.map_cons, List.sum_cons]
    congr 1
    cases v <;> rfl
theorem held_in {ad : Nat → Nat} : ∀ (As : List Value) (hd : As.all noD = true) (n i : Nat) (q : Nat × Value), q ∈ held ad i (aIn As n) → q ∈ lv_args i (As.map (trv ad))
  | [], _, n, i, q, h => by
    exfalso
    have : ∀ (n i : Nat), held ad i (List.replicate n none) = [] := by
      intro n
      induction n with
      | zero => intro i; rfl
      | succ n ih => intro i; rw [List.replicate_succ, held]; exact ih _
    rw [aIn, this] at h
    cases h
  | v :: l, hd, n, i, q, h => by
    have hd : noD v = true ∧ l.all noD = true := by simpa using hd
    have key : ∀ (t : aL) (i2 : Nat), (∀ q, q ∈ held ad (i + 1) t → q ∈ lv_args i2 (l.map (trv ad))) → i2 = (if (trv ad v).category = 2 then i + 2 else i + 1) → q ∈ held ad i (some v :: t) → q ∈ lv_args i ((v :: l).map (trv ad)) := by
      intro t i2 ht hi2 h
      rw [held] at h
      rw [List.map_cons, lv_args, ← hi2]
      rcases List.mem_cons.mp h with z | z
      · exact List.mem_cons.mpr (Or.inl z)
      · exact List.mem_cons.mpr (Or.inr (ht q z))
    cases v <;> first
      | exact key _ _ (fun q h => held_in l hd.2 _ _ q h) rfl h
      | exact key (none :: aIn l (n - 2)) (i + 2) (fun q h => held_in l hd.2 (n - 2) (i + 2) q h) rfl h
      | exact absurd (show false = true from hd.1) (by decide)
theorem trv_sum (ad : Nat → Nat) (As : List Value) : ((As.map (trv ad)).map fun v => v.category).sum = (As.map fun v => v.category).sum := by
  rw [List.map_map]
  exact congrArg List.sum (List.map_congr_left (fun v _ => trv_cat ad v))
theorem LH_entry {ad : Nat → Nat} {As : List Value} {n : Nat} (h : (As.map fun v => v.category).sum ≤ n) (hd : As.all noD = true) : LH ((lg_sl (As.map (trv ad)) ++ List.replicate (n - (lg_sl (As.map (trv ad))).length) Slot.unset).toArray) n ad (aIn As n) := by
  have hl := lv_entry (As.map (trv ad)) (n := n) (by rw [sl_len, trv_sum]; exact h)
  exact ⟨hl.1, hl.2.1, fun q hq => hl.2.2 q (held_in As hd n 0 q hq)⟩
section SIT
variable {p : Program} {l : Launch} {e : Env} {R : Room} {s : State} {m : MethodId} {args : Array Value} {below : List Frame} {meth : Method} {c : Code} {cc : ByteArray} {D : va_G} {cy : Nat → ClassId} {A : Nat → Prop} {nL : Nat} {Ts : List Cond} {own : String}
variable {pc : Nat} {ls : aL} {r : List Value} {cn : Nat × Nat} {st : aSt} {n0 mc ms : Nat} {ad0 : Nat → Nat} {Q : State → Prop} {XC : String → State → State → Prop}
/-- throw new E("text"), from 'new' on -/
theorem si_throwI {k : Nat} {Qc : Array Value → State → Outcome → State → Prop} (hx : p.tables.exec = Jvm.exec) (hb : c.code = cc) (hml : c.maxLocals = nL) (hl : l.stackTraces = false) {text Y9 : String} {names : List String} {ik is ic q idx : Nat} {by9 : ByteArray} (b0 : decode by9 0 = .ok (.aload_n 0, 1)) (b1 : decode by9 1 = .ok (.aload_n 1, 1)) (b2 : decode by9 2 = .ok (.invokespecial idx, 3)) (b5 : decode by9 5 = .ok (.return_, 1)) (hown : s.vm.findClass own = some m.cls) (hcls : Bundle.fit (exN k) = true) (hY9 : Bundle.fit Y9 = true) (hnames : ∀ n ∈ names, Bundle.fit n = true)
    (hk : (Cond.classLink own ik (exN k)).before args s = true) (hini : (Cond.initialized (exN k)).before args s = true) (hstr : ∀ ad, AdX n0 ad0 ad → vk_R own is text (ad q) s) (hat : ∀ w ∈ vx_atI own ic (exN k) idx by9 Y9 names, w.before args s = true)
    (hgood : ∀ w ∈ Cond.classLink own ik (exN k) :: Cond.initialized (exN k) :: vx_atI own ic (exN k) idx by9 Y9 names, vx_ot w = true)
    (hU : vx_Zq Bundle.tN "UNASSIGNED_STACK" Bundle.steD A s s.heap) (hN : vx_Zq Bundle.tN "SUPPRESSED_SENTINEL" Bundle.listD A s s.heap)
    (d0 : decode cc pc = .ok (.new ik, 3)) (d3 : decode cc (pc + 3) = .ok (.dup, 1)) (d4 : decode cc (pc + 4) = .ok (.ldc_w is, 3)) (d7 : decode cc (pc + 7) = .ok (.invokespecial ic, 3)) (d10 : decode cc (pc + 10) = .ok (.athrow, 1))
    (hout : ∀ x ∈ c.exceptionTable.toList, covers x (pc + 10) = false) (hRf : (Y9 :: names).length + 3 < R.frames) (hRl : 13 * ((Y9 :: names).length + 1) + 43 ≤ R.locals) (hRc : cn.1 + 1 ≤ R.cells) (hRs : cn.2 + 6 ≤ R.slots) (hlocks : meth.locks = false) (h1 : cn.1 + 1 ≤ mc) (h2 : cn.2 + 6 ≤ ms) (hK : va_K D clL (tysL cy) s) :
    Gp p l e R s m args below meth c (vx_MQ below Qc (cX D cy A n0 ad0 (.inr k, st)) args s mc ms A) D clL cy A nL (AdX n0 ad0) pc ls [] cn st := by
  intro ad jl H locs ha hL hV hP hD hS
  refine vx_throwI hx hb hl b0 b1 b2 b5 hown hcls hY9 hnames hk hini (hstr ad ha) hat hgood hU hN hS (by rw [hml]; exact hL.1) d0 d3 d4 d7 d10 hout hRf (by simpa using hRl) hRc hRs hlocks (fun t hvm hz hq => ?_) hS.2.2 h1 h2
  refine ⟨⟨k, ad, rfl, rfl, ha, hP.kept (fun k9 x hx9 => hq x.1 ((hP k9 x hx9).lt)), hD, va_K.moved hvm hK⟩, Nat.le_trans hS.1 hz, fun q9 hq1 hq2 => ?_⟩
  rw [hq q9 (Nat.lt_of_lt_of_le hq1 hS.1)]
  exact hS.2.1 q9 hq1 hq2
end SIT
section CTB
variable {p : Program} {l : Launch} {e : Env} {R : Room} {s s₁ : State} {m : MethodId} {args : Array Value} {below : List Frame} {meth : Method} {c : Code} {D : va_G} {cy : Nat → ClassId} {X : Nat × (Nat → Int32)} {d j : Nat}
theorem thr_in2 : ∀ w ∈ (vx_atS RX9 375 "java/lang/IllegalArgumentException" ["java/lang/RuntimeException", "java/lang/Exception"]).filter goodWord, w ∈ lw_tbl := pick_in (ps := [120, 580, 589, 592, 595, 597, 581, 582, 137, 138, 583, 588, 593, 613, 570, 614, 572, 615, 574, 584, 586, 576, 609, 610, 612, 576, 600, 601, 602, 603, 603, 604, 605, 606, 606, 607, 608, 609, 599, 559, 567, 568, 569, 571, 573, 575, 611, 578, 577]) (by decide +kernel)
theorem thr_in1 : ∀ w ∈ (vx_atI RX9 382 "java/util/NoSuchElementException" 13 ⟨#[0x2a, 0x2b, 0xb7, 0x00, 0x0d, 0xb1]⟩ "java/lang/RuntimeException" ["java/lang/Exception"]).filter goodWord, w ∈ lw_tbl := pick_in (ps := [120, 580, 589, 592, 595, 597, 581, 582, 137, 138, 583, 588, 593, 613, 570, 614, 572, 615, 574, 584, 586, 576, 609, 610, 612, 576, 1015, 1016, 1017, 603, 603, 604, 605, 606, 606, 607, 608, 609, 1014, 1005, 1007, 591, 1008, 1009, 1010, 1011, 611, 578, 1012]) (by decide +kernel)
theorem exL_3 : (vx_atI RX9 382 "java/util/NoSuchElementException" 13 ⟨#[0x2a, 0x2b, 0xb7, 0x00, 0x0d, 0xb1]⟩ "java/lang/RuntimeException" ["java/lang/Exception"]).filter (fun w => !goodWord w) = exDe.map (fun y => Cond.declares y) ++ [.castable "java/util/NoSuchElementException" "java/util/NoSuchElementException"] := by decide +kernel
/-- one body: from its entry, out of what it calls -/
theorem body_ok (W9 : WFall) (hl : l.stackTraces = false) (IH : ∀ j, j < 302 → j ≠ 299 → j ≠ 300 → Ct (exX X) X l d j) (hj : j < 302) {hh : List (Nat × Nat × Nat × Nat)} (hhh : hh = (inf j).2.2.2.2.2.2) {As : List Value} {st : aSt} {res : (Option Value ⊕ Nat) × aSt} (h : am_run X (am_call X aP d) (aP j) 10000000 (aP j).1 (aIn As (aP j).2.1) [] (0, 0) st = some res) (hsum : (As.map fun v => v.category).sum ≤ (aP j).2.1) (hnd : As.all noD = true) (hcl : Cl st) (hrefs : ∀ o, Value.ref o ∈ As → okr (gN st) o)
    {ad : Nat → Nat} (hx : p.tables.exec = Jvm.exec) (hb : c.code = (inf j).2.1) (hr : meth.sig.returnType = (inf j).2.2.2.1) (hml : c.maxLocals = (inf j).2.2.1) (hts : ∀ w ∈ Tw, w.before args s = true) (hown : s.vm.findClass (yN j).cls = some m.cls) (hlocks : meth.locks = false) (hname : meth.name = (yN j).name) (htab : c.exceptionTable.toList = tableOf hh) (hP : va_P D clL (wsOf cy ad st) s.heap) (hK : va_K D clL (tysL cy) s) (hD0 : va_D (fun _ => True) (wsOf cy ad st)) (hE : exX X ad (va_A (wsOf cy ad st) s.heap.size) s s.heap) :
    W p l e (rmN (d + 1) (aP j).2.2.2) s m args below meth c s.heap [] 0 0 (vx_MQ below (cQ D cy (va_A (wsOf cy ad st) s.heap.size) (gN st) ad res) (cX D cy (va_A (wsOf cy ad st) s.heap.size) (gN st) ad res) args s (aP j).2.2.2.1 (aP j).2.2.2.2 (va_A (wsOf cy ad st) s.heap.size)) (entryFrame m (As.map (trv ad)).toArray (inf j).2.2.1) := by
  obtain ⟨k1, k2, k3, k4, k5, k6, k7, k8, k9, k10⟩ := ck_use (j := j) (by omega)
  have hD := hD0.self (sz := s.heap.size)
  generalize hAe : va_A (wsOf cy ad st) s.heap.size = A at hD hE ⊢
  have hA : ∀ q : Nat, s.heap.size ≤ q → A q := fun q h => by rw [← hAe]; exact Or.inr h
  have hown' : s.vm.findClass (ownN (inf j).2.2.2.2.1) = some m.cls := by rw [← k5]; exact hown
  have hEx : ∀ ad', AdX (gN st) ad ad' → exX X ad' A s s.heap := fun ad' hx9 => (exX_ok X).2.2.2.1 _ _ _ _ _ _ hx9 hE
  have hXw : Xw s := ⟨hE.2.2.2.2.2.2.2.1, hE.2.2.2.2.2.2.2.2.1, hE.2.2.2.2.2.2.2.2.2.1⟩
  have hC : Cx p (rmN (d + 1) (aP j).2.2.2) s m args meth c (inf j).2.1 D cy A (inf j).2.2.1 (AdX (gN st) ad) (aP j) (inf j).2.2.2.2.1 (iniJ j) (gN st) := by
    refine ⟨hx, hb, k4.symm, hts, hK, hown', fun hi => ⟨by rw [hname]; exact (k9 hi).1, (k9 hi).2⟩, fun t ht => ?_, hA, fun n a1 a2 h1 h2 h3 => h3.trans h2 h1, Nat.le_refl _, Nat.le_refl _⟩
    obtain ⟨tx, htx⟩ := hE.2.1 t ht
    exact ⟨tx, fun ad' h' => by rw [h' _ (Or.inr (by omega))]; exact htx⟩
  have hY : Cy l (rmN (d + 1) (aP j).2.2.2) s c A (inf j).2.2.1 (AdX (gN st) ad) X d := ⟨hml, hEx, by show d + 11 ≤ d + 1 + 10; omega, by show 100 * d + 400 ≤ 100 * (d + 1) + 300; omega, IH⟩
  have hoc : hh = [] ∨ (inf j).2.2.2.2.1 = 11 := by rw [hhh]; exact k6
  have hOut : ∀ (pc : Nat) (ls : aL) (r : List Value) (cn : Nat × Nat) (st' : aSt) (k : Nat), res = (.inr k, st') → cnOk (aP j) cn → (∀ z ∈ c.exceptionTable.toList, Pas s args (ownN (inf j).2.2.2.2.1) pc k z) → Gx p l e (rmN (d + 1) (aP j).2.2.2) s m args below meth c (vx_MQ below (cQ D cy A (gN st) ad res) (cX D cy A (gN st) ad res) args s (aP j).2.2.2.1 (aP j).2.2.2.2 A) D cy A (inf j).2.2.1 (AdX (gN st) ad) pc ls r cn st' k := by
    intro pc ls r cn st' k hres hcn hpas
    subst hres
    intro ad' jl H locs q9 ce ha hL hV hP hD hS hc hv hcl
    exact vx_outP (E := exN k) hown' hlocks hpas hc hv hcl (fun t ht hvm => ⟨⟨k, ad', rfl, rfl, ha, by rw [ht]; exact hP, hD, va_K.moved hvm hK⟩, hS.F ht⟩) hS.2.2 hcn.1 hcn.2
  have hSp := spOk_of (below := below) (e := e) (p := p) (Q := vx_MQ below (cQ D cy A (gN st) ad res) (cX D cy A (gN st) ad res) args s (aP j).2.2.2.1 (aP j).2.2.2.2 A) (res := res) (rt := (inf j).2.2.2.1) hC hY (W9 j (by omega)) k1 (fun g pc cs st0 cn hN ls' r' cn' st' k' z1 z2 z3 z4 => hd_list hC (W9 j (by omega)) htab hoc hXw hN hOut (aP j).2.2.1 hh [] ls' r' cn' st' k' (by rw [hhh]; exact k2) rfl (fun z hz => by cases hz) z1 z2 z3 z4)
    (fun pc x ls cn st' hd hres hrt hcn => by
      subst hres
      rcases hrt with ⟨hrt, hx01⟩ | hrt
      · exact si_ireturn (ty := .boolean) hx hb (by rw [hr, hrt]) (by rcases hx01 with rfl | rfl <;> rfl) hlocks hd hcn.1 hcn.2 hK
      · exact si_ireturn (ty := .int) hx hb (by rw [hr, hrt]) rfl hlocks hd hcn.1 hcn.2 hK)
    (fun pc x ls cn st' hd hres hrt hcn => by
      subst hres
      exact si_lreturn hx hb (by rw [hr, hrt]) hlocks hd hcn.1 hcn.2 hK)
    (fun pc ls cn st' hd hres hrt hcn => by
      subst hres
      exact si_return hx hb (by rw [hr, hrt]) hlocks hd hcn.1 hcn.2 hK)
    (fun pc k ik is ic a2 ls cn st' d0 d3 d4 d7 d10 hcs hstr hres h1 h2 hnil9 => by
      have hnil : hh = [] := by
        have k2' := k2
        rw [hnil9, ← hhh] at k2'
        cases hh with
        | nil => rfl
        | cons x xs => cases k2'
      subst hres
      have ho8 : (inf j).2.2.2.2.1 = 8 := by omega
      have e8 : ownN (inf j).2.2.2.2.1 = RX9 := by rw [ho8]; rfl
      obtain ⟨tx, htx⟩ := hE.2.1 _ (mem_of_contains hstr)
      have hstr9 : ∀ ad', AdX (gN st) ad ad' → vk_R RX9 is tx (ad' (2000000 + a2)) s := fun ad' h' => by rw [h' _ (Or.inr (by omega))]; rw [e8] at htx; exact htx
      have hown9 : s.vm.findClass RX9 = some m.cls := by rw [← e8]; exact hown'
      have hB : ∀ k, (k = 1 ∨ k = 2) → ∀ w ∈ exDe.map (fun y => Cond.declares y) ++ [Cond.castable (exN k) (exN k)], w.before args s = true := fun k hk12 w hw => by
        have hm : w ∈ exNw := by
          rcases List.mem_append.mp hw with z | z
          · exact List.mem_append_left _ (List.mem_append_right _ z)
          · rw [List.mem_singleton.mp z]
            rcases hk12 with rfl | rfl
            · exact List.mem_append_left _ (List.mem_append_left _ (List.mem_cons_self))
            · exact List.mem_append_left _ (List.mem_append_left _ (List.mem_cons_of_mem _ List.mem_cons_self))
        exact va_Nw.use (exNw_tab w hm) (hXw.1 w hm)
      rcases hcs with ⟨rfl, -, rfl, rfl, rfl, rfl⟩ | ⟨rfl, -, rfl, rfl, rfl, rfl⟩
      · refine si_throwI (k := 1) (Y9 := "java/lang/RuntimeException") (names := ["java/lang/Exception"]) (q := 2000000 + 17) (text := tx) (own := RX9) (by9 := ⟨#[0x2a, 0x2b, 0xb7, 0x00, 0x0d, 0xb1]⟩) (idx := 13) hx hb hml hl (by decide +kernel) (by decide +kernel) (by decide +kernel) (by decide +kernel) hown9 (by decide +kernel) (by decide +kernel) (by decide +kernel) (hts _ (tw_of (catW_in _ (List.mem_of_getElem? (i := 3) rfl)) rfl)) (hts _ (tw_of (catW_in _ (List.mem_of_getElem? (i := 5) rfl)) rfl)) hstr9 ?_ ?_ hE.2.2.2.1 hE.2.2.2.2.1 d0 d3 d4 d7 d10 (by rw [htab, hnil]; intro x hx9; cases hx9) ?_ ?_ h1 h2 hlocks h1 h2 hK
        · exact vx_hat (fun w hw => hts w (tw_of (thr_in1 w hw) (List.mem_filter.mp hw).2)) (fun w hw => by
            have hw : w ∈ (vx_atI RX9 382 "java/util/NoSuchElementException" 13 ⟨#[0x2a, 0x2b, 0xb7, 0x00, 0x0d, 0xb1]⟩ "java/lang/RuntimeException" ["java/lang/Exception"]).filter (fun w => !goodWord w) := hw
            rw [exL_3] at hw; exact hw) (hB 1 (Or.inl rfl))
        · decide +kernel
        · show 2 + 3 < d + 1 + 10
          omega
        · show 13 * (2 + 1) + 43 ≤ 100 * (d + 1) + 300
          omega
      · refine si_throw (k := 2) (names := ["java/lang/RuntimeException", "java/lang/Exception"]) (q := 2000000 + 16) (text := tx) (own := RX9) hx hb hml hl hown9 (by decide +kernel) (by decide +kernel) (hts _ (tw_of (catW_in _ (List.mem_of_getElem? (i := 2) rfl)) rfl)) (hts _ (tw_of (catW_in _ (List.mem_of_getElem? (i := 4) rfl)) rfl)) hstr9 ?_ ?_ hE.2.2.2.1 hE.2.2.2.2.1 d0 d3 d4 d7 d10 (by rw [htab, hnil]; intro x hx9; cases hx9) ?_ ?_ h1 h2 hlocks h1 h2 hK
        · exact vx_hat (fun w hw => hts w (tw_of (thr_in2 w hw) (List.mem_filter.mp hw).2)) (fun w hw => by
            have hw : w ∈ (vx_atS RX9 375 "java/lang/IllegalArgumentException" ["java/lang/RuntimeException", "java/lang/Exception"]).filter (fun w => !goodWord w) := hw
            rw [exL_2] at hw; exact hw) (hB 2 (Or.inr rfl))
        · decide +kernel
        · show 2 + 3 < d + 1 + 10
          omega
        · show 13 * (2 + 1) + 43 ≤ 100 * (d + 1) + 300
          omega)
  have hG := sim_run hC (W9 j (by omega)) hSp 10000000 (aP j).1 _ [] (0, 0) st h ⟨0, rfl⟩ (Nat.le_refl _) ⟨Nat.zero_le _, Nat.zero_le _⟩ 0 k7
  rw [lg_entry_eq]
  rw [k4] at hG hsum
  exact hG ad _ s.heap [] (AdX.rf _ _) (LH_entry hsum hnd) ⟨hcl, fun i o ho => hrefs o (aIn_ref _ _ _ _ ho), fun o ho => by simp at ho⟩ hP hD va_S.rf
end CTB
theorem ct_all (W9 : WFall) {l : Launch} (hl : l.stackTraces = false) (X : Nat × (Nat → Int32)) : ∀ d j, j < 302 → j ≠ 299 → j ≠ 300 → Ct (exX X) X l d j := by
  intro d
  induction d with
  | zero => intro j hj h1 h2 As st res h; cases h
  | succ d IH =>
    intro j hj h1 h2 As st res h hcl hrefs
    obtain ⟨hok, hpl⟩ := pure_call W9 X (d + 1) j As st res h hcl hrefs
    obtain ⟨k1, k2, k3, k4, k5, k6, k7, k8, k9, k10⟩ := ck_use (j := j) (by omega)
    have h : (if j < 1000 then (if (As.map fun v => v.category).sum ≤ (aP j).2.1 ∧ As.all noD = true then am_run X (am_call X aP d) (aP j) 10000000 (aP j).1 (aIn As (aP j).2.1) [] (0, 0) st else none) else aPrim j As st) = some res := h
    rw [if_pos (by omega)] at h
    split at h
    · rename_i hsn
      obtain ⟨hsum, hnd⟩ := hsn
      refine ⟨hok, hpl, fun D cy ad sz => ?_⟩
      · have hpn : Jvm.plainName (yN j).cls = true := by
          rcases k8 with z | z | z
          · exact z
          · exact absurd z h1
          · exact absurd z h2
        by_cases hh : (inf j).2.2.2.2.2.2 = []
        · refine vx_ofW (cc := (inf j).2.1) (maxL := (inf j).2.2.1) (ret := (inf j).2.2.2.1) hpn (by rw [cdW_code hh]; rfl) ?_
          intro p e s m args below meth c s₁ B hml htab hv
          obtain ⟨rfl, hsz, hP, hK, hD0, hE⟩ := hv
          subst hsz
          have hts0 := atoms_spec (ws := cdW (inf j) :: Tw) B.pre
          exact body_ok W9 hl IH hj (hh := []) hh.symm h hsum hnd hcl hrefs B.exec B.bytes B.returns hml (fun w hw => hts0 w (List.mem_cons_of_mem _ hw)) (findClass_of_methodNamed B.named) B.notSynchronized (name_of_methodNamed B.named B.method).1 (by
            cases ht : c.exceptionTable.toList with
            | nil => rfl
            | cons x xs => exact absurd (htab x (by rw [ht]; exact List.mem_cons_self)) id) hP hK hD0 hE
        · refine vx_ofWH (cc := (inf j).2.1) (maxL := (inf j).2.2.1) (ret := (inf j).2.2.2.1) (hh := (inf j).2.2.2.2.2.2) hpn (by rw [cdW_with hh]; rfl) ?_
          intro p e s m args below meth c s₁ B hml hv
          obtain ⟨rfl, hsz, hP, hK, hD0, hE⟩ := hv
          subst hsz
          have hts0 := atoms_spec (ws := cdW (inf j) :: Tw) B.pre
          have hcw := hts0 (cdW (inf j)) List.mem_cons_self
          rw [cdW_with hh] at hcw
          exact body_ok W9 hl IH hj (hh := (inf j).2.2.2.2.2.2) rfl h hsum hnd hcl hrefs B.exec B.bytes B.returns hml (fun w hw => hts0 w (List.mem_cons_of_mem _ hw)) (findClass_of_methodNamed B.named) B.notSynchronized (name_of_methodNamed B.named B.method).1 (vx_table (x := yN j) (y := (inf j).1) B hcw) hP hK hD0 hE
    · cases h
