/-! THE CLASS'S TAPE: its place, token, value, fault over a heap I -/
def tI (I : Nat → Nat → Int32) (p tok val fk fa : Int) : Nat → Nat → Int32 := uI (uI (uI (uI (uI I 1 3 (zI p)) 1 4 (zI tok)) 1 5 (zI val)) 1 6 (zI fk)) 1 7 (zI fa)
theorem tI_at (I : Nat → Nat → Int32) (p tok val fk fa : Int) (o k : Nat) : tI I p tok val fk fa o k = if o = 1 then (if k = 7 then zI fa else if k = 6 then zI fk else if k = 5 then zI val else if k = 4 then zI tok else if k = 3 then zI p else I 1 k) else I o k := by
  unfold tI
  simp only [uI_at]
  by_cases h : o = 1
  · subst h
    simp only [true_and, if_true]
  · simp only [h, false_and, if_false]
theorem t_3 (I : Nat → Nat → Int32) (p tok val fk fa : Int) : tI I p tok val fk fa 1 3 = zI p := by rw [tI_at]; rfl
theorem t_4 (I : Nat → Nat → Int32) (p tok val fk fa : Int) : tI I p tok val fk fa 1 4 = zI tok := by rw [tI_at]; rfl
theorem t_5 (I : Nat → Nat → Int32) (p tok val fk fa : Int) : tI I p tok val fk fa 1 5 = zI val := by rw [tI_at]; rfl
theorem t_6 (I : Nat → Nat → Int32) (p tok val fk fa : Int) : tI I p tok val fk fa 1 6 = zI fk := by rw [tI_at]; rfl
theorem t_7 (I : Nat → Nat → Int32) (p tok val fk fa : Int) : tI I p tok val fk fa 1 7 = zI fa := by rw [tI_at]; rfl
theorem t_1 (I : Nat → Nat → Int32) (p tok val fk fa : Int) : tI I p tok val fk fa 1 1 = I 1 1 := by rw [tI_at]; rfl
theorem t_2 (I : Nat → Nat → Int32) (p tok val fk fa : Int) : tI I p tok val fk fa 1 2 = I 1 2 := by rw [tI_at]; rfl
theorem t_b (I : Nat → Nat → Int32) (p tok val fk fa : Int) (k : Nat) : tI I p tok val fk fa 2 k = I 2 k := by rw [tI_at]; rfl
theorem t_row (I : Nat → Nat → Int32) (p tok val fk fa : Int) {o : Nat} (h : o ≠ 1) : tI I p tok val fk fa o = I o := by
  funext k
  rw [tI_at, if_neg h]
theorem tI_ext (I I' : Nat → Nat → Int32) (p tok val fk fa p' tok' val' fk' fa' : Int) (h : ∀ o k, (if o = 1 then (if k = 7 then zI fa else if k = 6 then zI fk else if k = 5 then zI val else if k = 4 then zI tok else if k = 3 then zI p else I 1 k) else I o k) = (if o = 1 then (if k = 7 then zI fa' else if k = 6 then zI fk' else if k = 5 then zI val' else if k = 4 then zI tok' else if k = 3 then zI p' else I' 1 k) else I' o k)) : tI I p tok val fk fa = tI I' p' tok' val' fk' fa' := by
  funext o k
  rw [tI_at, tI_at]
  exact h o k
theorem tw_3 (I : Nat → Nat → Int32) (p tok val fk fa q : Int) : uI (tI I p tok val fk fa) 1 3 (zI q) = tI I q tok val fk fa := by
  funext o k
  simp only [uI_at, tI_at]
  repeat' split
  all_goals first | rfl | omega
theorem tw_4 (I : Nat → Nat → Int32) (p tok val fk fa q : Int) : uI (tI I p tok val fk fa) 1 4 (zI q) = tI I p q val fk fa := by
  funext o k
  simp only [uI_at, tI_at]
  repeat' split
  all_goals first | rfl | omega
theorem tw_5 (I : Nat → Nat → Int32) (p tok val fk fa q : Int) : uI (tI I p tok val fk fa) 1 5 (zI q) = tI I p tok q fk fa := by
  funext o k
  simp only [uI_at, tI_at]
  repeat' split
  all_goals first | rfl | omega
theorem tw_6 (I : Nat → Nat → Int32) (p tok val fk fa q : Int) : uI (tI I p tok val fk fa) 1 6 (zI q) = tI I p tok val q fa := by
  funext o k
  simp only [uI_at, tI_at]
  repeat' split
  all_goals first | rfl | omega
theorem tw_7 (I : Nat → Nat → Int32) (p tok val fk fa q : Int) : uI (tI I p tok val fk fa) 1 7 (zI q) = tI I p tok val fk q := by
  funext o k
  simp only [uI_at, tI_at]
  repeat' split
  all_goals first | rfl | omega
theorem tw_o (I : Nat → Nat → Int32) (p tok val fk fa : Int) {o k : Nat} (v : Int32) (h : o ≠ 1) : uI (tI I p tok val fk fa) o k v = tI (uI I o k v) p tok val fk fa := by
  funext o' k'
  simp only [uI_at, tI_at]
  repeat' split
  all_goals first | rfl | omega
/-- the text that is read: bytes B, e of them -/
def Txt (I : Nat → Nat → Int32) (B : Nat → Int) (e : Nat) : Prop := (∀ k, k < 600 → I 2 k = zI (B k)) ∧ (∀ k, k < 600 → 0 ≤ B k ∧ B k < 256) ∧ I 1 2 = zI e ∧ e ≤ 600
section TAPE
variable {X : Nat × (Nat → Int32)} {d : Nat} {w : Bool × Bool × Bool} {I : Nat → Nat → Int32} {J : Nat → Nat → Int64} {B : Nat → Int} {e : Nat} {p tok val fk fa : Int}
theorem l_moveTo (hT : Txt I B e) : ∀ (j q n : Nat), q + j = e → aR X d m_X7_moveTo (n + j + 1) 3 [some (.ref 1), none] (0, 0) (mkS w (tI I q tok val fk fa) J) = rV (mkS w (tI I (sk B e q) tok val fk fa) J)
  | 0, q, n, h => by
    obtain ⟨h1, h2, h3, h4⟩ := hT
    rw [e_X7_moveTo_3]
    simp (disch := omega) only [t_3, t_2, h3, z_lt, if_neg]
    rw [sk_stop (by omega)]
  | j + 1, q, n, h => by
    have hT0 := hT
    obtain ⟨h1, h2, h3, h4⟩ := hT
    have hb := h2 q (by omega)
    rw [e_X7_moveTo_3]
    simp (disch := omega) only [t_3, t_2, t_b, h3, zl, z_lt, z_nat, if_pos, if_neg, Int.toNat_natCast, h1, zl, z_add, tw_3]
    by_cases hc : B q = 32
    · rw [if_pos (by rw [hc]), sk_blank (by omega) hc]
      have := l_moveTo hT0 j (q + 1) n (by omega)
      rw [show n + (j + 1) = n + j + 1 by omega]
      exact this
    · rw [if_neg (by rw [z_eq] <;> omega), sk_stop (fun _ => hc)]
theorem t_moveTo (hT : Txt I B e) {q : Nat} (hq : q ≤ e) : am_call X aP (d + 1) 81 [.ref 1, .int (zI q)] (mkS w (tI I p tok val fk fa) J) = some (.inl none, mkS w (tI I (sk B e q) tok val fk fa) J) := by
  have h4 := hT.2.2.2
  rw [go_X7_moveTo, e_X7_moveTo_0, tw_3, show 9999999 = (9999998 - (e - q)) + (e - q) + 1 by omega]
  exact l_moveTo hT (e - q) q _ (by omega)
theorem t_ends (hT : Txt I B e) {q : Nat} (hq : q ≤ e) : am_call X aP (d + 1) 82 [.ref 1] (mkS w (tI I q tok val fk fa) J) = some (.inl (some (.int (zI (if q < e then 0 else 1)))), mkS w (tI I q tok val fk fa) J) := by
  obtain ⟨h1, h2, h3, h4⟩ := hT
  rw [go_X7_ends, e_X7_ends_0]
  by_cases h : q < e
  · simp (disch := omega) only [t_3, t_2, h3, z_lt, if_pos, zl]
    rfl
  · simp (disch := omega) only [t_3, t_2, h3, z_lt, if_neg, zl]
    rfl
theorem t_stands (hT : Txt I B e) {q : Nat} (hq : q ≤ e) {c : Int} (hc : 0 ≤ c ∧ c < 256) : am_call X aP (d + 1) 83 [.ref 1, .int (zI c)] (mkS w (tI I q tok val fk fa) J) = some (.inl (some (.int (zI (if q < e ∧ B q = c then 1 else 0)))), mkS w (tI I q tok val fk fa) J) := by
  obtain ⟨h1, h2, h3, h4⟩ := hT
  rw [go_X7_stands, e_X7_stands_0]
  by_cases h : q < e
  · have hb := h2 q (by omega)
    simp (disch := omega) only [t_3, t_2, t_b, h3, zl, z_lt, z_nat, if_pos, if_neg, Int.toNat_natCast, h1, zl, z_eq]
    by_cases hb2 : B q = c
    · rw [if_pos hb2, if_pos ⟨h, hb2⟩]
      rfl
    · rw [if_neg hb2, if_neg (fun z => hb2 z.2)]
      rfl
  · simp (disch := omega) only [t_3, t_2, h3, z_lt, if_neg, zl]
    rfl
theorem t_isDigit {c : Int} (hc : 0 ≤ c ∧ c < 256) (st : aSt) (hst : st = mkS w I J) : am_call X aP (d + 1) 85 [.int (zI c)] st = some (.inl (some (.int (zI (if isD c then 1 else 0)))), st) := by
  subst hst
  rw [go_X7_isDigit, e_X7_isDigit_0]
  simp (disch := omega) only [zl, z_lt]
  unfold isD
  by_cases h1 : c < 48
  · rw [if_pos h1, if_neg (by simp; omega)]
    rfl
  · rw [if_neg h1]
    by_cases h2 : 57 < c
    · rw [if_pos h2, if_neg (by simp; omega)]
      rfl
    · rw [if_neg h2, if_pos (by simp; omega)]
      rfl
theorem t_isLetter {c : Int} (hc : 0 ≤ c ∧ c < 256) (st : aSt) (hst : st = mkS w I J) : am_call X aP (d + 1) 86 [.int (zI c)] st = some (.inl (some (.int (zI (if isL c then 1 else 0)))), st) := by
  subst hst
  rw [go_X7_isLetter, e_X7_isLetter_0]
  simp (disch := omega) only [zl, z_lt]
  unfold isL
  by_cases h1 : c < 97
  · rw [if_pos h1, if_neg (by simp; omega)]
    rfl
  · rw [if_neg h1]
    by_cases h2 : 122 < c
    · rw [if_pos h2, if_neg (by simp; omega)]
      rfl
    · rw [if_neg h2, if_pos (by simp; omega)]
      rfl
theorem t_digitStands (hT : Txt I B e) {q : Nat} (hq : q ≤ e) : am_call X aP (d + 2) 84 [.ref 1] (mkS w (tI I q tok val fk fa) J) = some (.inl (some (.int (zI (if q < e ∧ isD (B q) = true then 1 else 0)))), mkS w (tI I q tok val fk fa) J) := by
  obtain ⟨h1, h2, h3, h4⟩ := hT
  rw [go_X7_digitStands, e_X7_digitStands_0]
  by_cases h : q < e
  · have hb := h2 q (by omega)
    simp (disch := omega) only [t_3, t_2, t_b, h3, zl, z_lt, z_nat, if_pos, if_neg, Int.toNat_natCast, h1]
    rw [t_isDigit hb _ rfl, cI_some]
    by_cases hd : isD (B q) = true
    · rw [if_pos hd, if_pos (show q < e ∧ isD (B q) = true from ⟨h, hd⟩), if_neg (by decide)]
      rfl
    · rw [if_neg hd, if_neg (show ¬ (q < e ∧ isD (B q) = true) from fun z => hd z.2), if_pos (by decide)]
      rfl
  · simp (disch := omega) only [t_3, t_2, h3, z_lt, if_neg]
    rfl
theorem t_takes (hT : Txt I B e) {q : Nat} (hq : q ≤ e) {c : Int} (hc : 0 ≤ c ∧ c < 256) : am_call X aP (d + 2) 87 [.ref 1, .int (zI c)] (mkS w (tI I q tok val fk fa) J) = some (if q < e ∧ B q = c then (.inl (some (.int (zI 1))), mkS w (tI I (sk B e (q + 1)) q val fk fa) J) else (.inl (some (.int (zI 0))), mkS w (tI I q tok val fk fa) J)) := by
  rw [go_X7_takes, e_X7_takes_0, t_stands hT hq hc, cI_some]
  by_cases h : q < e ∧ B q = c
  · rw [if_pos h, if_pos h, if_neg (by decide)]
    simp (disch := omega) only [gI_mk, gJ_mk, t_3, tw_4, zl, z_add]
    have := t_moveTo (X := X) (d := d) (w := w) (J := J) (p := q) (tok := q) (val := val) (fk := fk) (fa := fa) hT (q := q + 1) (by omega)
    rw [show ((q : Int) + 1) = ((q + 1 : Nat) : Int) by omega, this, cV_some]
    rfl
  · rw [if_neg h, if_neg h, if_pos (by decide)]
    rfl
theorem t_failHere (k : Int) {q : Int} : am_call X aP (d + 1) 91 [.ref 1, .int (zI k)] (mkS w (tI I q tok val fk fa) J) = some (.inl (some (.int (zI 0))), mkS w (tI I q tok val k q) J) := by
  rw [go_X7_failHere, e_X7_failHere_0]
  simp only [tw_6, t_3, tw_7]
  rfl
theorem t_failTok (k : Int) {q : Int} : am_call X aP (d + 1) 92 [.ref 1, .int (zI k)] (mkS w (tI I q tok val fk fa) J) = some (.inl (some (.int (zI 0))), mkS w (tI I q tok val k tok) J) := by
  rw [go_X7_failAtToken, e_X7_failAtToken_0]
  simp only [tw_6, t_4, tw_7]
  rfl
theorem t_needs (hT : Txt I B e) {q : Nat} (hq : q ≤ e) {c : Int} (hc : 0 ≤ c ∧ c < 256) : am_call X aP (d + 3) 88 [.ref 1, .int (zI c)] (mkS w (tI I q tok val fk fa) J) = some (if q < e ∧ B q = c then (.inl (some (.int (zI 1))), mkS w (tI I (sk B e (q + 1)) q val fk fa) J) else (.inl (some (.int (zI 0))), mkS w (tI I q tok val 1 q) J)) := by
  rw [go_X7_needs, e_X7_needs_0, t_takes hT hq hc]
  by_cases h : q < e ∧ B q = c
  · rw [if_pos h, if_pos h, cI_some, if_neg (by decide)]
    rfl
  · rw [if_neg h, if_neg h, cI_some, if_pos (by decide)]
    simp (disch := omega) only [gI_mk, gJ_mk, zl]
    rw [t_failHere, cI_some, if_pos (by decide)]
    rfl
/-- the letters that stand at p; the digits -/
def wd (B : Nat → Int) (e p : Nat) : List Int := (suf B e p).takeWhile isL
def dg (B : Nat → Int) (e p : Nat) : List Int := (suf B e p).takeWhile isD
theorem wd_cons (B : Nat → Int) (e p : Nat) (h : p < e) (hl : isL (B p) = true) : wd B e p = B p :: wd B e (p + 1) := by
  unfold wd
  rw [suf_cons h, List.takeWhile_cons, if_pos hl]
theorem wd_stop (B : Nat → Int) (e p : Nat) (h : p < e → ¬ isL (B p) = true) : wd B e p = [] := by
  unfold wd
  by_cases hp : p < e
  · rw [suf_cons hp, List.takeWhile_cons, if_neg (h hp)]
  · rw [suf_nil (by omega)]
    rfl
theorem dg_cons (B : Nat → Int) (e p : Nat) (h : p < e) (hl : isD (B p) = true) : dg B e p = B p :: dg B e (p + 1) := by
  unfold dg
  rw [suf_cons h, List.takeWhile_cons, if_pos hl]
theorem dg_stop (B : Nat → Int) (e p : Nat) (h : p < e → ¬ isD (B p) = true) : dg B e p = [] := by
  unfold dg
  by_cases hp : p < e
  · rw [suf_cons hp, List.takeWhile_cons, if_neg (h hp)]
  · rw [suf_nil (by omega)]
    rfl
theorem wd_len (B : Nat → Int) (e p : Nat) (h : p ≤ e) : p + (wd B e p).length ≤ e := by
  have h1 := (List.takeWhile_sublist (l := suf B e p) isL).length_le
  rw [suf_len] at h1
  unfold wd
  omega
theorem dg_len (B : Nat → Int) (e p : Nat) (h : p ≤ e) : p + (dg B e p).length ≤ e := by
  have h1 := (List.takeWhile_sublist (l := suf B e p) isD).length_le
  rw [suf_len] at h1
  unfold dg
  omega
theorem wd_at (B : Nat → Int) (e : Nat) : ∀ (p j : Nat), j < (wd B e p).length → (wd B e p)[j]? = some (B (p + j)) := by
  intro p j h
  have h2 : (wd B e p)[j]? = (suf B e p)[j]? := by
    obtain ⟨r, hr⟩ := List.takeWhile_prefix (l := suf B e p) isL
    conv => rhs; rw [← hr]
    exact (List.getElem?_append_left h).symm
  have h3 := (List.takeWhile_sublist (l := suf B e p) isL).length_le
  rw [suf_len] at h3
  have h4 : (wd B e p).length ≤ e - p := h3
  rw [h2]
  unfold suf
  rw [List.getElem?_map, List.getElem?_range' (by omega)]
  simp
/-- the letters are counted -/
theorem l_word2 (hT : Txt I B e) {k : Nat} {q : Nat} : ∀ (j i n : Nat), q + i + j = e → i + (wd B e (q + i)).length = i + (wd B e (q + i)).length → aR X (d + 1) m_X7_takesWord (n + j + 1) 2 [some (.ref 1), some (.ref (2000000 + k)), some (.int (zI i)), none] (0, 0) (mkS w (tI I q tok val fk fa) J) = aR X (d + 1) m_X7_takesWord (n + (j - (wd B e (q + i)).length)) 20 [some (.ref 1), some (.ref (2000000 + k)), some (.int (zI (i + (wd B e (q + i)).length : Nat))), none] (0, 0) (mkS w (tI I q tok val fk fa) J)
  | 0, i, n, h, _ => by
    obtain ⟨h1, h2, h3, h4⟩ := hT
    rw [e_X7_takesWord_2, wd_stop B e (q + i) (by omega)]
    simp (disch := omega) only [t_3, t_2, h3, z_add, z_lt, if_neg]
    rfl
  | j + 1, i, n, h, _ => by
    have hT0 := hT
    obtain ⟨h1, h2, h3, h4⟩ := hT
    have hb := h2 (q + i) (by omega)
    rw [e_X7_takesWord_2]
    have e9 : ((q : Int) + (i : Int)) = ((q + i : Nat) : Int) := by omega
    simp (disch := omega) only [t_3, t_2, t_b, h3, zl, z_add, e9, z_lt, z_nat, if_pos, if_neg, Int.toNat_natCast, h1]
    rw [t_isLetter hb _ rfl, cI_some]
    by_cases hl : isL (B (q + i)) = true
    · rw [if_pos hl, if_neg (by decide), wd_cons B e (q + i) (by omega) hl]
      have := l_word2 hT0 (k := k) (q := q) j (i + 1) n (by omega) rfl
      simp (disch := omega) only [gI_mk, gJ_mk, zl, z_add]
      rw [show ((i : Int) + 1) = ((i + 1 : Nat) : Int) by omega, show n + (j + 1) = n + j + 1 by omega, this, show q + (i + 1) = q + i + 1 by omega]
      congr 2
      · rw [List.length_cons]; omega
      · rw [List.length_cons, show i + ((wd B e (q + i + 1)).length + 1) = i + 1 + (wd B e (q + i + 1)).length by omega]
    · rw [if_neg hl, if_pos (by decide), wd_stop B e (q + i) (fun _ => hl)]
      rfl
theorem KK_str {k : Nat} (hk : k < 18) : KK (2000000 + k) = 20 := by
  unfold KK
  rw [if_pos (by omega), if_neg (by omega), if_neg (by omega), if_pos (by omega)]
theorem t_slen {k : Nat} (hk : k < 18) (st : aSt) : am_call X aP (d + 1) 1001 [.ref (2000000 + k)] st = some (.inl (some (.int (zI (aStr k).length))), st) := by
  show (if KK (2000000 + k) = 20 then rI (nI (aStr (2000000 + k - 2000000)).length) st else none) = _
  rw [if_pos (KK_str hk), Nat.add_sub_cancel_left, z_nI]
  rfl
theorem t_schar {k j : Nat} (hk : k < 18) (hj : j < (aStr k).length) (st : aSt) : am_call X aP (d + 1) 1002 [.ref (2000000 + k), .int (zI j)] st = some (.inl (some (.int (zI ((aStr k).getD j 0 : Nat)))), st) := by
  have hl := aStr_len k hk
  show (if KK (2000000 + k) = 20 then (if zI j < 0 ∨ (aStr (2000000 + k - 2000000)).length ≤ (zI j).toNatClampNeg then none else rI (nI ((aStr (2000000 + k - 2000000)).getD (zI j).toNatClampNeg 0)) st) else none) = _
  rw [if_pos (KK_str hk), Nat.add_sub_cancel_left, z_nat (by omega) (by omega), Int.toNat_natCast, z_nI, z_lit0, if_neg (by rw [z_lt (by omega) (by omega) (by omega) (by omega)]; omega)]
  rfl
/-- the text's signs as numbers -/
def sx (k : Nat) : List Int := (aStr k).map (fun c : Nat => (c : Int))
theorem l_word28 (hT : Txt I B e) {k : Nat} (hk : k < 18) {q : Nat} (hq : q ≤ e) (hlen : (wd B e q).length = (aStr k).length) : ∀ (j i n : Nat), i + j = (aStr k).length → (∀ t, t < i → B (q + t) = ((aStr k).getD t 0 : Nat)) → aR X (d + 1) m_X7_takesWord (n + j + 1) 28 [some (.ref 1), some (.ref (2000000 + k)), some (.int (zI (aStr k).length)), some (.int (zI i))] (0, 0) (mkS w (tI I q tok val fk fa) J) = some (if wd B e q = sx k then (.inl (some (.int (zI 1))), mkS w (tI I (sk B e (q + (aStr k).length)) q val fk fa) J) else (.inl (some (.int (zI 0))), mkS w (tI I q tok val fk fa) J))
  | 0, i, n, h, hpre => by
    have hl := aStr_len k hk
    have hle := wd_len B e q hq
    have heq : wd B e q = sx k := by
      apply List.ext_getElem?
      intro t
      by_cases ht : t < (wd B e q).length
      · rw [wd_at B e q t ht, hpre t (by omega)]
        unfold sx
        rw [List.getElem?_map, List.getD_eq_getElem?_getD, List.getElem?_eq_getElem (by omega)]
        rfl
      · rw [List.getElem?_eq_none (by omega), List.getElem?_eq_none (by unfold sx; rw [List.length_map]; omega)]
    rw [e_X7_takesWord_28, if_pos heq]
    simp (disch := omega) only [z_lt, if_neg, t_3, tw_4, z_add]
    have := t_moveTo (X := X) (d := d) (w := w) (J := J) (p := q) (tok := q) (val := val) (fk := fk) (fa := fa) hT (q := q + (aStr k).length) (by omega)
    rw [show ((q : Int) + ((aStr k).length : Int)) = ((q + (aStr k).length : Nat) : Int) by omega, this, cV_some]
    rfl
  | j + 1, i, n, h, hpre => by
    have hl := aStr_len k hk
    have hle := wd_len B e q hq
    have hT0 := hT
    obtain ⟨h1, h2, h3, h4⟩ := hT
    have hb := h2 (q + i) (by omega)
    have e9 : ((q : Int) + (i : Int)) = ((q + i : Nat) : Int) := by omega
    have hch := ch_at hk (j := i) (by omega)
    rw [e_X7_takesWord_28]
    simp (disch := omega) only [z_lt, if_pos, if_neg, t_3, t_b, z_add, e9, zl, z_nat, Int.toNat_natCast, h1]
    rw [if_pos (KK_str hk), t_schar hk (by omega), cI_some]
    by_cases hc : B (q + i) = ((aStr k).getD i 0 : Nat)
    · rw [if_pos (by rw [hc])]
      have := l_word28 hT0 hk hq hlen j (i + 1) n (by omega) (fun t ht => by
        by_cases e8 : t = i
        · subst e8; exact hc
        · exact hpre t (by omega))
      simp (disch := omega) only [gI_mk, gJ_mk, zl, z_add]
      rw [show ((i : Int) + 1) = ((i + 1 : Nat) : Int) by omega, show n + (j + 1) = n + j + 1 by omega]
      exact this
    · rw [if_neg (by rw [z_eq (by omega) (by omega) (by omega) (by omega)]; exact hc), if_neg (fun z => ?_)]
      · rfl
      · have z2 := wd_at B e q i (by omega)
        rw [z] at z2
        unfold sx at z2
        rw [List.getElem?_map, List.getElem?_eq_getElem (by omega)] at z2
        apply hc
        rw [List.getD_eq_getElem?_getD, List.getElem?_eq_getElem (by omega)]
        exact (Option.some.inj z2).symm
theorem t_takesWord (hT : Txt I B e) {k : Nat} (hk : k < 18) {q : Nat} (hq : q ≤ e) : am_call X aP (d + 2) 89 [.ref 1, .ref (2000000 + k)] (mkS w (tI I q tok val fk fa) J) = some (if wd B e q = sx k then (.inl (some (.int (zI 1))), mkS w (tI I (sk B e (q + (aStr k).length)) q val fk fa) J) else (.inl (some (.int (zI 0))), mkS w (tI I q tok val fk fa) J)) := by
  have hl := aStr_len k hk
  have hle := wd_len B e q hq
  have h4 := hT.2.2.2
  rw [go_X7_takesWord, e_X7_takesWord_0, z_0, show 9999999 = (9999998 - (e - q)) + (e - q) + 1 by omega]
  have := l_word2 (X := X) (d := d) (w := w) (J := J) (tok := tok) (val := val) (fk := fk) (fa := fa) hT (k := k) (q := q) (e - q) 0 (9999998 - (e - q)) (by omega) rfl
  simp only [Nat.zero_add, Nat.add_zero] at this
  rw [show ((0 : Nat) : Int) = 0 from rfl] at this
  rw [this, show 9999998 - (e - q) + (e - q - (wd B e q).length) = (9999998 - (wd B e q).length - (aStr k).length - 2) + (aStr k).length + 1 + 1 by omega, e_X7_takesWord_20, if_pos (KK_str hk), t_slen hk, cI_some]
  by_cases hlen : (wd B e q).length = (aStr k).length
  · rw [hlen, if_pos rfl, z_0]
    exact l_word28 hT hk hq hlen (aStr k).length 0 _ (by omega) (fun t ht => absurd ht (Nat.not_lt_zero t))
  · rw [if_neg (by rw [z_eq (by omega) (by omega) (by omega) (by omega)]; omega), if_neg (fun z => hlen (by rw [z]; unfold sx; rw [List.length_map]))]
    rfl
/-- a row of digits as a number; kept below a bound -/
def nmS (v : Int) (ds : List Int) : Int := ds.foldl (fun v c => v * 10 + (c - 48)) v
def nmB (v : Int) (ds : List Int) : Int := ds.foldl (fun v c => min 100000 (v * 10 + (c - 48))) v
theorem nmS_cons (v c : Int) (ds : List Int) : nmS v (c :: ds) = nmS (v * 10 + (c - 48)) ds := rfl
theorem nmB_cons (v c : Int) (ds : List Int) : nmB v (c :: ds) = nmB (min 100000 (v * 10 + (c - 48))) ds := rfl
theorem nmS_ge : ∀ (ds : List Int) (v : Int), (∀ c ∈ ds, isD c = true) → 0 ≤ v → v ≤ nmS v ds
  | [], v, _, h => Int.le_refl _
  | c :: ds, v, hd, h => by
    have h1 : isD c = true := hd c List.mem_cons_self
    unfold isD at h1
    simp only [Bool.and_eq_true, decide_eq_true_eq] at h1
    have := nmS_ge ds (v * 10 + (c - 48)) (fun x hx => hd x (List.mem_cons_of_mem _ hx)) (by omega)
    rw [nmS_cons]
    omega
theorem nmB_eq : ∀ (ds : List Int) (v u : Int), (∀ c ∈ ds, isD c = true) → 0 ≤ v → u = min 100000 v → nmB u ds = min 100000 (nmS v ds)
  | [], v, u, _, _, h => h
  | c :: ds, v, u, hd, hv, h => by
    have h1 : isD c = true := hd c List.mem_cons_self
    unfold isD at h1
    simp only [Bool.and_eq_true, decide_eq_true_eq] at h1
    rw [nmB_cons, nmS_cons]
    exact nmB_eq ds _ _ (fun x hx => hd x (List.mem_cons_of_mem _ hx)) (by omega) (by omega)
theorem nmB_le : ∀ (ds : List Int) (u : Int), (∀ c ∈ ds, isD c = true) → 0 ≤ u → u ≤ 100000 → 0 ≤ nmB u ds ∧ nmB u ds ≤ 100000
  | [], u, _, h1, h2 => ⟨h1, h2⟩
  | c :: ds, u, hd, h1, h2 => by
    have h1 : isD c = true := hd c List.mem_cons_self
    unfold isD at h1
    simp only [Bool.and_eq_true, decide_eq_true_eq] at h1
    rw [nmB_cons]
    exact nmB_le ds _ (fun x hx => hd x (List.mem_cons_of_mem _ hx)) (by omega) (by omega)
theorem dg_all (B : Nat → Int) (e p : Nat) : ∀ c ∈ dg B e p, isD c = true := fun c hc => by
  unfold dg at hc
  exact List.all_eq_true.mp List.all_takeWhile c hc
theorem t_min (a b : Int) (ha : 0 ≤ a ∧ a < 2000000) (hb : 0 ≤ b ∧ b < 2000000) (st : aSt) : am_call X aP (d + 1) 300 [.int (zI a), .int (zI b)] st = some (.inl (some (.int (zI (min a b)))), st) := by
  have e : am_call X aP (d + 1) 300 [.int (zI a), .int (zI b)] st = if zI b < zI a then rI (zI b) st else rI (zI a) st := rfl
  rw [e]
  by_cases h : b < a
  · rw [if_pos (by rw [z_lt] <;> omega), show min a b = b by omega]
    rfl
  · rw [if_neg (by rw [z_lt] <;> omega), show min a b = a by omega]
    rfl
theorem t_max (a b : Int) (ha : -2000000 < a ∧ a < 2000000) (hb : -2000000 < b ∧ b < 2000000) (st : aSt) : am_call X aP (d + 1) 299 [.int (zI a), .int (zI b)] st = some (.inl (some (.int (zI (max a b)))), st) := by
  have e : am_call X aP (d + 1) 299 [.int (zI a), .int (zI b)] st = if zI a < zI b then rI (zI b) st else rI (zI a) st := rfl
  rw [e]
  by_cases h : a < b
  · rw [if_pos (by rw [z_lt] <;> omega), show max a b = b by omega]
    rfl
  · rw [if_neg (by rw [z_lt] <;> omega), show max a b = a by omega]
    rfl
/-- what a number at q comes to -/
def numR (w : Bool × Bool × Bool) (I : Nat → Nat → Int32) (J : Nat → Nat → Int64) (B : Nat → Int) (e q : Nat) (lo hi fk fa : Int) : (Option Value ⊕ Nat) × aSt :=
  if lo ≤ nmB 0 (dg B e q) ∧ nmB 0 (dg B e q) ≤ hi then (.inl (some (.int (zI 1))), mkS w (tI I (sk B e (q + (dg B e q).length)) q (nmB 0 (dg B e q)) fk fa) J) else (.inl (some (.int (zI 0))), mkS w (tI I (sk B e (q + (dg B e q).length)) q (nmB 0 (dg B e q)) 2 q) J)
theorem l_num55 {q : Nat} {n : Nat} {v : Int} : aR X (d + 1) m_X7_needsNumber (n + 1) 55 [some (.ref 1), none, none, none] (0, 0) (mkS w (tI I p q v fk fa) J) = some (.inl (some (.int (zI 0))), mkS w (tI I p q v 2 q) J) := by
  rw [e_X7_needsNumber_55, z_2, t_failTok, cI_some, if_pos (by decide)]
  rfl
theorem l_num44 (hT : Txt I B e) {lo hi : Int} (hlo : -1 ≤ lo ∧ lo < 100000) (hhi : -1 ≤ hi ∧ hi < 100000) {q x : Nat} (hx : x ≤ e) {v : Int} (hv : 0 ≤ v ∧ v ≤ 100000) {n : Nat} : aR X (d + 1) m_X7_needsNumber (n + 2) 44 [some (.ref 1), some (.int (zI lo)), some (.int (zI hi)), some (.int (zI x))] (0, 0) (mkS w (tI I p q v fk fa) J) = some (if lo ≤ v ∧ v ≤ hi then (.inl (some (.int (zI 1))), mkS w (tI I (sk B e x) q v fk fa) J) else (.inl (some (.int (zI 0))), mkS w (tI I (sk B e x) q v 2 q) J)) := by
  rw [e_X7_needsNumber_44, t_moveTo hT hx, cV_some]
  simp (disch := omega) only [gI_mk, gJ_mk, t_5, z_lt]
  by_cases h1 : v < lo
  · rw [if_pos h1, if_neg (by omega)]
    exact l_num55
  · rw [if_neg h1]
    by_cases h2 : hi < v
    · rw [if_pos h2, if_neg (by omega)]
      exact l_num55
    · rw [if_neg h2, if_pos (by omega), z_1]
      rfl
theorem l_num17 (hT : Txt I B e) {lo hi : Int} (hlo : -1 ≤ lo ∧ lo < 100000) (hhi : -1 ≤ hi ∧ hi < 100000) {q : Nat} {p : Int} : ∀ (j x n : Nat) (v : Int), x + j = e → 0 ≤ v ∧ v ≤ 100000 → aR X (d + 1) m_X7_needsNumber (n + j + 3) 17 [some (.ref 1), some (.int (zI lo)), some (.int (zI hi)), some (.int (zI x))] (0, 0) (mkS w (tI I p q v fk fa) J) = some (if lo ≤ nmB v (dg B e x) ∧ nmB v (dg B e x) ≤ hi then (.inl (some (.int (zI 1))), mkS w (tI I (sk B e (x + (dg B e x).length)) q (nmB v (dg B e x)) fk fa) J) else (.inl (some (.int (zI 0))), mkS w (tI I (sk B e (x + (dg B e x).length)) q (nmB v (dg B e x)) 2 q) J))
  | 0, x, n, v, h, hv => by
    have h4 := hT.2.2.2
    have h3 := hT.2.2.1
    rw [e_X7_needsNumber_17, dg_stop B e x (by omega)]
    simp (disch := omega) only [t_2, h3, z_lt, if_neg]
    exact l_num44 hT hlo hhi (by omega) hv
  | j + 1, x, n, v, h, hv => by
    have hT0 := hT
    obtain ⟨h1, h2, h3, h4⟩ := hT
    have hb := h2 x (by omega)
    rw [e_X7_needsNumber_17]
    simp (disch := omega) only [t_2, t_b, h3, zl, z_lt, z_nat, if_pos, if_neg, Int.toNat_natCast, h1]
    rw [t_isDigit hb _ rfl, cI_some]
    by_cases hd : isD (B x) = true
    · rw [if_pos hd, if_neg (by decide), dg_cons B e x (by omega) hd]
      unfold isD at hd
      simp only [Bool.and_eq_true, decide_eq_true_eq] at hd
      simp (disch := omega) only [gI_mk, gJ_mk, t_5, t_b, h1, zl, z_add, z_mul, z_sub]
      rw [t_min 100000 (v * 10 + B x - 48) (by omega) (by omega), cI_some]
      simp (disch := omega) only [gI_mk, gJ_mk, tw_5]
      rw [show ((x : Int) + 1) = ((x + 1 : Nat) : Int) by omega, show n + (j + 1) + 2 = n + j + 3 by omega, l_num17 hT0 hlo hhi j (x + 1) n (min 100000 (v * 10 + B x - 48)) (by omega) (by omega), nmB_cons, show v * 10 + (B x - 48) = v * 10 + B x - 48 by omega, List.length_cons, show x + ((dg B e (x + 1)).length + 1) = x + 1 + (dg B e (x + 1)).length by omega]
    · rw [if_neg hd, if_pos (by decide), dg_stop B e x (fun _ => hd)]
      exact l_num44 hT0 hlo hhi (by omega) hv
theorem t_num (hT : Txt I B e) {lo hi : Int} (hlo : -1 ≤ lo ∧ lo < 100000) (hhi : -1 ≤ hi ∧ hi < 100000) {q : Nat} (hq : q ≤ e) : am_call X aP (d + 3) 90 [.ref 1, .int (zI lo), .int (zI hi)] (mkS w (tI I q tok val fk fa) J) = some (if q < e ∧ isD (B q) = true then numR w I J B e q lo hi fk fa else (.inl (some (.int (zI 0))), mkS w (tI I q tok val 1 q) J)) := by
  have h4 := hT.2.2.2
  rw [go_X7_needsNumber, e_X7_needsNumber_0, t_digitStands hT hq, cI_some]
  by_cases h : q < e ∧ isD (B q) = true
  · rw [if_pos h, if_pos h, if_neg (by decide)]
    simp (disch := omega) only [gI_mk, gJ_mk, t_3, tw_4, zl, tw_5]
    rw [show 9999999 = (9999996 - (e - q)) + (e - q) + 3 by omega]
    exact l_num17 hT hlo hhi (e - q) q _ 0 (by omega) (by omega)
  · rw [if_neg h, if_neg h, if_pos (by decide)]
    simp (disch := omega) only [gI_mk, gJ_mk, zl]
    rw [t_failHere, cI_some, z_bok0]
    rfl
end TAPE
