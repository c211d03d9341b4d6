/-! THE WORK'S TEXT: steps, and how both sides keep them -/
abbrev Tk : Type := Int × Int × Int × Nat
/-- the reference's steps among them -/
def mL : List Tk → Nat
  | [] => 0
  | a :: t => (if a.1 = 6 then 0 else 1) + mL t
theorem mL_app : ∀ L M : List Tk, mL (L ++ M) = mL L + mL M
  | [], M => (Nat.zero_add _).symm
  | a :: t, M => by
    show (if a.1 = 6 then 0 else 1) + mL (t ++ M) = (if a.1 = 6 then 0 else 1) + mL t + mL M
    rw [mL_app t M]
    omega
def okst (nc nr k a b : Int) : Prop := (k = 0 ∧ 0 ≤ a ∧ a < nc ∧ 0 ≤ b ∧ b < nr) ∨ (k = 1 ∧ 0 ≤ a ∧ a < nc ∧ b = 0) ∨ (k = 2 ∧ 0 ≤ a ∧ a < nc ∧ 0 ≤ b ∧ b ≤ 99) ∨ (k = 3 ∧ 0 ≤ a ∧ a < nr ∧ 0 ≤ b ∧ b ≤ 6) ∨ (k = 4 ∧ a = 0 ∧ b = 0)
/-- steps in a row, r deep at most -/
def OkN (nc nr : Int) : Nat → Nat → List Tk → Prop
  | 0, _, L => L = []
  | n + 1, r, L => L = [] ∨ (∃ k a b t, L = (k, a, b, 0) :: t ∧ okst nc nr k a b ∧ OkN nc nr n r t) ∨ ∃ m b t, L = (5, m, (b.length : Int), mL b) :: (b ++ (6, (b.length : Int), 0, 0) :: t) ∧ (0 ≤ m ∧ m ≤ 60) ∧ 1 ≤ r ∧ OkN nc nr n (r - 1) b ∧ OkN nc nr n r t
def OkS (nc nr : Int) (L : List Tk) (r : Nat) : Prop := ∃ n, OkN nc nr n r L
theorem OkN_mono {nc nr : Int} : ∀ (n : Nat) {r : Nat} {L : List Tk}, OkN nc nr n r L → OkN nc nr (n + 1) r L
  | 0, _, _, h => Or.inl h
  | _ + 1, _, _, .inl h => Or.inl h
  | n + 1, _, _, .inr (.inl ⟨k, a, b, t, h1, h2, h3⟩) => Or.inr (Or.inl ⟨k, a, b, t, h1, h2, OkN_mono n h3⟩)
  | n + 1, _, _, .inr (.inr ⟨m, b, t, h1, h2, h3, h4, h5⟩) => Or.inr (Or.inr ⟨m, b, t, h1, h2, h3, OkN_mono n h4, OkN_mono n h5⟩)
theorem OkN_le {nc nr : Int} {n r : Nat} {L : List Tk} (h : OkN nc nr n r L) : ∀ k : Nat, OkN nc nr (n + k) r L
  | 0 => h
  | k + 1 => OkN_mono _ (OkN_le h k)
theorem OkN_app {nc nr : Int} {n2 : Nat} {M : List Tk} : ∀ (n : Nat) {r : Nat} {L : List Tk}, OkN nc nr n r L → OkN nc nr n2 r M → OkN nc nr (n2 + n) r (L ++ M)
  | 0, r, L, h, h2 => by
    rw [show L = [] from h]
    exact h2
  | n + 1, r, L, h, h2 => by
    rcases h with h | ⟨k, a, b, t, h1, h3, h4⟩ | ⟨m, b, t, h1, h3, h4, h5, h6⟩
    · rw [h]
      exact OkN_le h2 (n + 1)
    · rw [h1]
      exact Or.inr (Or.inl ⟨k, a, b, t ++ M, rfl, h3, OkN_app n h4 h2⟩)
    · rw [h1]
      refine Or.inr (Or.inr ⟨m, b, t ++ M, ?_, h3, h4, ?_, OkN_app n h6 h2⟩)
      · rw [List.cons_append, List.append_assoc]
        rfl
      · show OkN nc nr (n2 + n) (r - 1) b
        rw [Nat.add_comm]
        exact OkN_le h5 n2
theorem OkS_app {nc nr : Int} {r : Nat} {L M : List Tk} (h : OkS nc nr L r) (h2 : OkS nc nr M r) : OkS nc nr (L ++ M) r := by
  obtain ⟨n, h⟩ := h
  obtain ⟨n2, h2⟩ := h2
  exact ⟨_, OkN_app n h h2⟩
theorem OkS_1 {nc nr k a b : Int} {r : Nat} (h : okst nc nr k a b) : OkS nc nr [(k, a, b, 0)] r := ⟨1, Or.inr (Or.inl ⟨k, a, b, [], rfl, h, rfl⟩)⟩
/-- an again round steps -/
def agn (m : Int) (b : List Tk) : List Tk := (5, m, (b.length : Int), mL b) :: (b ++ [(6, (b.length : Int), 0, 0)])
theorem OkS_agn {nc nr m : Int} {r : Nat} {b : List Tk} (hm : 0 ≤ m ∧ m ≤ 60) (h : OkS nc nr b r) : OkS nc nr (agn m b) (r + 1) := by
  obtain ⟨n, h⟩ := h
  refine ⟨n + 1, Or.inr (Or.inr ⟨m, b, [], rfl, hm, by omega, h, ?_⟩)⟩
  cases n with
  | zero => exact rfl
  | succ n => exact Or.inl rfl
theorem agn_len (m : Int) (b : List Tk) : (agn m b).length = b.length + 2 := by
  show (b ++ [(6, (b.length : Int), 0, 0)]).length + 1 = _
  rw [List.length_append]
  rfl
theorem agn_mL (m : Int) (b : List Tk) : mL (agn m b) = mL b + 1 := by
  show (if (5 : Int) = 6 then 0 else 1) + mL (b ++ [(6, (b.length : Int), 0, 0)]) = _
  rw [mL_app, if_neg (by decide), Nat.add_comm]
  rfl
/-- the class's steps from i on -/
def CSt (S : Hp) : List Tk → Nat → Prop
  | [], _ => True
  | a :: t, i => (S 4 (i : Int) = a.1 ∧ S 5 (i : Int) = (if a.1 = 6 then (i : Int) - 1 - a.2.1 else a.2.1) ∧ S 6 (i : Int) = (if a.1 = 5 then (i : Int) + 1 + a.2.2.1 else a.2.2.1)) ∧ CSt S t (i + 1)
/-- the reference's, in row o -/
def MSt (S : Hp) (o : Nat) : List Tk → Nat → Prop
  | [], _ => True
  | a :: t, j => if a.1 = 6 then MSt S o t j else (S o ((3 * j : Nat) : Int) = a.1 ∧ S o ((3 * j + 1 : Nat) : Int) = a.2.1 ∧ S o ((3 * j + 2 : Nat) : Int) = (if a.1 = 5 then ((3 * (j + 1 + a.2.2.2) : Nat) : Int) else a.2.2.1)) ∧ MSt S o t (j + 1)
theorem CSt_ext {S S' : Hp} : ∀ (L : List Tk) (i : Nat), (∀ j : Nat, i ≤ j → j < i + L.length → S' 4 (j : Int) = S 4 (j : Int) ∧ S' 5 (j : Int) = S 5 (j : Int) ∧ S' 6 (j : Int) = S 6 (j : Int)) → CSt S L i → CSt S' L i
  | [], _, _, _ => trivial
  | a :: t, i, h, ⟨⟨h1, h2, h3⟩, h4⟩ => by
    have hl : (a :: t).length = t.length + 1 := rfl
    obtain ⟨e1, e2, e3⟩ := h i (by omega) (by omega)
    exact ⟨⟨e1.trans h1, e2.trans h2, e3.trans h3⟩, CSt_ext t (i + 1) (fun j a1 a2 => h j (by omega) (by omega)) h4⟩
theorem CSt_app {S : Hp} {M : List Tk} : ∀ (L : List Tk) (i : Nat), CSt S L i → CSt S M (i + L.length) → CSt S (L ++ M) i
  | [], _, _, h => h
  | a :: t, i, h, h2 => ⟨h.1, CSt_app t (i + 1) h.2 (by rw [show i + 1 + t.length = i + (a :: t).length by show _ = i + (t.length + 1); omega]; exact h2)⟩
theorem CSt_l {S : Hp} {M : List Tk} : ∀ (L : List Tk) (i : Nat), CSt S (L ++ M) i → CSt S L i
  | [], _, _ => trivial
  | _ :: t, i, h => ⟨h.1, CSt_l t (i + 1) h.2⟩
theorem CSt_r {S : Hp} {M : List Tk} : ∀ (L : List Tk) (i : Nat), CSt S (L ++ M) i → CSt S M (i + L.length)
  | [], _, h => h
  | a :: t, i, h => by
    rw [show i + (a :: t).length = i + 1 + t.length by show i + (t.length + 1) = _; omega]
    exact CSt_r t (i + 1) h.2
theorem MSt_ext {S S' : Hp} {o o' : Nat} : ∀ (L : List Tk) (j : Nat), (∀ x : Nat, 3 * j ≤ x → x < 3 * (j + mL L) → S' o' (x : Int) = S o (x : Int)) → MSt S o L j → MSt S' o' L j
  | [], _, _, _ => trivial
  | a :: t, j, h, h9 => by
    have hl : mL (a :: t) = (if a.1 = 6 then 0 else 1) + mL t := rfl
    unfold MSt at h9 ⊢
    by_cases k : a.1 = 6
    · rw [if_pos k] at h9 hl
      rw [if_pos k]
      exact MSt_ext t j (fun x a1 a2 => h x (by omega) (by omega)) h9
    · rw [if_neg k] at h9 hl
      rw [if_neg k]
      obtain ⟨⟨h1, h2, h3⟩, h4⟩ := h9
      exact ⟨⟨(h _ (by omega) (by omega)).trans h1, (h _ (by omega) (by omega)).trans h2, (h _ (by omega) (by omega)).trans h3⟩, MSt_ext t (j + 1) (fun x a1 a2 => h x (by omega) (by omega)) h4⟩
theorem MSt_app {S : Hp} {o : Nat} {M : List Tk} : ∀ (L : List Tk) (j : Nat), MSt S o L j → MSt S o M (j + mL L) → MSt S o (L ++ M) j
  | [], _, _, h => h
  | a :: t, j, h9, h2 => by
    have hl : mL (a :: t) = (if a.1 = 6 then 0 else 1) + mL t := rfl
    rw [hl] at h2
    rw [List.cons_append]
    unfold MSt at h9 ⊢
    by_cases k : a.1 = 6
    · rw [if_pos k] at h9 h2 ⊢
      exact MSt_app t j h9 (by rw [show j + mL t = j + (0 + mL t) by omega]; exact h2)
    · rw [if_neg k] at h9 h2 ⊢
      exact ⟨h9.1, MSt_app t (j + 1) h9.2 (by rw [show j + 1 + mL t = j + (1 + mL t) by omega]; exact h2)⟩
theorem MSt_l {S : Hp} {o : Nat} {M : List Tk} : ∀ (L : List Tk) (j : Nat), MSt S o (L ++ M) j → MSt S o L j
  | [], _, _ => trivial
  | a :: t, j, h9 => by
    rw [List.cons_append] at h9
    unfold MSt at h9 ⊢
    by_cases k : a.1 = 6
    · rw [if_pos k] at h9 ⊢
      exact MSt_l t j h9
    · rw [if_neg k] at h9 ⊢
      exact ⟨h9.1, MSt_l t (j + 1) h9.2⟩
theorem MSt_r {S : Hp} {o : Nat} {M : List Tk} : ∀ (L : List Tk) (j : Nat), MSt S o (L ++ M) j → MSt S o M (j + mL L)
  | [], _, h => h
  | a :: t, j, h9 => by
    have hl : mL (a :: t) = (if a.1 = 6 then 0 else 1) + mL t := rfl
    rw [List.cons_append] at h9
    rw [hl]
    unfold MSt at h9
    by_cases k : a.1 = 6
    · rw [if_pos k] at h9 ⊢
      rw [show j + (0 + mL t) = j + mL t by omega]
      exact MSt_r t j h9
    · rw [if_neg k] at h9 ⊢
      rw [show j + (1 + mL t) = j + 1 + mL t by omega]
      exact MSt_r t (j + 1) h9.2
abbrev WOut : Type := Flt ⊕ (List Tk × Nat)
def sgW : WOut → Int
  | .inl _ => 0
  | .inr _ => 1
/-- what a reading from q comes to, r more may open -/
def WfW (nc nr : Int) (r q : Nat) (B : Nat → Int) (e : Nat) : WOut → Prop
  | .inl _ => True
  | .inr y => (q ≤ y.2 ∧ y.1.length + q ≤ y.2 ∧ 3 * mL y.1 + q ≤ y.2 ∧ sk B e y.2 = y.2 ∧ y.2 ≤ e) ∧ OkS nc nr y.1 r
def CF (S' : Hp) (B : Nat → Int) (e i : Nat) : WOut → Prop
  | .inl f => S' 1 6 = f.1 ∧ S' 1 7 = f.2
  | .inr y => Tp S' B e y.2 ∧ CSt S' y.1 i ∧ S' 3 4 = ((i + y.1.length : Nat) : Int)
def MF (S' : Hp) (B : Nat → Int) (e r j : Nat) : WOut → Prop
  | .inl f => Bd S' f.1 f.2
  | .inr y => (∃ p', Mp S' B e p' ∧ sk B e p' = y.2) ∧ MSt S' 145 y.1 j ∧ S' 132 30 = ((3 * (j + mL y.1) : Nat) : Int) ∧ S' 132 7 = 6 - (r : Int)
/-- the class keeps what is before i -/
def FC (i : Nat) (S S' : Hp) : Prop := Fr [1, 3, 4, 5, 6] S S' ∧ (∀ k, k < 3 → S' 1 k = S 1 k) ∧ ∀ j : Nat, j < i → S' 4 (j : Int) = S 4 (j : Int) ∧ S' 5 (j : Int) = S 5 (j : Int) ∧ S' 6 (j : Int) = S 6 (j : Int)
def FR (j : Nat) (S S' : Hp) : Prop := Fr [132, 145] S S' ∧ (∀ k, k < 4 ∨ (7 < k ∧ k ≠ 30) → S' 132 k = S 132 k) ∧ ∀ x : Nat, x < 3 * j → S' 145 (x : Int) = S 145 (x : Int)
theorem FC_tr {i i2 : Nat} {S S1 S2 : Hp} (h : FC i S S1) (h2 : FC i2 S1 S2) (hi : i ≤ i2) : FC i S S2 := ⟨fun o ho => (h2.1 o ho).trans (h.1 o ho), fun k hk1 => (h2.2.1 k hk1).trans (h.2.1 k hk1), fun j hj => by
  obtain ⟨a1, a2, a3⟩ := h.2.2 j hj
  obtain ⟨b1, b2, b3⟩ := h2.2.2 j (by omega)
  exact ⟨b1.trans a1, b2.trans a2, b3.trans a3⟩⟩
theorem FC_t {i : Nat} {S S' : Hp} (h : FT S S') : FC i S S' := ⟨fun o ho => h.1 o (fun z => ho (by rw [List.mem_singleton.mp z]; exact List.mem_cons_self ..)), fun k hk1 => h.2 k (Or.inl hk1), fun j _ => by
  rw [h.1 4 (by decide), h.1 5 (by decide), h.1 6 (by decide)]
  exact ⟨rfl, rfl, rfl⟩⟩
theorem FC_rf (i : Nat) (S : Hp) : FC i S S := ⟨fun _ _ => rfl, fun _ _ => rfl, fun _ _ => ⟨rfl, rfl, rfl⟩⟩
theorem FR_tr {i i2 : Nat} {S S1 S2 : Hp} (h : FR i S S1) (h2 : FR i2 S1 S2) (hi : i ≤ i2) : FR i S S2 := ⟨fun o ho => (h2.1 o ho).trans (h.1 o ho), fun k hk1 => (h2.2.1 k hk1).trans (h.2.1 k hk1), fun j hj => (h2.2.2 j (by omega)).trans (h.2.2 j hj)⟩
theorem FR_m {i : Nat} {S S' : Hp} (h : FM S S') : FR i S S' := ⟨fun o ho => h.1 o (fun z => ho (by rw [List.mem_singleton.mp z]; exact List.mem_cons_self ..)), fun k hk1 => h.2 k (by omega), fun j _ => by rw [h.1 145 (by decide)]⟩
theorem FR_7 {i : Nat} (S : Hp) {k : Int} (v : Int) (h : k = 4 ∨ k = 7) : FR i S (uS S 132 k v) := ⟨fun x hx => uS_row _ _ _ (fun z => hx (by rw [z]; exact List.mem_cons_self ..)), fun x hx => uS_ne _ _ (Or.inr (by omega)), fun x _ => uS_ne _ _ (Or.inl (by decide))⟩
theorem FR_rf (i : Nat) (S : Hp) : FR i S S := ⟨fun _ _ => rfl, fun _ _ => rfl, fun _ _ => rfl⟩
theorem CSt_ft {S S' : Hp} {L : List Tk} {i : Nat} (h : CSt S L i) (hF : FT S S') : CSt S' L i := CSt_ext L i (fun j _ _ => by
  rw [hF.1 4 (by decide), hF.1 5 (by decide), hF.1 6 (by decide)]
  exact ⟨rfl, rfl, rfl⟩) h
theorem MSt_m {S S' : Hp} {L : List Tk} {i : Nat} (h : MSt S 145 L i) (hF : FM S S') : MSt S' 145 L i := MSt_ext L i (fun j _ _ => by rw [hF.1 145 (by decide)]) h
section WK0
variable {X : Nat × (Nat → Int32)} {d : Nat} {w : Bool × Bool × Bool} {S : Hp} {J : Nat → Nat → Int64} {B : Nat → Int} {e p q i j : Nat}
def pS (S : Hp) (i k a b : Int) : Hp := uS (uS (uS (uS S 4 i k) 5 i a) 6 i b) 3 4 (i + 1)
theorem c_sput (w : Bool × Bool × Bool) (J : Nat → Nat → Int64) (h : S 3 4 = (i : Int)) (hi : i < 150) (k a b : Int) : ∃ S', (∀ d, am_call X aP (d + 1) 73 [.ref 3, .int (zI k), .int (zI a), .int (zI b)] (mkS w (hI S) J) = some (.inl (some (.int (zI 1))), (mkS w (hI S') J))) ∧ (S' 4 (i : Int) = k ∧ S' 5 (i : Int) = a ∧ S' 6 (i : Int) = b) ∧ S' 3 4 = ((i + 1 : Nat) : Int) ∧ (S' 1 = S 1 ∧ S' 2 = S 2) ∧ FC i S S' := by
  refine ⟨pS S i k a b, fun d => ?_, ⟨?_, ?_, ?_⟩, ?_, ⟨?_, ?_⟩, fun o ho => ?_, fun x hx => ?_, fun x hx => ⟨?_, ?_, ?_⟩⟩
  · rw [go_X6_put, e_X6_put_0]
    simp (disch := omega) only [hk, hu, hI_n, hI_un, z_nat, em_d, zl, z_add, z_sub, z_mul, z_lt, z_eq, gI_mk, gJ_mk, cI_some, cV_some, cJ_some, cI_x, cV_x, cJ_x, uS_self, uS_ne, if_pos, if_neg, b01, b01n, ite_not, if_true, if_false, Bool.false_eq_true, hLL, h, rI_d]
    rfl
  · unfold pS
    rw [uS_ne _ _ (Or.inl (by decide)), uS_ne _ _ (Or.inl (by decide)), uS_ne _ _ (Or.inl (by decide)), uS_self]
  · unfold pS
    rw [uS_ne _ _ (Or.inl (by decide)), uS_ne _ _ (Or.inl (by decide)), uS_self]
  · unfold pS
    rw [uS_ne _ _ (Or.inl (by decide)), uS_self]
  · unfold pS
    rw [uS_self]
    omega
  · unfold pS
    rw [uS_row _ _ _ (by decide), uS_row _ _ _ (by decide), uS_row _ _ _ (by decide), uS_row _ _ _ (by decide)]
  · unfold pS
    rw [uS_row _ _ _ (by decide), uS_row _ _ _ (by decide), uS_row _ _ _ (by decide), uS_row _ _ _ (by decide)]
  · simp only [List.mem_cons, List.not_mem_nil, or_false, not_or] at ho
    unfold pS
    rw [uS_row _ _ _ ho.2.1, uS_row _ _ _ ho.2.2.2.2, uS_row _ _ _ ho.2.2.2.1, uS_row _ _ _ ho.2.2.1]
  · unfold pS
    rw [uS_row _ _ _ (by decide), uS_row _ _ _ (by decide), uS_row _ _ _ (by decide), uS_row _ _ _ (by decide)]
  · unfold pS
    rw [uS_ne _ _ (Or.inl (by decide)), uS_ne _ _ (Or.inl (by decide)), uS_ne _ _ (Or.inl (by decide)), uS_ne _ _ (Or.inr (by omega))]
  · unfold pS
    rw [uS_ne _ _ (Or.inl (by decide)), uS_ne _ _ (Or.inl (by decide)), uS_ne _ _ (Or.inr (by omega)), uS_ne _ _ (Or.inl (by decide))]
  · unfold pS
    rw [uS_ne _ _ (Or.inl (by decide)), uS_ne _ _ (Or.inr (by omega)), uS_ne _ _ (Or.inl (by decide)), uS_ne _ _ (Or.inl (by decide))]
def qS (S : Hp) (x k a b : Int) : Hp := uS (uS (uS (uS S 145 x k) 145 (x + 1) a) 145 (x + 2) b) 132 30 (x + 3)
theorem m_tells (w : Bool × Bool × Bool) (J : Nat → Nat → Int64) (hM : Mp S B e p) (h : S 132 30 = ((3 * j : Nat) : Int)) (hj : 3 * j + 2 < 150) (k a b : Int) : ∃ S', (∀ d, am_call X aP (d + 2) 191 [.ref 132, .int (zI k), .int (zI a), .int (zI b)] (mkS w (hI S) J) = some (.inl none, (mkS w (hI S') J))) ∧ (S' 145 ((3 * j : Nat) : Int) = k ∧ S' 145 ((3 * j + 1 : Nat) : Int) = a ∧ S' 145 ((3 * j + 2 : Nat) : Int) = b) ∧ S' 132 30 = ((3 * (j + 1) : Nat) : Int) ∧ S' 132 7 = S 132 7 ∧ Mp S' B e p ∧ FR j S S' := by
  have h9 : S 132 30 = 3 * (j : Int) := by omega
  refine ⟨qS S (3 * (j : Int)) k a b, fun d => ?_, ⟨?_, ?_, ?_⟩, ?_, ?_, Mp_o hM (fun x x1 x2 => ?_) ?_, fun o ho => ?_, fun x hx => ?_, fun x hx => ?_⟩
  · rw [go_X10_tellsStep, e_X10_tellsStep_0, M_fine1 hM]
    simp (disch := omega) only [hk, hu, hI_n, hI_un, z_nat, em_d, zl, z_add, z_sub, z_mul, z_lt, z_eq, gI_mk, gJ_mk, cI_some, cV_some, cJ_some, cI_x, cV_x, cJ_x, uS_self, uS_ne, if_pos, if_neg, b01, b01n, ite_not, if_true, if_false, Bool.false_eq_true, h9, rV_d]
    rfl
  · unfold qS
    rw [uS_ne _ _ (Or.inl (by decide)), uS_ne _ _ (Or.inr (by omega)), uS_ne _ _ (Or.inr (by omega)), show ((3 * j : Nat) : Int) = 3 * (j : Int) by omega, uS_self]
  · unfold qS
    rw [uS_ne _ _ (Or.inl (by decide)), uS_ne _ _ (Or.inr (by omega)), show ((3 * j + 1 : Nat) : Int) = 3 * (j : Int) + 1 by omega, uS_self]
  · unfold qS
    rw [uS_ne _ _ (Or.inl (by decide)), show ((3 * j + 2 : Nat) : Int) = 3 * (j : Int) + 2 by omega, uS_self]
  · unfold qS
    rw [uS_self]
    omega
  · unfold qS
    rw [uS_ne _ _ (Or.inr (by decide)), uS_row _ _ _ (by decide), uS_row _ _ _ (by decide), uS_row _ _ _ (by decide)]
  · unfold qS
    rw [uS_ne _ _ (Or.inr (by omega)), uS_row _ _ _ (by decide), uS_row _ _ _ (by decide), uS_row _ _ _ (by decide)]
  · unfold qS
    rw [uS_row _ _ _ (by decide), uS_row _ _ _ (by decide), uS_row _ _ _ (by decide), uS_row _ _ _ (by decide)]
  · simp only [List.mem_cons, List.not_mem_nil, or_false, not_or] at ho
    unfold qS
    rw [uS_row _ _ _ ho.1, uS_row _ _ _ ho.2, uS_row _ _ _ ho.2, uS_row _ _ _ ho.2]
  · unfold qS
    rw [uS_ne _ _ (Or.inr (by omega)), uS_row _ _ _ (by decide), uS_row _ _ _ (by decide), uS_row _ _ _ (by decide)]
  · unfold qS
    rw [uS_ne _ _ (Or.inl (by decide)), uS_ne _ _ (Or.inr (by omega)), uS_ne _ _ (Or.inr (by omega)), uS_ne _ _ (Or.inr (by omega))]
theorem m_tellsB {k pl x a b : Int} (h : Bd S k pl) : am_call X aP (d + 2) 191 [.ref 132, .int (zI x), .int (zI a), .int (zI b)] (mkS w (hI S) J) = some (.inl none, (mkS w (hI S) J)) := by
  rw [go_X10_tellsStep, e_X10_tellsStep_0, M_fine0 h]
  simp (disch := omega) only [hk, hu, hI_n, hI_un, z_nat, em_d, zl, z_add, z_sub, z_mul, z_lt, z_eq, gI_mk, gJ_mk, cI_some, cV_some, cJ_some, cI_x, cV_x, cJ_x, uS_self, uS_ne, if_pos, if_neg, b01, b01n, ite_not, if_true, if_false, Bool.false_eq_true, rV_d]
def kStp (B : Nat → Int) (e q : Nat) : Int := if wd B e q = sx 12 then 0 else if wd B e q = sx 13 then 1 else if wd B e q = sx 7 then 2 else if wd B e q = sx 14 then 3 else if wd B e q = sx 9 then 4 else if wd B e q = sx 15 then 5 else -1
theorem m_stepOf : am_call X aP (d + 3) 192 [.int (zI ((wV B e q : Nat)))] (mkS w (hI S) J) = some (.inl (some (.int (zI (kStp B e q)))), (mkS w (hI S) J)) := by
  have hw := wV_lt B e q
  have go : ∀ (k : Nat), k < 16 → ((zI ((wV B e q : Nat) : Int) = zI ((pk5 (sx k) 0 : Nat) : Int)) ↔ wd B e q = sx k) := fun k hk9 => by
    rw [zW hw (W_lt k hk9)]
    exact wV_eq hk9
  unfold kStp
  rw [go_X10_stepOf, e_X10_stepOf_0]
  refine cI_go (r := zI ((pk5 (sx 12) 0 : Nat) : Int)) (st := mkS w (hI S) J) (M_of (by decide)) ?_
  by_cases k12 : wd B e q = sx 12
  · rw [if_pos k12]
    refine (if_pos ((go 12 (by decide)).mpr k12)).trans ?_
    simp (disch := omega) only [hk, hu, hI_n, hI_un, z_nat, em_d, zl, z_add, z_sub, z_mul, z_lt, z_eq, gI_mk, gJ_mk, cI_some, cV_some, cJ_some, cI_x, cV_x, cJ_x, uS_self, uS_ne, if_pos, if_neg, b01, b01n, ite_not, if_true, if_false, Bool.false_eq_true, rI_d]
  rw [if_neg k12]
  refine (if_neg (fun z => k12 ((go 12 (by decide)).mp z))).trans ?_
  refine cI_go (r := zI ((pk5 (sx 13) 0 : Nat) : Int)) (st := mkS w (hI S) J) (M_of (by decide)) ?_
  by_cases k13 : wd B e q = sx 13
  · rw [if_pos k13]
    refine (if_pos ((go 13 (by decide)).mpr k13)).trans ?_
    simp (disch := omega) only [hk, hu, hI_n, hI_un, z_nat, em_d, zl, z_add, z_sub, z_mul, z_lt, z_eq, gI_mk, gJ_mk, cI_some, cV_some, cJ_some, cI_x, cV_x, cJ_x, uS_self, uS_ne, if_pos, if_neg, b01, b01n, ite_not, if_true, if_false, Bool.false_eq_true, rI_d]
  rw [if_neg k13]
  refine (if_neg (fun z => k13 ((go 13 (by decide)).mp z))).trans ?_
  refine cI_go (r := zI ((pk5 (sx 7) 0 : Nat) : Int)) (st := mkS w (hI S) J) (M_of (by decide)) ?_
  by_cases k7 : wd B e q = sx 7
  · rw [if_pos k7]
    refine (if_pos ((go 7 (by decide)).mpr k7)).trans ?_
    simp (disch := omega) only [hk, hu, hI_n, hI_un, z_nat, em_d, zl, z_add, z_sub, z_mul, z_lt, z_eq, gI_mk, gJ_mk, cI_some, cV_some, cJ_some, cI_x, cV_x, cJ_x, uS_self, uS_ne, if_pos, if_neg, b01, b01n, ite_not, if_true, if_false, Bool.false_eq_true, rI_d]
  rw [if_neg k7]
  refine (if_neg (fun z => k7 ((go 7 (by decide)).mp z))).trans ?_
  refine cI_go (r := zI ((pk5 (sx 14) 0 : Nat) : Int)) (st := mkS w (hI S) J) (M_of (by decide)) ?_
  by_cases k14 : wd B e q = sx 14
  · rw [if_pos k14]
    refine (if_pos ((go 14 (by decide)).mpr k14)).trans ?_
    simp (disch := omega) only [hk, hu, hI_n, hI_un, z_nat, em_d, zl, z_add, z_sub, z_mul, z_lt, z_eq, gI_mk, gJ_mk, cI_some, cV_some, cJ_some, cI_x, cV_x, cJ_x, uS_self, uS_ne, if_pos, if_neg, b01, b01n, ite_not, if_true, if_false, Bool.false_eq_true, rI_d]
  rw [if_neg k14]
  refine (if_neg (fun z => k14 ((go 14 (by decide)).mp z))).trans ?_
  refine cI_go (r := zI ((pk5 (sx 9) 0 : Nat) : Int)) (st := mkS w (hI S) J) (M_of (by decide)) ?_
  by_cases k9 : wd B e q = sx 9
  · rw [if_pos k9]
    refine (if_pos ((go 9 (by decide)).mpr k9)).trans ?_
    simp (disch := omega) only [hk, hu, hI_n, hI_un, z_nat, em_d, zl, z_add, z_sub, z_mul, z_lt, z_eq, gI_mk, gJ_mk, cI_some, cV_some, cJ_some, cI_x, cV_x, cJ_x, uS_self, uS_ne, if_pos, if_neg, b01, b01n, ite_not, if_true, if_false, Bool.false_eq_true, rI_d]
  rw [if_neg k9]
  refine (if_neg (fun z => k9 ((go 9 (by decide)).mp z))).trans ?_
  refine cI_go (r := zI ((pk5 (sx 15) 0 : Nat) : Int)) (st := mkS w (hI S) J) (M_of (by decide)) ?_
  by_cases k15 : wd B e q = sx 15
  · rw [if_pos k15]
    refine (if_pos ((go 15 (by decide)).mpr k15)).trans ?_
    simp (disch := omega) only [hk, hu, hI_n, hI_un, z_nat, em_d, zl, z_add, z_sub, z_mul, z_lt, z_eq, gI_mk, gJ_mk, cI_some, cV_some, cJ_some, cI_x, cV_x, cJ_x, uS_self, uS_ne, if_pos, if_neg, b01, b01n, ite_not, if_true, if_false, Bool.false_eq_true, rI_d]
  rw [if_neg k15]
  refine (if_neg (fun z => k15 ((go 15 (by decide)).mp z))).trans ?_
  simp (disch := omega) only [hk, hu, hI_n, hI_un, z_nat, em_d, zl, z_add, z_sub, z_mul, z_lt, z_eq, gI_mk, gJ_mk, cI_some, cV_some, cJ_some, cI_x, cV_x, cJ_x, uS_self, uS_ne, if_pos, if_neg, b01, b01n, ite_not, if_true, if_false, Bool.false_eq_true, rI_d]
end WK0
