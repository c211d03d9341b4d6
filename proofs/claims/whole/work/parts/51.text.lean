/-! TEXTS as lists: what stands from a place on -/
def suf (B : Nat → Int) (e p : Nat) : List Int := (List.range' p (e - p)).map B
theorem suf_nil {B : Nat → Int} {e p : Nat} (h : e ≤ p) : suf B e p = [] := by
  unfold suf
  rw [Nat.sub_eq_zero_of_le h]
  rfl
theorem suf_cons {B : Nat → Int} {e p : Nat} (h : p < e) : suf B e p = B p :: suf B e (p + 1) := by
  unfold suf
  rw [show e - p = (e - (p + 1)) + 1 by omega, List.range'_succ]
  rfl
theorem suf_len {B : Nat → Int} {e p : Nat} : (suf B e p).length = e - p := by
  unfold suf
  rw [List.length_map, List.length_range']
theorem suf_drop {B : Nat → Int} {e p k : Nat} : (suf B e p).drop k = suf B e (p + k) := by
  induction k generalizing p with
  | zero => rfl
  | succ k ih =>
    by_cases h : p < e
    · rw [suf_cons h, List.drop_succ_cons, ih, show p + 1 + k = p + (k + 1) by omega]
    · rw [suf_nil (by omega), suf_nil (by omega), List.drop_nil]
/-- blanks are passed -/
def dw (t : List Int) : List Int := t.dropWhile (fun c => c == 32)
/-- where one is behind the blanks -/
def sk (B : Nat → Int) (e p : Nat) : Nat := p + ((suf B e p).takeWhile (fun c => c == 32)).length
theorem sk_blank {B : Nat → Int} {e p : Nat} (h : p < e) (hb : B p = 32) : sk B e p = sk B e (p + 1) := by
  unfold sk
  rw [suf_cons h, List.takeWhile_cons, if_pos (by simp [hb]), List.length_cons]
  omega
theorem sk_stop {B : Nat → Int} {e p : Nat} (hb : p < e → ¬ B p = 32) : sk B e p = p := by
  unfold sk
  by_cases h : p < e
  · rw [suf_cons h, List.takeWhile_cons, if_neg (by simp [hb h])]
    rfl
  · rw [suf_nil (by omega)]
    rfl
theorem sk_ge {B : Nat → Int} {e p : Nat} : p ≤ sk B e p := Nat.le_add_right _ _
theorem sk_le {B : Nat → Int} {e p : Nat} (h : p ≤ e) : sk B e p ≤ e := by
  unfold sk
  have h1 := (List.takeWhile_sublist (l := suf B e p) (fun c => c == 32)).length_le
  rw [suf_len] at h1
  omega
theorem sk_suf {B : Nat → Int} {e p : Nat} : suf B e (sk B e p) = dw (suf B e p) := by
  unfold sk dw
  rw [← suf_drop]
  generalize suf B e p = t
  induction t with
  | nil => rfl
  | cons c t ih =>
    rw [List.takeWhile_cons, List.dropWhile_cons]
    by_cases h : c == 32
    · rw [if_pos h, if_pos h, List.length_cons, List.drop_succ_cons]
      exact ih
    · rw [if_neg h, if_neg h]
      rfl
theorem sk_not {B : Nat → Int} {e p : Nat} (h : sk B e p < e) : ¬ B (sk B e p) = 32 := by
  intro hb
  have h1 := @sk_suf B e p
  rw [suf_cons h, hb] at h1
  have h2 : ∀ t : List Int, ∀ r, dw t = 32 :: r → False := by
    intro t
    induction t with
    | nil => intro r h; cases h
    | cons c t ih =>
      intro r h
      unfold dw at h ih
      rw [List.dropWhile_cons] at h
      by_cases hc : c == 32
      · rw [if_pos hc] at h
        exact ih r h
      · rw [if_neg hc] at h
        cases h
        exact hc rfl
  exact h2 _ _ h1.symm
theorem sk_sk {B : Nat → Int} {e p : Nat} : sk B e (sk B e p) = sk B e p := sk_stop (fun h => sk_not h)
def isD (c : Int) : Bool := decide (48 ≤ c) && decide (c ≤ 57)
def isL (c : Int) : Bool := decide (97 ≤ c) && decide (c ≤ 122)
