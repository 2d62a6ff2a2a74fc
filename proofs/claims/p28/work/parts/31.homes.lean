/-! the model's homing as a whole -/
def hmM1 (S : Nat → Int32) (mn : Int32) : Int32 := rdM S (hG S) (-1) 4000 0 (getT S) mn
def hmM2 (S : Nat → Int32) (mn : Int32) : Int32 := slM S (kSl S) (h1 S).1 (hmM1 S mn) (-1) (kSl S)
def hmM3 (S : Nat → Int32) (mn : Int32) : Int32 := crM S 1 0 4000 (hx1 S) (hmM2 S mn)
def hmM4 (S : Nat → Int32) (mn : Int32) : Int32 := crM S (-1) 1 4000 (h2 S).1 (hmM3 S mn)
def hmM (S : Nat → Int32) (mn : Int32) : Int32 := if hP1 S then (if hP2 S then hmM4 S mn else hmM3 S mn) else hmM1 S mn
theorem hmX_eq (S : Nat → Int32) (x : T6) : upd (upd (upd (putT S x) 10 0) 13 1) 12 (-(x.2.1)) = hmX S x := by
  funext j
  unfold upd hmX
  by_cases a : j = 10
  · subst a; rfl
  by_cases b : j = 13
  · subst b; rfl
  by_cases c : j = 12
  · subst c; rfl
  rw [if_neg c, if_neg b, if_neg a, if_neg a, if_neg b, if_neg c]
theorem fillT_2 (g f : Nat → Int32) (n : Nat) : fillT g (fillT g f n) n = fillT g f n := by
  funext j
  unfold fillT
  by_cases h : j < n
  · rw [if_pos h, if_pos h]
  · rw [if_neg h, if_neg h]
theorem kSl_le {S : Nat → Int32} (hok : setOk S) : kSl S ≤ 200 := by
  have h1 : hG S ≤ topS S := Nat.min_le_right _ _
  have h2 := topS_le hok
  have h3 : kSl S ≤ hG S := Nat.min_le_right _ _
  omega
theorem h1_le (S : Nat → Int32) : (h1 S).2 ≤ 4000 := by
  have := rdn_le (S := S) (G := hG S) 4000 0 (getT S)
  unfold h1
  omega
theorem h2_le (S : Nat → Int32) : (h2 S).2 ≤ 4000 := by
  have := crp_le (S := S) (dir := 1) (w := 0) 4000 0 (hx1 S)
  unfold h2
  omega
theorem h3_le (S : Nat → Int32) : (h3 S).2 ≤ 4000 := by
  have := crp_le (S := S) (dir := -1) (w := 1) 4000 0 (h2 S).1
  unfold h3
  omega
