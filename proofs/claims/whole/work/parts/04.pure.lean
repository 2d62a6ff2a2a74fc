/-! the pure functions that both sides compute -/
def dirT (fm tg : Int32) : Int32 := if tg < fm then -1 else 1
theorem nlt_of {n k : Nat} (hn : n < 2147483648) (h : ¬ nI n ≤ nI k) : k < n := by
  rcases Nat.lt_or_ge k n with q | q
  · exact q
  · exfalso
    rcases Nat.lt_or_ge k 2147483648 with q2 | q2
    · exact h (nI_le q q2)
    · omega
theorem nle_of {n k : Nat} (hn : n < 2147483648) (hk : k < 2147483648) (h : nI n ≤ nI k) : n ≤ k := (nI_leI hn hk).mp h
/-- the sum of the weights of the first n loads at a place -/
def lsum (fr to wt : Nat → Int32) (p : Int32) : Nat → Int32
  | 0 => 0
  | n + 1 => lsum fr to wt p n + (if fr n ≤ p ∧ p ≤ to n then wt n else 0)
theorem lsum_yes {fr to wt : Nat → Int32} {p : Int32} {n : Nat} (h : fr n ≤ p ∧ p ≤ to n) : lsum fr to wt p (n + 1) = lsum fr to wt p n + wt n := by
  show lsum fr to wt p n + (if fr n ≤ p ∧ p ≤ to n then wt n else 0) = _
  rw [if_pos h]
theorem lsum_no {fr to wt : Nat → Int32} {p : Int32} {n : Nat} (h : ¬ (fr n ≤ p ∧ p ≤ to n)) : lsum fr to wt p (n + 1) = lsum fr to wt p n := by
  show lsum fr to wt p n + (if fr n ≤ p ∧ p ≤ to n then wt n else 0) = _
  rw [if_neg h, Int32.add_zero]
def swc (pc sw pl cl : Int32) : Int32 := if pc ≤ sw then 1 else if sw + pl < pc then 0 else cl
abbrev missP (w pull nx : Int32) : Prop := (nx < -3000 ∨ 3000 < nx) ∨ pull < w
def rem1 (x : Int32) : Int32 := x - x / 1000000 * 1000000
