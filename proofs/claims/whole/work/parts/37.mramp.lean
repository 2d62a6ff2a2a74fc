/-! the model's ramp -/
def smP (S : Nat → Int32) : Nat → Int32
  | 0 => 0
  | k + 1 => smP S k + ivS S k
theorem smP_s (S : Nat → Int32) : ∀ k, smP S (k + 1) = smS S k
  | 0 => by
    rw [smP, smP, smS, Int32.zero_add]
  | k + 1 => by
    rw [smP, smP_s S k, smS]
abbrev rpP (n w : Int32) : Prop := 0 ≤ n ∧ 0 ≤ w ∧ w ≤ 3
def rpR (S : Nat → Int32) (n w : Int32) : Int32 := if rpP n w then (if n ≤ nI (topS S) then (if w = 0 then ivS S n.toInt.toNat else if w = 1 then rsS S n.toInt.toNat else if w = 2 then puT (S 3) (S 4) n else smS S n.toInt.toNat) else -1000004) else -1000001
theorem lop_f {k N : Nat} {j n : Int32} (hk : k < 2147483648) (hN : N < 2147483648) (ei : j = nI k) (en : n = nI N) (h : ¬ n < j) : k ≤ N := by
  rw [ei, en, nI_lt' hN hk] at h
  omega
theorem lop_t {k N : Nat} {j n : Int32} (hk : k < 2147483648) (hN : N < 2147483648) (ei : j = nI k) (en : n = nI N) (h : n < j) : N + 1 ≤ k := by
  rw [ei, en, nI_lt' hN hk] at h
  omega
theorem nle_le {n : Int32} {N t : Nat} (ht : t < 2147483648) (h : n ≤ nI t) (en : n = nI N) (hN : N = n.toInt.toNat) : N ≤ t := by
  have := zhi n
  rw [en] at h
  exact nle_of (by omega) ht h
