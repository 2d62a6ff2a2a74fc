/-! the model's homing: how many steps are missed in its parts -/
def crM (S : Nat → Int32) (dir w : Int32) : Nat → T6 → Int32 → Int32
  | 0, _, v => v
  | f + 1, x, v => if x.2.2.1 = w then v else crM S dir w f (stp S dir (ivS S 0) (puS S 0) x) (v + b01 (missP (ldS S x.2.1) (puS S 0) (x.2.1 + dir)))
theorem crM_0 {S : Nat → Int32} {dir w : Int32} {f : Nat} {x : T6} {v : Int32} (h : x.2.2.1 = w) : crM S dir w f x v = v := by
  cases f with
  | zero => rfl
  | succ f => exact if_pos h
theorem crM_1 {S : Nat → Int32} {dir w : Int32} {f : Nat} {x : T6} {v : Int32} (h : ¬ x.2.2.1 = w) : crM S dir w (f + 1) x v = crM S dir w f (stp S dir (ivS S 0) (puS S 0) x) (v + b01 (missP (ldS S x.2.1) (puS S 0) (x.2.1 + dir))) := if_neg h
def rdM (S : Nat → Int32) (G : Nat) (dir : Int32) : Nat → Nat → T6 → Int32 → Int32
  | 0, _, _, v => v
  | f + 1, i, x, v => if x.2.2.1 = 0 then rdM S G dir f (i + 1) (stp S dir (ivS S (min i G)) (puS S (min i G)) x) (v + b01 (missP (ldS S x.2.1) (puS S (min i G)) (x.2.1 + dir))) else v
theorem rdM_0 {S : Nat → Int32} {G : Nat} {dir : Int32} {f i : Nat} {x : T6} {v : Int32} (h : ¬ x.2.2.1 = 0) : rdM S G dir f i x v = v := by
  cases f with
  | zero => rfl
  | succ f => exact if_neg h
theorem rdM_1 {S : Nat → Int32} {G : Nat} {dir : Int32} {f i : Nat} {x : T6} {v : Int32} (h : x.2.2.1 = 0) : rdM S G dir (f + 1) i x v = rdM S G dir f (i + 1) (stp S dir (ivS S (min i G)) (puS S (min i G)) x) (v + b01 (missP (ldS S x.2.1) (puS S (min i G)) (x.2.1 + dir))) := if_pos h
def slM (S : Nat → Int32) (K : Nat) (x : T6) (v : Int32) (dir : Int32) : Nat → Int32
  | 0 => v
  | d + 1 => slM S K x v dir d + b01 (missP (ldS S (slw S K x d).2.1) (puS S (K - 1 - d)) ((slw S K x d).2.1 + dir))
theorem slM_s (S : Nat → Int32) (K : Nat) (x : T6) (v dir : Int32) (d : Nat) : slM S K x v dir (d + 1) = slM S K x v dir d + b01 (missP (ldS S (slw S K x d).2.1) (puS S (K - 1 - d)) ((slw S K x d).2.1 + dir)) := by
  rw [slM]
theorem slM_z (S : Nat → Int32) (K : Nat) (x : T6) (v dir : Int32) : slM S K x v dir 0 = v := by
  rw [slM]
/-- the model's row behind a step -/
theorem stpE (S : Nat → Int32) (y : T6) (dir iv pu : Int32) (f : Int32) (k : Nat) (h : f = iv) (hp : puS S k = pu) : putT (putT S y) (stp (putT S y) dir f (puT (putT S y 3) (putT S y 4) (nI k)) (getT (putT S y))) = putT S (stp S dir iv pu y) := by
  rw [putT_put, stp_put, getT_put, h, ← hp]
  rfl
theorem misE (S : Nat → Int32) (y : T6) (dir : Int32) (k : Nat) : b01 (missP (ldS (putT S y) (putT S y 11)) (puT (putT S y 3) (putT S y 4) (nI k)) (putT S y 11 + dir)) = b01 (missP (ldS S y.2.1) (puS S k) (y.2.1 + dir)) := by
  rw [ldS_put]
  rfl
theorem rd_j {k G : Nat} {ii : Int32} (h : (k = 0 ∧ ii = -1) ∨ (1 ≤ k ∧ ii = nI (min (k - 1) G))) : (min (k - 1) G = 0 ∧ ii - 1 < 0) ∨ (1 ≤ min (k - 1) G ∧ ii - 1 = nI (min (k - 1) G - 1)) := by
  rcases h with ⟨h1, h2⟩ | ⟨h1, h2⟩
  · exact Or.inl ⟨by omega, by rw [h2]; decide⟩
  · rcases Nat.eq_zero_or_pos (min (k - 1) G) with h3 | h3
    · exact Or.inl ⟨h3, by rw [h2, h3]; decide⟩
    · exact Or.inr ⟨h3, by rw [h2, nI_m1 h3]⟩
theorem rd_j2 {q : Nat} {j : Int32} (hq : 1 ≤ q) (h : j = nI (q - 1)) : (q - 1 = 0 ∧ j + (-1) < 0) ∨ (1 ≤ q - 1 ∧ j + (-1) = nI (q - 1 - 1)) := by
  rcases Nat.eq_zero_or_pos (q - 1) with h3 | h3
  · exact Or.inl ⟨h3, by rw [h, h3]; decide⟩
  · exact Or.inr ⟨h3, by rw [h, ← Int32.sub_eq_add_neg, nI_m1 h3]⟩
theorem rd_q0 {q : Nat} {j : Int32} (h : (q = 0 ∧ j < 0) ∨ (1 ≤ q ∧ j = nI (q - 1))) (hq : q < 2147483648) (hj : j < 0) : q = 0 := by
  rcases h with ⟨h1, h2⟩ | ⟨h1, h2⟩
  · exact h1
  · exact absurd hj (by rw [h2]; exact nI_pos (by omega))
theorem rd_q1 {q : Nat} {j : Int32} (h : (q = 0 ∧ j < 0) ∨ (1 ≤ q ∧ j = nI (q - 1))) (hj : ¬ j < 0) : 1 ≤ q ∧ j = nI (q - 1) := by
  rcases h with ⟨h1, h2⟩ | h1
  · exact absurd h2 hj
  · exact h1
theorem rd_g {S : Nat → Int32} (h7 : 0 ≤ (S 7).toInt ∧ (S 7).toInt ≤ 200) (h : ¬ nI (topS S) ≤ S 7) : S 7 = nI (hG S) := by
  have e7 : S 7 = nI (S 7).toInt.toNat := zof h7.1
  rcases Nat.lt_or_ge (S 7).toInt.toNat (topS S) with q | q
  · unfold hG
    rw [Nat.min_eq_left (by omega)]
    exact e7
  · rw [e7] at h
    exact absurd (nI_le q (by omega)) h
theorem rd_g2 {S : Nat → Int32} (h7 : 0 ≤ (S 7).toInt ∧ (S 7).toInt ≤ 200) (h : nI (topS S) ≤ S 7) (ht : topS S < 2147483648 := by omega) : nI (topS S) = nI (hG S) := by
  have e7 : S 7 = nI (S 7).toInt.toNat := zof h7.1
  rw [e7] at h
  have := nle_of ht (by omega) h
  unfold hG
  rw [Nat.min_eq_right this]
theorem rd_i {k G : Nat} {ii : Int32} (h : (k = 0 ∧ ii = -1) ∨ (1 ≤ k ∧ ii = nI (min (k - 1) G))) (hc : ¬ nI G ≤ ii) (hG : G ≤ 200 := by omega) : ii + 1 = nI (min k G) := by
  rcases h with ⟨h1, h2⟩ | ⟨h1, h2⟩
  · rw [h2, h1, Nat.zero_min]
    rfl
  · rw [h2, nI_1]
    refine congrArg nI ?_
    rw [h2] at hc
    rcases Nat.lt_or_ge (min (k - 1) G) G with q | q
    · omega
    · exact absurd (nI_le q (by omega)) hc
theorem rd_i2 {k G : Nat} {ii : Int32} (h : (k = 0 ∧ ii = -1) ∨ (1 ≤ k ∧ ii = nI (min (k - 1) G))) (hc : nI G ≤ ii) (hG : G ≤ 200 := by omega) : nI G = nI (min k G) := by
  rcases h with ⟨h1, h2⟩ | ⟨h1, h2⟩
  · rw [h2] at hc
    exact absurd hc (by rw [zle, znI (by omega), show (-1 : Int32).toInt = -1 from by decide +kernel]; omega)
  · rw [h2] at hc
    have := nle_of (by omega) (by omega) hc
    exact congrArg nI (by omega)
