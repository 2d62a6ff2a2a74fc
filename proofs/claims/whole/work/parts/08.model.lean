/-! loads on the row of 63 -/
def adS (S : Nat → Int32) (p q w : Int32) : Nat → Int32 := upd (upd (upd (upd S (19 + 3 * (S 18).toInt.toNat) p) (19 + 3 * (S 18).toInt.toNat + 1) q) (19 + 3 * (S 18).toInt.toNat + 2) w) 18 (S 18 + 1)
theorem adS_18 (S : Nat → Int32) (p q w : Int32) (k : Nat) : upd (upd (upd S (19 + 3 * k) p) (19 + 3 * k + 1) q) (19 + 3 * k + 2) w 18 = S 18 := by
  unfold upd
  rw [if_neg (by omega), if_neg (by omega), if_neg (by omega)]
/-- row 18 is one less, and the cells from 19 + 3 J up to i hold those three further -/
def drL (S : Nat → Int32) (J i : Nat) : Nat → Int32 := fun m => if m = 18 then S 18 - 1 else if 19 + 3 * J ≤ m ∧ m < i then S (m + 3) else S m
def drS (S : Nat → Int32) (J : Nat) : Nat → Int32 := drL S J (19 + 3 * ((S 18).toInt.toNat - 1))
theorem drL_0 (S : Nat → Int32) (J : Nat) : drL S J (19 + 3 * J) = upd S 18 (S 18 - 1) := by
  funext m
  unfold drL upd
  by_cases h : m = 18
  · rw [if_pos h, if_pos h]
  · rw [if_neg h, if_neg h, if_neg (by omega)]
theorem drL_18 (S : Nat → Int32) (J i : Nat) : drL S J i 18 = S 18 - 1 := if_pos rfl
theorem drL_r (S : Nat → Int32) {J k : Nat} (h : 19 + 3 * J ≤ k) : drL S J k (k + 3) = S (k + 3) := by
  unfold drL
  rw [if_neg (by omega), if_neg (by omega)]
theorem drL_s (S : Nat → Int32) {J k : Nat} (h : 19 + 3 * J ≤ k) : upd (drL S J k) k (S (k + 3)) = drL S J (k + 1) := by
  funext m
  unfold upd drL
  by_cases e : m = k
  · rw [if_pos e, if_neg (by omega), if_pos (by omega), e]
  · rw [if_neg e]
    by_cases h18 : m = 18
    · rw [if_pos h18, if_pos h18]
    · rw [if_neg h18, if_neg h18]
      by_cases h2 : 19 + 3 * J ≤ m ∧ m < k
      · rw [if_pos h2, if_pos (by omega)]
      · rw [if_neg h2, if_neg (by omega)]
theorem ix3 {j w : Int32} (hj : ¬ j < 0) (hw : 0 ≤ w ∧ w ≤ 2) (hjn : j.toInt < (6 : Int)) : (19 : Int32) + 3 * j + w = nI (19 + 3 * j.toInt.toNat + w.toInt.toNat) ∧ 19 + 3 * j.toInt.toNat + w.toInt.toNat < 63 := by
  rw [zlt, i0] at hj
  rw [zle, zle, i0] at hw
  have e2 : (2 : Int32).toInt = 2 := rfl
  have ej : j = nI j.toInt.toNat := zof (by omega)
  have ew : w = nI w.toInt.toNat := zof (by omega)
  refine ⟨?_, by omega⟩
  generalize j.toInt.toNat = J at *
  generalize w.toInt.toNat = V at *
  rw [ej, ew, ldx, nI_add]
theorem w3 {w : Int32} (h : 0 ≤ w ∧ w ≤ 2) : (w = 0 ∧ w.toInt.toNat = 0) ∨ (w = 1 ∧ w.toInt.toNat = 1) ∨ (w = 2 ∧ w.toInt.toNat = 2) := by
  rw [zle, zle, i0] at h
  have e2 : (2 : Int32).toInt = 2 := rfl
  have e1 : (1 : Int32).toInt = 1 := rfl
  rw [zeq, zeq, zeq, i0, e1, e2]
  omega
theorem pr_eq (S : Nat → Int32) {j w : Int32} (hj : ¬ j < 0) (hw : 0 ≤ w ∧ w ≤ 2) (hjn : j < S 18) : prR (frS S) (toS S) (wtS S) (S 18) j w = S (19 + 3 * j.toInt.toNat + w.toInt.toNat) := by
  unfold prR
  rw [if_pos ⟨hj, hw⟩, if_pos hjn]
  rcases w3 hw with ⟨e, e2⟩ | ⟨e, e2⟩ | ⟨e, e2⟩
  · rw [if_pos e, e2]; rfl
  · rw [if_neg (by rw [e]; decide), if_pos e, e2]; rfl
  · rw [if_neg (by rw [e]; decide), if_neg (by rw [e]; decide), e2]; rfl
def laR (S : Nat → Int32) (p : Int32) : Int32 := if -3000 ≤ p ∧ p ≤ 3000 then ldS S p else -1000001
theorem rf_n1 {S : Nat → Int32} {tg : Int32} (h : ¬ okQ tg) : ¬ rfR S tg = 0 := by
  unfold rfR
  rw [if_neg h]
  decide
theorem rf_y1 {S : Nat → Int32} {tg : Int32} (h : okQ tg) (h2 : S 13 = 0) : rfR S tg = 0 := by
  unfold rfR
  rw [if_pos h, if_neg (fun q => q.1 h2)]
theorem rf_y2 {S : Nat → Int32} {tg : Int32} (h : okQ tg) (h2 : S 8 ≤ tg ∧ tg ≤ S 9) : rfR S tg = 0 := by
  unfold rfR
  rw [if_pos h, if_neg (fun q => q.2 h2)]
theorem rf_n2 {S : Nat → Int32} {tg : Int32} (h : okQ tg) (h2 : ¬ S 13 = 0) (h3 : ¬ (S 8 ≤ tg ∧ tg ≤ S 9)) : ¬ rfR S tg = 0 := by
  unfold rfR
  rw [if_pos h, if_pos ⟨h2, h3⟩]
  decide
