/-! the greatest index that pulls enough, downward -/
def pm1 (c : Nat) : Int32 := nI c - 1
def gpN (S : Nat → Int32) (w : Int32) : Nat → Nat
  | 0 => 0
  | m + 1 => if w ≤ puS S m then m + 1 else gpN S w m
theorem gpN_s (S : Nat → Int32) (w : Int32) (m : Nat) : gpN S w (m + 1) = if w ≤ puS S m then m + 1 else gpN S w m := rfl
theorem gpN_z (S : Nat → Int32) (w : Int32) : gpN S w 0 = 0 := rfl
theorem gpN_le (S : Nat → Int32) (w : Int32) : ∀ c, gpN S w c ≤ c
  | 0 => Nat.le_refl 0
  | m + 1 => by
    rw [gpN_s]
    by_cases h : w ≤ puS S m
    · rw [if_pos h]; exact Nat.le_refl _
    · rw [if_neg h]; exact Nat.le_succ_of_le (gpN_le S w m)
theorem pm1_s (m : Nat) (h : m ≤ 1000) : pm1 (m + 1) = nI m := by
  unfold pm1
  rw [nI_m1 (by omega)]
  rfl
theorem pm1_b (m : Nat) : nI m + -1 = pm1 m := by
  unfold pm1
  rw [Int32.sub_eq_add_neg]
theorem pm1_t {c : Nat} (h : c ≤ 1000) : (pm1 c).toInt = (c : Int) - 1 := by
  have e := znI (n := c) (by omega)
  have e1 : (1 : Int32).toInt = 1 := by decide +kernel
  unfold pm1
  rw [zsub (by rw [e, e1]; omega) (by rw [e, e1]; omega), e, e1]
theorem pm1_f {c : Nat} {j : Int32} (hc : c ≤ 1000) (ej : j = pm1 c) (h : ¬ j < 0) : ∃ m, c = m + 1 ∧ j = nI m := by
  exact sf_1 (by rw [ej]; exact pm1_t hc) h
theorem pm1_0 {c : Nat} {j : Int32} (hc : c ≤ 1000) (ej : j = pm1 c) (h : j < 0) : c = 0 := sf_0 (by rw [ej]; exact pm1_t hc) h
