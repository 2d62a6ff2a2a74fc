/-! loads on the row of 63 -/
def adS (S : Nat → Int32) (p q w : Int32) : Nat → Int32 := upd (upd (upd (upd S (19 + 3 * (S 18).toInt.toNat) p) (19 + 3 * (S 18).toInt.toNat + 1) q) (19 + 3 * (S 18).toInt.toNat + 2) w) 18 (S 18 + 1)
theorem adS_18 (S : Nat → Int32) (p q w : Int32) (k : Nat) : upd (upd (upd S (19 + 3 * k) p) (19 + 3 * k + 1) q) (19 + 3 * k + 2) w 18 = S 18 := by
  unfold upd
  rw [if_neg (by omega), if_neg (by omega), if_neg (by omega)]
/-- row 18 is one less, and the cells from 19 + 3 J up to i hold those three further -/
def drL (S : Nat → Int32) (J i : Nat) : Nat → Int32 := fun m => if m = 18 then S 18 - 1 else if 19 + 3 * J ≤ m ∧ m < i then S (m + 3) else S m
def drS (S : Nat → Int32) (J : Nat) : Nat → Int32 := drL S J (19 + 3 * ((S 18).toInt.toNat - 1))
theorem drL_0 (S : Nat → Int32) (J : Nat) : drL S J (19 + 3 * J) = upd S 18 (S 18 - 1) := by
  funext m
  unfold drL upd
  by_cases h : m = 18
  · rw [if_pos h, if_pos h]
  · rw [if_neg h, if_neg h, if_neg (by omega)]
theorem drL_18 (S : Nat → Int32) (J i : Nat) : drL S J i 18 = S 18 - 1 := if_pos rfl
theorem drL_r (S : Nat → Int32) {J k : Nat} (h : 19 + 3 * J ≤ k) : drL S J k (k + 3) = S (k + 3) := by
  unfold drL
  rw [if_neg (by omega), if_neg (by omega)]
theorem drL_s (S : Nat → Int32) {J k : Nat} (h : 19 + 3 * J ≤ k) : upd (drL S J k) k (S (k + 3)) = drL S J (k + 1) := by
  funext m
  unfold upd drL
  by_cases e : m = k
  · rw [if_pos e, if_neg (by omega), if_pos (by omega), e]
  · rw [if_neg e]
    by_cases h18 : m = 18
    · rw [if_pos h18, if_pos h18]
    · rw [if_neg h18, if_neg h18]
      by_cases h2 : 19 + 3 * J ≤ m ∧ m < k
      · rw [if_pos h2, if_pos (by omega)]
      · rw [if_neg h2, if_neg (by omega)]
theorem ix3 {j w : Int32} (hj : ¬ j < 0) (hw : 0 ≤ w ∧ w ≤ 2) (hjn : j.toInt < (6 : Int)) : (19 : Int32) + 3 * j + w = nI (19 + 3 * j.toInt.toNat + w.toInt.toNat) ∧ 19 + 3 * j.toInt.toNat + w.toInt.toNat < 63 := by
  rw [zlt, i0] at hj
  rw [zle, zle, i0] at hw
  have e2 : (2 : Int32).toInt = 2 := rfl
  have ej : j = nI j.toInt.toNat := zof (by omega)
  have ew : w = nI w.toInt.toNat := zof (by omega)
  refine ⟨?_, by omega⟩
  generalize j.toInt.toNat = J at *
  generalize w.toInt.toNat = V at *
  rw [ej, ew, ldx, nI_add]
theorem w3 {w : Int32} (h : 0 ≤ w ∧ w ≤ 2) : (w = 0 ∧ w.toInt.toNat = 0) ∨ (w = 1 ∧ w.toInt.toNat = 1) ∨ (w = 2 ∧ w.toInt.toNat = 2) := by
  rw [zle, zle, i0] at h
  have e2 : (2 : Int32).toInt = 2 := rfl
  have e1 : (1 : Int32).toInt = 1 := rfl
  rw [zeq, zeq, zeq, i0, e1, e2]
  omega
theorem pr_eq (S : Nat → Int32) {j w : Int32} (hj : ¬ j < 0) (hw : 0 ≤ w ∧ w ≤ 2) (hjn : j < S 18) : prR (frS S) (toS S) (wtS S) (S 18) j w = S (19 + 3 * j.toInt.toNat + w.toInt.toNat) := by
  unfold prR
  rw [if_pos ⟨hj, hw⟩, if_pos hjn]
  rcases w3 hw with ⟨e, e2⟩ | ⟨e, e2⟩ | ⟨e, e2⟩
  · rw [if_pos e, e2]; rfl
  · rw [if_neg (by rw [e]; decide), if_pos e, e2]; rfl
  · rw [if_neg (by rw [e]; decide), if_neg (by rw [e]; decide), e2]; rfl
def laR (S : Nat → Int32) (p : Int32) : Int32 := if -3000 ≤ p ∧ p ≤ 3000 then ldS S p else -1000001
theorem rf_n1 {S : Nat → Int32} {tg : Int32} (h : ¬ okQ tg) : ¬ rfR S tg = 0 := by
  unfold rfR
  rw [if_neg h]
  decide
theorem rf_y1 {S : Nat → Int32} {tg : Int32} (h : okQ tg) (h2 : S 13 = 0) : rfR S tg = 0 := by
  unfold rfR
  rw [if_pos h, if_neg (fun q => q.1 h2)]
theorem rf_y2 {S : Nat → Int32} {tg : Int32} (h : okQ tg) (h2 : S 8 ≤ tg ∧ tg ≤ S 9) : rfR S tg = 0 := by
  unfold rfR
  rw [if_pos h, if_neg (fun q => q.2 h2)]
theorem rf_n2 {S : Nat → Int32} {tg : Int32} (h : okQ tg) (h2 : ¬ S 13 = 0) (h3 : ¬ (S 8 ≤ tg ∧ tg ≤ S 9)) : ¬ rfR S tg = 0 := by
  unfold rfR
  rw [if_pos h, if_pos ⟨h2, h3⟩]
  decide
/-! the kept moves on the row of 63 -/
def gaE (S : Nat → Int32) (tg : Int32) : Int32 := gat S (topS S) (gD S tg) (gDir S tg) (gD S tg)
def msh (B : Nat → Int32) (k : Nat) : Nat → Int32 := fun j => if 38 + k < j ∧ j < 63 then B (j - 5) else B j
theorem msh_24 (B : Nat → Int32) {j : Nat} (h : j < 63) : msh B 24 j = B j := if_neg (by omega)
theorem msh_r (B : Nat → Int32) (k : Nat) : msh B k (33 + k) = B (33 + k) := if_neg (by omega)
theorem msh_s (B : Nat → Int32) {k : Nat} (h : 5 ≤ k) (h2 : k ≤ 24) : upd (msh B k) (38 + k) (B (33 + k)) = msh B (k - 1) := by
  funext j
  unfold upd msh
  by_cases e : j = 38 + k
  · rw [if_pos e, if_pos (by omega), show j - 5 = 33 + k by omega]
  · rw [if_neg e]
    by_cases q : 38 + k < j ∧ j < 63
    · rw [if_pos q, if_pos (by omega)]
    · rw [if_neg q, if_neg (by omega)]
theorem mvx {k : Nat} (h : 5 ≤ k) : (38 : Int32) + nI k - 5 = nI (33 + k) := by
  rw [show (38 : Int32) = nI 38 from rfl, nI_add, show (5 : Int32) = nI 5 from rfl, pk_sub (by omega)]
  exact congrArg nI (by omega)
theorem msh_37 (S : Nat → Int32) (tg : Int32) : msh (putT S (goX S tg)) 4 37 = S 37 := by
  unfold msh
  rw [if_neg (by omega), putT_hi S _ (by omega)]
theorem mv_goS (S : Nat → Int32) (tg : Int32) {k : Nat} (h : k < 63) : upd (upd (upd (upd (upd (upd (msh (putT S (goX S tg)) 4) 38 (S 10)) 39 tg) 40 (goM S tg)) 41 (goP S tg)) 42 (grN (topS S) (gD S tg))) 37 (kpN (S 37)) k = goS S tg k := by
  unfold upd goS kpF
  by_cases h37 : k = 37
  · rw [if_pos h37, if_pos h37]
  rw [if_neg h37, if_neg h37]
  by_cases h38 : 38 ≤ k
  · rw [if_pos h38]
    by_cases e42 : k = 42
    · subst e42; rfl
    by_cases e41 : k = 41
    · subst e41; rfl
    by_cases e40 : k = 40
    · subst e40; rfl
    by_cases e39 : k = 39
    · subst e39; rfl
    by_cases e38 : k = 38
    · subst e38; rfl
    rw [if_neg e42, if_neg e41, if_neg e40, if_neg e39, if_neg e38, if_neg (by omega), if_neg (by omega), if_neg (by omega), if_neg (by omega), if_neg (by omega)]
    unfold msh mvS
    rw [if_pos (by omega), putT_hi S _ (by omega), show 38 + (k - 38 - 5) = k - 5 by omega]
  · rw [if_neg h38, if_neg (by omega), if_neg (by omega), if_neg (by omega), if_neg (by omega), if_neg (by omega)]
    unfold msh
    rw [if_neg (by omega)]
theorem rf_np {S : Nat → Int32} {tg : Int32} (h : okQ tg) (h2 : ¬ rfR S tg = 0) : rfR S tg = -1000002 := by
  unfold rfR at *
  rw [if_pos h] at *
  by_cases q : ¬ S 13 = 0 ∧ ¬ (S 8 ≤ tg ∧ tg ≤ S 9)
  · rw [if_pos q]
  · rw [if_neg q] at h2
    exact absurd rfl h2
theorem gb_no3 {S : Nat → Int32} {n : Int32} (h : okQ n) (h2 : ¬ rfR S (S 10 + n) = 0) : ¬ gbC S n = 0 := by
  unfold gbC
  rw [if_pos h]
  by_cases q : okQ (S 10 + n)
  · rw [if_pos q]; exact h2
  · rw [if_neg q]; decide
theorem gb_np {S : Nat → Int32} {n : Int32} (h : okQ n) (h2 : ¬ rfR S (S 10 + n) = 0) : gbR S n = -1000002 := by
  unfold gbR
  rw [if_pos h]
  by_cases q : okQ (S 10 + n)
  · rw [if_pos q]
    unfold goR
    rw [if_neg h2]
    exact rf_np q h2
  · rw [if_neg q]
theorem gb_y0 {S : Nat → Int32} {n : Int32} (h : okQ n) (h2 : rfR S (S 10 + n) = 0) : gbC S n = 0 := by
  rw [gb_yes2 h (rf_ok h2)]
  exact h2
theorem gb_y {S : Nat → Int32} {n : Int32} (h : okQ n) (h2 : rfR S (S 10 + n) = 0) : gbR S n = goM S (S 10 + n) := by
  unfold gbR
  rw [if_pos h, if_pos (show okQ (S 10 + n) from rf_ok h2)]
  exact if_pos h2
theorem ix5m {j w : Int32} (hj : ¬ j < 0) (hjn : j.toInt < (5 : Int)) (hw : 0 ≤ w ∧ w ≤ 4) : (38 : Int32) + 5 * j + w = nI (38 + (5 * j.toInt.toNat + w.toInt.toNat)) ∧ 38 + (5 * j.toInt.toNat + w.toInt.toNat) < 63 := by
  rw [zlt, i0] at hj
  rw [zle, zle, i0] at hw
  have ej : j = nI j.toInt.toNat := zof (by omega)
  have ew : w = nI w.toInt.toNat := zof (by omega)
  have := i4
  refine ⟨?_, by omega⟩
  generalize j.toInt.toNat = J at *
  generalize w.toInt.toNat = V at *
  rw [ej, ew, show (38 : Int32) = nI 38 from rfl, show (5 : Int32) = nI 5 from rfl, pk_mul, nI_add, nI_add]
  exact congrArg nI (by omega)
