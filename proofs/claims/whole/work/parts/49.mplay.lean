/-! what fault and play answer -/
def ftR (S tx : Nat → Int32) (n : Nat) (ca w : Int32) : Int32 := if 0 ≤ w ∧ w ≤ 2 then (if (plR S tx n ca).2.2.2 = -1000004 then (plR S tx n ca).2.2.2 else if w = 0 then (plR S tx n ca).2.2.2 else if w = 1 then (if (plR S tx n ca).2.2.1 = 0 then 1 else 2) else (if (plR S tx n ca).2.2.1 = 0 then -1000004 else (plR S tx n ca).2.2.1)) else -1000001
theorem plN_ca {tx : Nat → Int32} {n : Nat} {ca ca' : Int32} : ∀ (f : Nat) (S : Nat → Int32) (p : Nat) (cm : Int32) (st : Nat) (go : Int32), (plN tx n f S p cm ca st go).1 = (plN tx n f S p cm ca' st go).1 ∧ (plN tx n f S p cm ca st go).2.1 = (plN tx n f S p cm ca' st go).2.1 ∧ (plN tx n f S p cm ca st go).2.2.2 = (plN tx n f S p cm ca' st go).2.2.2 := by
  intro f S p cm st go
  by_cases h : p < n ∧ ¬ go = 0
  · cases f with
    | zero => exact ⟨rfl, rfl, rfl⟩
    | succ f =>
      rw [plN_s h.1 h.2, plN_s h.1 h.2]
      exact ⟨rfl, rfl, rfl⟩
  · rw [plN_x h, plN_x h]
    exact ⟨rfl, rfl, rfl⟩
theorem plR_ca (S tx : Nat → Int32) (n : Nat) (ca ca' : Int32) : (plR S tx n ca).1 = (plR S tx n ca').1 ∧ (plR S tx n ca).2.1 = (plR S tx n ca').2.1 ∧ (plR S tx n ca).2.2.2 = (plR S tx n ca').2.2.2 := plN_ca 61 S 0 0 0 1
def pyR (S tx : Nat → Int32) (n : Nat) (ca : Int32) : Int32 := if (plR S tx n ca).2.2.2 = -1000004 then (plR S tx n ca).2.1 else -1000002
theorem psF_ok {ps : Int32} (h : 0 ≤ ps.toInt ∧ ps.toInt ≤ 4) : 0 ≤ (psF 0 ps).toInt ∧ (psF 0 ps).toInt ≤ 4 := by
  have e4 : (4 : Int32).toInt = 4 := by decide +kernel
  have e1 : (1 : Int32).toInt = 1 := by decide +kernel
  unfold psF
  rw [if_pos rfl]
  by_cases q : ps = 4
  · rw [if_pos q, e4]; omega
  · rw [if_neg q]
    have q2 : ps.toInt ≠ 4 := fun z => q ((zeq _ _).mpr (z.trans e4.symm))
    rw [zadd (by rw [e1]; omega) (by rw [e1]; omega), e1]
    omega
