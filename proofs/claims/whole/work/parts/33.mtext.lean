/-! the model's reading of texts -/
def nmq (tx : Nat → Int32) (n p : Nat) (sg : Int32) : Nat := if sg = 0 then p else sgq tx n p
def nmV (tx : Nat → Int32) (n p : Nat) (sg : Int32) : Int32 := if sg = 0 then (dgt tx n p).1 else (sgt tx n p).1
def nmE (tx : Nat → Int32) (n p : Nat) (sg : Int32) : Nat := if sg = 0 then (dgt tx n p).2 else (sgt tx n p).2
theorem skP_iff {tx : Nat → Int32} {n p : Nat} {c : Int32} : (p < n ∧ c ≤ tx p ∧ tx p ≤ c) ↔ skP tx n p c := by
  refine and_congr_right (fun _ => ?_)
  rw [zle, zle, zeq]
  omega
theorem add_sub3 (a b c : Int32) : a + b - c = a + (b - c) := by
  rw [Int32.sub_eq_add_neg, Int32.sub_eq_add_neg, Int32.add_assoc]
def rcT (tx : Nat → Int32) (n p : Nat) (nf : Nat → Int32) : Nat → Int32 := if isGR (tx p) then upd nf 0 (sgt tx n (p + 1)).1 else if tx p = 115 then (if dgO tx n (p + 1) ∧ skP tx n (dgt tx n (p + 1)).2 44 then upd (upd nf 0 (dgt tx n (p + 1)).1) 1 (sgt tx n (rcQ tx n p)).1 else upd nf 0 (dgt tx n (p + 1)).1) else nf
theorem sgt_pos {tx : Nat → Int32} {n p : Nat} (h : skP tx n p 45) : sgq tx n p = p + 1 ∧ (sgt tx n p).1 = -(dgt tx n (p + 1)).1 ∧ (sgt tx n p).2 = (dgt tx n (p + 1)).2 := by
  have e : sgq tx n p = p + 1 := by unfold sgq skN; exact if_pos h
  refine ⟨e, ?_, ?_⟩
  · unfold sgt
    rw [e, if_pos h]
  · unfold sgt
    rw [e]
theorem sgt_neg {tx : Nat → Int32} {n p : Nat} (h : ¬ skP tx n p 45) : sgq tx n p = p ∧ (sgt tx n p).1 = (dgt tx n p).1 ∧ (sgt tx n p).2 = (dgt tx n p).2 := by
  have e : sgq tx n p = p := by unfold sgq skN; exact if_neg h
  refine ⟨e, ?_, ?_⟩
  · unfold sgt
    rw [e, if_neg h]
  · unfold sgt
    rw [e]
