theorem nmq_0 {tx : Nat → Int32} {n p : Nat} : nmq tx n p 0 = p := if_pos rfl
theorem nmV_0 {tx : Nat → Int32} {n p : Nat} : nmV tx n p 0 = (dgt tx n p).1 := if_pos rfl
theorem nmE_0 {tx : Nat → Int32} {n p : Nat} : nmE tx n p 0 = (dgt tx n p).2 := if_pos rfl
theorem nmq_1 {tx : Nat → Int32} {n p : Nat} : nmq tx n p 1 = sgq tx n p := if_neg (by decide)
theorem nmV_1 {tx : Nat → Int32} {n p : Nat} : nmV tx n p 1 = (sgt tx n p).1 := if_neg (by decide)
theorem nmE_1 {tx : Nat → Int32} {n p : Nat} : nmE tx n p 1 = (sgt tx n p).2 := if_neg (by decide)
