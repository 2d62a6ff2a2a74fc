/-! one command of a rehearsal, in the class's words -/
def cmX (kd se nu : Int32) : Int32 := if kd = 115 then se else nu
def stX (S : Nat → Int32) (w v : Int32) : Nat → Int32 := if stP w v then upd S w.toInt.toNat v else S
def caG (S : Nat → Int32) (k a b : Int32) : Nat → Int32 := if k = 103 then goF S a else if k = 104 then hmF S else if k = 114 then gbF S a else if k = 115 then stX S a b else upd S 37 0
theorem stX_hi {S : Nat → Int32} {w v : Int32} {k : Nat} (h : 8 ≤ k) : stX S w v k = S k := by
  unfold stX
  by_cases q : stP w v
  · rw [if_pos q]
    have hz := zp0 q.1.1
    have h7 := q.1.2
    rw [zle, show (7 : Int32).toInt = 7 from by decide +kernel] at h7
    exact upd_ne (by omega)
  · rw [if_neg q]
theorem stX_fr (S : Nat → Int32) (w v : Int32) : frS (stX S w v) = frS S := by
  funext k
  unfold frS
  exact stX_hi (by omega)
theorem stX_to (S : Nat → Int32) (w v : Int32) : toS (stX S w v) = toS S := by
  funext k
  unfold toS
  exact stX_hi (by omega)
theorem stX_wt (S : Nat → Int32) (w v : Int32) : wtS (stX S w v) = wtS S := by
  funext k
  unfold wtS
  exact stX_hi (by omega)
theorem stX_mv (S : Nat → Int32) (w v : Int32) : mvS (stX S w v) = mvS S := by
  funext k
  unfold mvS
  exact stX_hi (by omega)
theorem fgX_mv (S : Nat → Int32) : mvS (upd S 37 0) = mvS S := by
  funext k
  unfold mvS
  exact upd_ne (by omega)
