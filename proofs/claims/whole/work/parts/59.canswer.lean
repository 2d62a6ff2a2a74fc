/-! one command of a rehearsal, in the class's words -/
def cmX (kd se nu : Int32) : Int32 := if kd = 115 then se else nu
def stX (S : Nat → Int32) (w v : Int32) : Nat → Int32 := if stP w v then upd S w.toInt.toNat v else S
def caG (S : Nat → Int32) (k a b : Int32) : Nat → Int32 := if k = 103 then goF S a else if k = 104 then hmF S else if k = 114 then gbF S a else if k = 115 then stX S a b else upd S 37 0
theorem stX_hi {S : Nat → Int32} {w v : Int32} {k : Nat} (h : 8 ≤ k) : stX S w v k = S k := by
  unfold stX
  by_cases q : stP w v
  · rw [if_pos q]
    have hz := zp0 q.1.1
    have h7 := q.1.2
    rw [zle, show (7 : Int32).toInt = 7 from by decide +kernel] at h7
    exact upd_ne (by omega)
  · rw [if_neg q]
theorem stX_fr (S : Nat → Int32) (w v : Int32) : frS (stX S w v) = frS S := by
  funext k
  unfold frS
  exact stX_hi (by omega)
theorem stX_to (S : Nat → Int32) (w v : Int32) : toS (stX S w v) = toS S := by
  funext k
  unfold toS
  exact stX_hi (by omega)
theorem stX_wt (S : Nat → Int32) (w v : Int32) : wtS (stX S w v) = wtS S := by
  funext k
  unfold wtS
  exact stX_hi (by omega)
theorem stX_mv (S : Nat → Int32) (w v : Int32) : mvS (stX S w v) = mvS S := by
  funext k
  unfold mvS
  exact stX_hi (by omega)
theorem fgX_mv (S : Nat → Int32) : mvS (upd S 37 0) = mvS S := by
  funext k
  unfold mvS
  exact upd_ne (by omega)
theorem ca_103 {S : Nat → Int32} {kd se nu : Int32} (k : kd = 103) : caR S kd (cmX kd se nu) nu = goR S nu ∧ caG S kd (cmX kd se nu) nu = goF S nu := by
  have n115 : ¬ kd = 115 := by rw [k]; decide
  unfold caR caG cmX
  rw [if_pos k, if_pos k, if_neg n115]
  exact ⟨rfl, rfl⟩
theorem ca_104 {S : Nat → Int32} {kd se nu : Int32} (k : kd = 104) : caR S kd (cmX kd se nu) nu = hmR S ∧ caG S kd (cmX kd se nu) nu = hmF S := by
  have n103 : ¬ kd = 103 := by rw [k]; decide
  have n114 : ¬ kd = 114 := by rw [k]; decide
  have n115 : ¬ kd = 115 := by rw [k]; decide
  unfold caR caG
  rw [if_neg n103, if_neg n103, if_pos k, if_pos k]
  exact ⟨rfl, rfl⟩
theorem ca_114 {S : Nat → Int32} {kd se nu : Int32} (k : kd = 114) : caR S kd (cmX kd se nu) nu = gbR S nu ∧ caG S kd (cmX kd se nu) nu = gbF S nu := by
  have n103 : ¬ kd = 103 := by rw [k]; decide
  have n104 : ¬ kd = 104 := by rw [k]; decide
  have n115 : ¬ kd = 115 := by rw [k]; decide
  unfold caR caG cmX
  rw [if_neg n103, if_neg n103, if_neg n104, if_neg n104, if_pos k, if_pos k, if_neg n115]
  exact ⟨rfl, rfl⟩
theorem ca_115 {S : Nat → Int32} {kd se nu : Int32} (k : kd = 115) : caR S kd (cmX kd se nu) nu = stR S se nu ∧ caG S kd (cmX kd se nu) nu = stX S se nu := by
  have n103 : ¬ kd = 103 := by rw [k]; decide
  have n104 : ¬ kd = 104 := by rw [k]; decide
  have n114 : ¬ kd = 114 := by rw [k]; decide
  unfold caR caG cmX
  rw [if_neg n103, if_neg n103, if_neg n104, if_neg n104, if_neg n114, if_neg n114, if_pos k, if_pos k, if_pos k]
  exact ⟨rfl, rfl⟩
theorem ca_no {S : Nat → Int32} {kd se nu : Int32} (k1 : ¬ kd = 103) (k2 : ¬ kd = 104) (k3 : ¬ kd = 114) (k4 : ¬ kd = 115) : caR S kd (cmX kd se nu) nu = S 37 ∧ caG S kd (cmX kd se nu) nu = upd S 37 0 := by
  unfold caR caG
  rw [if_neg k1, if_neg k1, if_neg k2, if_neg k2, if_neg k3, if_neg k3, if_neg k4, if_neg k4]
  exact ⟨rfl, rfl⟩
