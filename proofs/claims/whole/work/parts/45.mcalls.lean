/-! one command carried out -/
def caR (S : Nat → Int32) (k a b : Int32) : Int32 := if k = 103 then goR S a else if k = 104 then hmR S else if k = 114 then gbR S a else if k = 115 then stR S a b else S 37
def caF (S : Nat → Int32) (k a b : Int32) : Nat → Int32 := if k = 103 then goF S a else if k = 104 then (if hPP S then hmF S else S) else if k = 114 then gbF S a else if k = 115 then (if stP a b then upd S a.toInt.toNat b else S) else upd S 37 0
theorem psF_1 {ps : Int32} : psF 1 ps = ps := if_neg (by decide)
theorem pfF_1 {ps : Int32} {pf S : Nat → Int32} : pfF 1 ps pf S = pf := if_neg (by decide)
theorem Iv_caF {S : Nat → Int32} {k a b : Int32} (h : Iv S) : Iv (caF S k a b) := by
  unfold caF
  by_cases k103 : k = 103
  · rw [if_pos k103]; exact Iv_goF h
  rw [if_neg k103]
  by_cases k104 : k = 104
  · rw [if_pos k104]; exact Iv_hmF h
  rw [if_neg k104]
  by_cases k114 : k = 114
  · rw [if_pos k114]; exact Iv_gbF h
  rw [if_neg k114]
  by_cases k115 : k = 115
  · rw [if_pos k115]
    by_cases q : stP a b
    · rw [if_pos q]; exact Iv_set h q
    · rw [if_neg q]; exact h
  rw [if_neg k115]
  exact Iv_forget h
