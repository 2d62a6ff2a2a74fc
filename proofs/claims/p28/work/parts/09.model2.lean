/-! what is read, what is undone -/
def axR (S : Nat → Int32) (w : Int32) : Int32 := if w = 0 then S 10 else if w = 1 then S 11 else if w = 2 then S 10 - S 11 - S 12 else if w = 3 then S 13 else if w = 4 then S 14 else if w = 5 then S 15 else if w = 6 then S 16 else if w = 7 then S 17 else if w = 8 then S 8 else if w = 9 then S 9 else -1000001
def ctR (S : Nat → Int32) (ps ty w : Int32) : Int32 := if w = 0 then S 18 else if w = 1 then S 37 else if w = 2 then ps else if w = 3 then ty else if 10 ≤ w ∧ w ≤ 17 then S (w - 10).toInt.toNat else -1000001
theorem ct0 {w : Int32} (h : 10 ≤ w ∧ w ≤ 17) : 0 ≤ (w - 10).toInt ∧ (w - 10).toInt ≤ 7 := by
  have h1 := (zle _ _).mp h.1
  have h2 := (zle _ _).mp h.2
  rw [show (10 : Int32).toInt = 10 from by decide +kernel] at h1
  rw [show (17 : Int32).toInt = 17 from by decide +kernel] at h2
  have e10 : (10 : Int32).toInt = 10 := by decide +kernel
  rw [zsub (by rw [e10]; omega) (by rw [e10]; omega), e10]
  omega
def rwF (pf : Nat → Int32) (q : Nat) : Nat → Int32 := fun k => pf (63 * q + k)
def unS (S pf : Nat → Int32) (ps : Int32) : Nat → Int32 := fillT (rwF pf (ps.toInt.toNat - 1)) S 63
def fmR (S : Nat → Int32) (tg : Int32) : Int32 := if rfR S tg = 0 then (if goM S tg = 0 then -1000004 else gaE S tg) else rfR S tg
theorem goM_0 {S : Nat → Int32} {tg : Int32} (h : gD S tg = 0) : goM S tg = 0 := by
  unfold goM
  rw [h, gmis]
def tmR (S : Nat → Int32) (d : Int32) : Int32 := if 0 ≤ d ∧ d ≤ 6000 then dnS (ivS S) (topS S) d.toInt.toNat d.toInt.toNat else -1000001
