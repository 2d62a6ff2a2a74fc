/-! texts: the characters tx, n of them, a position p -/
abbrev skP (tx : Nat → Int32) (n p : Nat) (c : Int32) : Prop := p < n ∧ tx p = c
def skN (tx : Nat → Int32) (n p : Nat) (c : Int32) : Nat := if skP tx n p c then p + 1 else p
abbrev dgP (tx : Nat → Int32) (n p : Nat) : Prop := p < n ∧ 48 ≤ tx p ∧ tx p ≤ 57
def dgs (tx : Nat → Int32) (n : Nat) : Nat → Nat → Int32 → Int32 × Nat
  | 0, p, v => (v, p)
  | f + 1, p, v => if dgP tx n p then dgs tx n f (p + 1) (10 * v + (tx p - 48)) else (v, p)
theorem dgs_0 {tx : Nat → Int32} {n f p : Nat} {v : Int32} (h : ¬ dgP tx n p) : dgs tx n f p v = (v, p) := by
  cases f with
  | zero => rfl
  | succ f => exact if_neg h
theorem dgs_1 {tx : Nat → Int32} {n f p : Nat} {v : Int32} (h : dgP tx n p) : dgs tx n (f + 1) p v = dgs tx n f (p + 1) (10 * v + (tx p - 48)) := if_pos h
theorem dgs_le {tx : Nat → Int32} {n : Nat} : ∀ (f p : Nat) (v : Int32), p ≤ (dgs tx n f p v).2 ∧ (dgs tx n f p v).2 ≤ p + f
  | 0, p, v => ⟨Nat.le_refl p, Nat.le_refl p⟩
  | f + 1, p, v => by
    by_cases h : dgP tx n p
    · rw [dgs_1 h]
      have := dgs_le (tx := tx) (n := n) f (p + 1) (10 * v + (tx p - 48))
      omega
    · rw [dgs_0 h]
      exact ⟨Nat.le_refl p, Nat.le_add_right p _⟩
theorem dgs_n {tx : Nat → Int32} {n : Nat} : ∀ (f p : Nat) (v : Int32), p ≤ n → (dgs tx n f p v).2 ≤ n
  | 0, p, v, h => h
  | f + 1, p, v, h => by
    by_cases q : dgP tx n p
    · rw [dgs_1 q]
      exact dgs_n f (p + 1) _ q.1
    · rw [dgs_0 q]
      exact h
/-- a number: its value, the position behind -/
def dgt (tx : Nat → Int32) (n p : Nat) : Int32 × Nat := dgs tx n 4 p 0
/-- a number that may have '-' ahead -/
def sgq (tx : Nat → Int32) (n p : Nat) : Nat := skN tx n p 45
def sgt (tx : Nat → Int32) (n p : Nat) : Int32 × Nat := (if skP tx n p 45 then -(dgt tx n (sgq tx n p)).1 else (dgt tx n (sgq tx n p)).1, (dgt tx n (sgq tx n p)).2)
abbrev sgO (tx : Nat → Int32) (n p : Nat) : Prop := sgq tx n p < (sgt tx n p).2
abbrev dgO (tx : Nat → Int32) (n p : Nat) : Prop := p < (dgt tx n p).2
theorem skN_le {tx : Nat → Int32} {n p : Nat} {c : Int32} (h : p ≤ n) : p ≤ skN tx n p c ∧ skN tx n p c ≤ p + 1 ∧ skN tx n p c ≤ n := by
  unfold skN
  by_cases q : skP tx n p c
  · rw [if_pos q]
    have := q.1
    omega
  · rw [if_neg q]
    omega
def sgnT (tx : Nat → Int32) (n p : Nat) : Int32 := if p < n then tx p else 0
theorem sgn_eq {tx : Nat → Int32} {n p : Nat} {c : Int32} (hc : ¬ c = 0) : sgnT tx n p = c ↔ skP tx n p c := by
  unfold sgnT
  by_cases h : p < n
  · rw [if_pos h]
    exact ⟨fun e => ⟨h, e⟩, fun e => e.2⟩
  · rw [if_neg h]
    exact ⟨fun e => absurd e.symm hc, fun e => absurd e.1 h⟩
theorem sgn_dg {tx : Nat → Int32} {n p : Nat} : (48 ≤ sgnT tx n p ∧ sgnT tx n p ≤ 57) ↔ dgP tx n p := by
  unfold sgnT
  by_cases h : p < n
  · rw [if_pos h]
    exact ⟨fun e => ⟨h, e.1, e.2⟩, fun e => ⟨e.2.1, e.2.2⟩⟩
  · rw [if_neg h]
    exact ⟨fun e => absurd e.1 (by decide), fun e => absurd e.1 h⟩
abbrev apP (n : Nat) (c : Int32) : Prop := (32 ≤ c ∧ c ≤ 126) ∧ n < 60
def apR (n : Nat) (c : Int32) : Int32 := if 32 ≤ c ∧ c ≤ 126 then (if n < 60 then nI (n + 1) else -1000003) else -1000001
theorem ch_nar {c : Int32} (h : 32 ≤ c ∧ c ≤ 126) : (c.toUInt32 % 65536).toInt32 = c ∧ vp_nar .char c = c := by
  rw [zle, zle] at h
  have e1 : (32 : Int32).toInt = 32 := rfl
  have e2 : (126 : Int32).toInt = 126 := rfl
  have e : c = nI c.toInt.toNat := zof (by omega)
  rw [e]
  generalize hk : c.toInt.toNat = k
  have hlt : k < 65536 := by omega
  have h1 := (pk_charN hlt).1
  refine ⟨?_, ?_⟩
  · rw [pk_char, pk_tn (by omega), Nat.mod_eq_of_lt hlt]
  · unfold vp_nar
    rw [h1]
/-! one command -/
def rcQ (tx : Nat → Int32) (n p : Nat) : Nat := skN tx n (dgt tx n (p + 1)).2 44
abbrev isGR (k : Int32) : Prop := k = 103 ∨ k = 114
abbrev isHZ (k : Int32) : Prop := k = 104 ∨ k = 122
def rcB (tx : Nat → Int32) (n p : Nat) : Int32 := if isGR (tx p) then b01 (sgO tx n (p + 1) ∧ skP tx n (sgt tx n (p + 1)).2 59) else if tx p = 115 then b01 (dgO tx n (p + 1) ∧ skP tx n (dgt tx n (p + 1)).2 44 ∧ sgO tx n (rcQ tx n p) ∧ skP tx n (sgt tx n (rcQ tx n p)).2 59) else if isHZ (tx p) then b01 (skP tx n (p + 1) 59) else 0
def rcN (tx : Nat → Int32) (n p : Nat) : Nat := if isGR (tx p) then (if sgO tx n (p + 1) then skN tx n (sgt tx n (p + 1)).2 59 else (sgt tx n (p + 1)).2) else if tx p = 115 then (if dgO tx n (p + 1) then (if skP tx n (dgt tx n (p + 1)).2 44 then (if sgO tx n (rcQ tx n p) then skN tx n (sgt tx n (rcQ tx n p)).2 59 else (sgt tx n (rcQ tx n p)).2) else rcQ tx n p) else (dgt tx n (p + 1)).2) else if isHZ (tx p) then skN tx n (p + 1) 59 else p + 1
def rcS (tx : Nat → Int32) (n p : Nat) (se : Int32) : Int32 := if isGR (tx p) then se else if tx p = 115 then (dgt tx n (p + 1)).1 else se
def rcV (tx : Nat → Int32) (n p : Nat) (nu : Int32) : Int32 := if isGR (tx p) then (sgt tx n (p + 1)).1 else if tx p = 115 then (if dgO tx n (p + 1) ∧ skP tx n (dgt tx n (p + 1)).2 44 then (sgt tx n (rcQ tx n p)).1 else (dgt tx n (p + 1)).1) else nu
theorem sgt_le {tx : Nat → Int32} {n p : Nat} : p ≤ (sgt tx n p).2 ∧ (sgt tx n p).2 ≤ p + 5 := by
  have h1 := dgs_le (tx := tx) (n := n) 4 (sgq tx n p) 0
  have h2 : p ≤ sgq tx n p ∧ sgq tx n p ≤ p + 1 := by unfold sgq skN; split <;> omega
  show p ≤ (dgs tx n 4 (sgq tx n p) 0).2 ∧ (dgs tx n 4 (sgq tx n p) 0).2 ≤ p + 5
  omega
theorem dgt_le {tx : Nat → Int32} {n p : Nat} : p ≤ (dgt tx n p).2 ∧ (dgt tx n p).2 ≤ p + 4 := dgs_le (tx := tx) (n := n) 4 p 0
theorem rcQ_le {tx : Nat → Int32} {n p : Nat} : p + 1 ≤ rcQ tx n p ∧ rcQ tx n p ≤ p + 6 := by
  have := dgt_le (tx := tx) (n := n) (p := p + 1)
  unfold rcQ skN
  split <;> omega
theorem skN_le1 {tx : Nat → Int32} {n p : Nat} {c : Int32} : skN tx n p c ≤ p + 1 := by
  unfold skN
  split <;> omega
