/-! a text played: command by command, until one is not written right or is refused -/
def cmA (tx : Nat → Int32) (n p : Nat) : Int32 := if tx p = 115 then (dgt tx n (p + 1)).1 else (sgt tx n (p + 1)).1
def cmB (tx : Nat → Int32) (n p : Nat) : Int32 := (sgt tx n (rcQ tx n p)).1
def plA (S tx : Nat → Int32) (n p : Nat) : Int32 := if rcB tx n p = 0 then 0 else caR S (tx p) (cmA tx n p) (cmB tx n p)
def plF (S tx : Nat → Int32) (n p : Nat) : Nat → Int32 := if rcB tx n p = 0 then S else caF S (tx p) (cmA tx n p) (cmB tx n p)
def plG (S tx : Nat → Int32) (n p : Nat) : Int32 := b01 (¬ rcB tx n p = 0 ∧ -1000001 < plA S tx n p)
abbrev PLT : Type := (Nat → Int32) × Int32 × Int32 × Int32
def plN (tx : Nat → Int32) (n : Nat) : Nat → (Nat → Int32) → Nat → Int32 → Int32 → Nat → Int32 → PLT
  | 0, S, _, cm, ca, st, go => (S, cm, ca, if go = 0 then nI st else -1000004)
  | f + 1, S, p, cm, ca, st, go => if p < n ∧ ¬ go = 0 then plN tx n f (plF S tx n p) (rcN tx n p) (cm + 1) (plA S tx n p) p (plG S tx n p) else (S, cm, ca, if go = 0 then nI st else -1000004)
theorem plN_x {tx S : Nat → Int32} {n f p st : Nat} {cm ca go : Int32} (h : ¬ (p < n ∧ ¬ go = 0)) : plN tx n f S p cm ca st go = (S, cm, ca, if go = 0 then nI st else -1000004) := by
  cases f with
  | zero => rfl
  | succ f => exact if_neg h
theorem plN_s {tx S : Nat → Int32} {n f p st : Nat} {cm ca go : Int32} (h1 : p < n) (h2 : ¬ go = 0) : plN tx n (f + 1) S p cm ca st go = plN tx n f (plF S tx n p) (rcN tx n p) (cm + 1) (plA S tx n p) p (plG S tx n p) := if_pos ⟨h1, h2⟩
def plR (S tx : Nat → Int32) (n : Nat) (ca : Int32) : PLT := plN tx n 61 S 0 0 ca 0 1
theorem Iv_plF {S tx : Nat → Int32} {n p : Nat} (h : Iv S) : Iv (plF S tx n p) := by
  unfold plF
  by_cases q : rcB tx n p = 0
  · rw [if_pos q]; exact h
  · rw [if_neg q]; exact Iv_caF h
/-- what a command written right is told -/
theorem rc_115 {tx nf : Nat → Int32} {n p : Nat} (h : ¬ rcB tx n p = 0) (k : tx p = 115) : rcT tx n p nf 0 = cmA tx n p ∧ rcT tx n p nf 1 = cmB tx n p := by
  have g : ¬ isGR (tx p) := by rw [k]; decide
  unfold rcB at h
  rw [if_neg g, if_pos k] at h
  by_cases q : dgO tx n (p + 1) ∧ skP tx n (dgt tx n (p + 1)).2 44
  · unfold rcT cmA cmB
    rw [if_neg g, if_pos k, if_pos q, if_pos k]
    exact ⟨rfl, rfl⟩
  · exact absurd (b01_0 (fun z => q ⟨z.1, z.2.1⟩)) h
theorem rc_gr {tx nf : Nat → Int32} {n p : Nat} (k : isGR (tx p)) : rcT tx n p nf 0 = cmA tx n p := by
  have g : ¬ tx p = 115 := by rcases k with k | k <;> (rw [k]; decide)
  unfold rcT cmA
  rw [if_pos k, if_neg g]
  rfl
theorem caR_eq {S tx nf : Nat → Int32} {n p : Nat} (h : ¬ rcB tx n p = 0) : caR S (tx p) (rcT tx n p nf 0) (rcT tx n p nf 1) = caR S (tx p) (cmA tx n p) (cmB tx n p) ∧ caF S (tx p) (rcT tx n p nf 0) (rcT tx n p nf 1) = caF S (tx p) (cmA tx n p) (cmB tx n p) := by
  unfold caR caF
  by_cases k1 : tx p = 103
  · rw [if_pos k1, if_pos k1, if_pos k1, if_pos k1, rc_gr (Or.inl k1)]
    exact ⟨rfl, rfl⟩
  rw [if_neg k1, if_neg k1, if_neg k1, if_neg k1]
  by_cases k2 : tx p = 104
  · rw [if_pos k2, if_pos k2, if_pos k2, if_pos k2]
    exact ⟨rfl, rfl⟩
  rw [if_neg k2, if_neg k2, if_neg k2, if_neg k2]
  by_cases k3 : tx p = 114
  · rw [if_pos k3, if_pos k3, if_pos k3, if_pos k3, rc_gr (Or.inr k3)]
    exact ⟨rfl, rfl⟩
  rw [if_neg k3, if_neg k3, if_neg k3, if_neg k3]
  by_cases k4 : tx p = 115
  · obtain ⟨e0, e1⟩ := rc_115 (nf := nf) h k4
    rw [e0, e1]
    exact ⟨rfl, rfl⟩
  rw [if_neg k4, if_neg k4, if_neg k4, if_neg k4]
  exact ⟨rfl, rfl⟩
theorem sgt_n {tx : Nat → Int32} {n p : Nat} (h : p ≤ n) : (sgt tx n p).2 ≤ n := dgs_n 4 _ 0 (by unfold sgq; exact (skN_le h).2.2)
theorem dgt_n {tx : Nat → Int32} {n p : Nat} (h : p ≤ n) : (dgt tx n p).2 ≤ n := dgs_n 4 _ 0 h
theorem rcN_le {tx : Nat → Int32} {n p : Nat} (h : p < n) : p + 1 ≤ rcN tx n p ∧ rcN tx n p ≤ n := by
  have hq : rcQ tx n p ≤ n := (skN_le (dgt_n h)).2.2
  have hq1 := rcQ_le (tx := tx) (n := n) (p := p)
  have s1 := sgt_le (tx := tx) (n := n) (p := p + 1)
  have s2 := sgt_le (tx := tx) (n := n) (p := rcQ tx n p)
  have d1 := dgt_le (tx := tx) (n := n) (p := p + 1)
  have s3 := sgt_n (tx := tx) (show p + 1 ≤ n from h)
  have s4 := sgt_n (tx := tx) hq
  have d2 := dgt_n (tx := tx) (show p + 1 ≤ n from h)
  have a1 := skN_le (tx := tx) (c := 59) s3
  have a2 := skN_le (tx := tx) (c := 59) s4
  have a3 := skN_le (tx := tx) (c := 59) (show p + 1 ≤ n from h)
  unfold rcN
  repeat' split
  all_goals omega
