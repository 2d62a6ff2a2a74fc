/-! class: a whole rehearsal, held against the model's plays -/
theorem rn_args {S tx : Nat → Int32} {n p : Nat} {se nu : Int32} (h : ¬ rcB tx n p = 0) :
    caR S (tx p) (cmX (tx p) (rcS tx n p se) (rcV tx n p nu)) (rcV tx n p nu) = plA S tx n p ∧ caF S (tx p) (cmX (tx p) (rcS tx n p se) (rcV tx n p nu)) (rcV tx n p nu) = plF S tx n p := by
  have e1 : isGR (tx p) → cmX (tx p) (rcS tx n p se) (rcV tx n p nu) = cmA tx n p := by
    intro k
    have g : ¬ tx p = 115 := by rcases k with k | k <;> (rw [k]; decide)
    unfold cmX rcV cmA
    rw [if_neg g, if_pos k, if_neg g]
  have e2 : tx p = 115 → cmX (tx p) (rcS tx n p se) (rcV tx n p nu) = cmA tx n p ∧ rcV tx n p nu = cmB tx n p := by
    intro k
    have g : ¬ isGR (tx p) := by rw [k]; decide
    unfold rcB at h
    rw [if_neg g, if_pos k] at h
    by_cases q : dgO tx n (p + 1) ∧ skP tx n (dgt tx n (p + 1)).2 44
    · unfold cmX rcS rcV cmA cmB
      rw [if_pos k, if_neg g, if_pos k, if_neg g, if_pos k, if_pos q, if_pos k]
      exact ⟨rfl, rfl⟩
    · exact absurd (b01_0 (fun z => q ⟨z.1, z.2.1⟩)) h
  unfold plA plF
  rw [if_neg h, if_neg h]
  unfold caR caF
  by_cases k1 : tx p = 103
  · rw [if_pos k1, if_pos k1, if_pos k1, if_pos k1, e1 (Or.inl k1)]
    exact ⟨rfl, rfl⟩
  rw [if_neg k1, if_neg k1, if_neg k1, if_neg k1]
  by_cases k2 : tx p = 104
  · rw [if_pos k2, if_pos k2, if_pos k2, if_pos k2]
    exact ⟨rfl, rfl⟩
  rw [if_neg k2, if_neg k2, if_neg k2, if_neg k2]
  by_cases k3 : tx p = 114
  · rw [if_pos k3, if_pos k3, if_pos k3, if_pos k3, e1 (Or.inr k3)]
    exact ⟨rfl, rfl⟩
  rw [if_neg k3, if_neg k3, if_neg k3, if_neg k3]
  by_cases k4 : tx p = 115
  · rw [(e2 k4).1, (e2 k4).2]
    exact ⟨rfl, rfl⟩
  rw [if_neg k4, if_neg k4, if_neg k4, if_neg k4]
  exact ⟨rfl, rfl⟩
theorem caG_F {S : Nat → Int32} {k a b : Int32} (h : ¬ caR S k a b ≤ -1000001) : caG S k a b = caF S k a b := by
  unfold caG caF
  by_cases k1 : k = 103
  · rw [if_pos k1, if_pos k1]
  rw [if_neg k1, if_neg k1]
  by_cases k2 : k = 104
  · rw [if_pos k2, if_pos k2]
    by_cases q : hPP S
    · rw [if_pos q]
    · refine absurd ?_ h
      unfold caR
      rw [if_neg k1, if_pos k2]
      unfold hmR
      rw [if_neg q]
      decide
  rw [if_neg k2, if_neg k2]
  by_cases k3 : k = 114
  · rw [if_pos k3, if_pos k3]
  rw [if_neg k3, if_neg k3]
  rfl
def rnX (S tx : Nat → Int32) (n : Nat) (po rs ca : Int32) : Prop := ¬ rs = 0 ∧ ¬ (plR S tx n 0).2.2.2 = -1000004 ∧ po = (plR S tx n 0).2.2.2 ∧ (((plR S tx n 0).2.2.1 = 0 ∧ rs = 1) ∨ (¬ (plR S tx n 0).2.2.1 = 0 ∧ rs = 2 ∧ ca = (plR S tx n 0).2.2.1))
def rnI (S tx : Nat → Int32) (n p : Nat) (T : Nat → Int32) (dn po rs ca : Int32) : Prop := (rs = 0 ∧ p ≤ n ∧ Iv T ∧ (∃ c, c ≤ p ∧ dn = nI c) ∧ ∃ f ca' st, 61 ≤ f + p ∧ plR S tx n 0 = plN tx n f T p dn ca' st 1) ∨ rnX S tx n po rs ca
def rnP (S tx : Nat → Int32) (n : Nat) (T : Nat → Int32) (dn po rs ca : Int32) : Prop := (rs = 0 ∧ Iv T ∧ (plR S tx n 0).2.2.2 = -1000004 ∧ dn = (plR S tx n 0).2.1 ∧ T = (plR S tx n 0).1) ∨ rnX S tx n po rs ca
theorem rn_0 {S tx : Nat → Int32} {n : Nat} (h : Iv S) (po ca : Int32) : rnI S tx n 0 S 0 po 0 ca := Or.inl ⟨rfl, Nat.zero_le _, h, ⟨0, Nat.le_refl 0, rfl⟩, 61, 0, 0, Nat.le_refl _, rfl⟩
theorem rn_run {S tx : Nat → Int32} {n p : Nat} {T : Nat → Int32} {dn po rs ca : Int32} (h : rnI S tx n p T dn po rs ca) (hr : rs = 0) : Iv T ∧ p ≤ n := by
  rcases h with h | h
  · exact ⟨h.2.2.1, h.2.1⟩
  · exact absurd hr h.1
theorem rn_end {S tx : Nat → Int32} {n p : Nat} {T : Nat → Int32} {dn po rs ca : Int32} (h : rnI S tx n p T dn po rs ca) (hp : ¬ rs = 0 ∨ ¬ p < n) : rnP S tx n T dn po rs ca := by
  rcases h with h | h
  · obtain ⟨h0, h1, h2, h3, f, ca', st, h4, h5⟩ := h
    have hp2 : ¬ p < n := hp.resolve_left (fun z => z h0)
    rw [plN_x (fun z => hp2 z.1), if_neg (by decide)] at h5
    refine Or.inl ⟨h0, h2, ?_, ?_, ?_⟩ <;> rw [h5]
  · exact Or.inr h
theorem rn_60 {S tx : Nat → Int32} {n p : Nat} {T : Nat → Int32} {dn po rs ca : Int32} (h : rnI S tx n p T dn po rs ca) (hn : n ≤ 60) (h60 : 60 ≤ dn) : ¬ rs = 0 ∨ ¬ p < n := by
  rcases h with h | h
  · obtain ⟨h0, h1, h2, ⟨c, hc, ec⟩, h3⟩ := h
    right
    rw [ec, zle, znI (by omega), show (60 : Int32).toInt = 60 from by decide +kernel] at h60
    omega
  · exact Or.inl h.1
theorem nI_nf {p : Nat} (h : p ≤ 60) : ¬ nI p = -1000004 := by
  intro e
  have e2 := congrArg Int32.toInt e
  rw [znI (by omega), show (-1000004 : Int32).toInt = -1000004 from by decide +kernel] at e2
  omega
theorem rn_bad {S tx : Nat → Int32} {n p : Nat} {T : Nat → Int32} {dn po rs ca : Int32} (h : rnI S tx n p T dn po rs ca) (hr : rs = 0) (hn : n ≤ 60) (hp : p < n) (hb : rcB tx n p = 0) (q : Nat) (T' : Nat → Int32) (dn' : Int32) : rnI S tx n q T' dn' (nI p) 1 ca := by
  rcases h with h | h
  · obtain ⟨h0, h1, h2, h3, f, ca', st, h4, h5⟩ := h
    obtain ⟨f, rfl⟩ : ∃ f', f = f' + 1 := ⟨f - 1, by omega⟩
    have eg : plG T tx n p = 0 := b01_0 (fun z => z.1 hb)
    rw [plN_s hp (by decide), eg, plN_x (fun z => z.2 rfl), if_pos rfl] at h5
    have ea : plA T tx n p = 0 := if_pos hb
    refine Or.inr ⟨by decide, ?_, ?_, Or.inl ⟨?_, rfl⟩⟩ <;> rw [h5]
    · exact nI_nf (by omega)
    · exact ea
  · exact absurd hr h.1
theorem rn_ok {S tx : Nat → Int32} {n p : Nat} {T : Nat → Int32} {dn po rs ca : Int32} (h : rnI S tx n p T dn po rs ca) (hr : rs = 0) (hn : n ≤ 60) (hp : p < n) (hb : ¬ rcB tx n p = 0) {v : Int32} (ev : v = plA T tx n p) {T' : Nat → Int32} (eT : ¬ v ≤ -1000001 → T' = plF T tx n p) : rnI S tx n (rcN tx n p) T' (ntD dn v) (nI p) (ntR rs v) (ntC ca v) := by
  rcases h with h | h
  · obtain ⟨h0, h1, h2, ⟨c, hc, ec⟩, f, ca', st, h4, h5⟩ := h
    obtain ⟨f, rfl⟩ : ∃ f', f = f' + 1 := ⟨f - 1, by omega⟩
    have hq := rcN_le (tx := tx) hp
    unfold ntD ntR ntC
    by_cases q : v ≤ -1000001
    · rw [if_pos q, if_pos q, if_pos q]
      have eg : plG T tx n p = 0 := b01_0 (fun z => zgt q (by rw [ev]; exact z.2))
      rw [plN_s hp (by decide), eg, plN_x (fun z => z.2 rfl), if_pos rfl, ← ev] at h5
      have hv : ¬ v = 0 := fun z => by rw [z] at q; exact absurd q (by decide)
      refine Or.inr ⟨by decide, ?_, ?_, Or.inr ⟨?_, rfl, ?_⟩⟩ <;> rw [h5]
      · exact nI_nf (by omega)
      · exact hv
    · rw [if_neg q, if_neg q, if_neg q]
      have eg : plG T tx n p = 1 := b01_1 ⟨hb, by rw [← ev]; exact znle q⟩
      rw [plN_s hp (by decide), eg, ← eT q] at h5
      refine Or.inl ⟨h0, hq.2, by rw [eT q]; exact Iv_plF h2, ⟨c + 1, by omega, by rw [ec]; exact nI_1 c⟩, f, plA T tx n p, p, by omega, h5⟩
  · exact absurd hr h.1
theorem Iv_plN {tx : Nat → Int32} {n : Nat} : ∀ (f : Nat) (S : Nat → Int32) (p : Nat) (cm ca : Int32) (st : Nat) (go : Int32), Iv S → Iv (plN tx n f S p cm ca st go).1
  | 0, _, _, _, _, _, _, h => h
  | f + 1, S, p, cm, ca, st, go, h => by
    by_cases q : p < n ∧ ¬ go = 0
    · rw [plN_s q.1 q.2]
      exact Iv_plN f _ _ _ _ _ _ (Iv_plF h)
    · rw [plN_x q]
      exact h
theorem Iv_plR {S tx : Nat → Int32} {n : Nat} (h : Iv S) (ca : Int32) : Iv (plR S tx n ca).1 := Iv_plN 61 S 0 0 ca 0 1 h
