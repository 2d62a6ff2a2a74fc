/-! limits, loads and the history keep the state's bounds -/
theorem Iv_lim {S : Nat → Int32} {p q : Int32} (h : Iv S) : Iv (upd (upd S 8 p) 9 q) := by
  obtain ⟨h1, h2, h3, h4, h5, h6⟩ := h
  exact ⟨h1, h2, h3, h4, h5, h6⟩
theorem adS_lo {S : Nat → Int32} {p q w : Int32} {k : Nat} (h : k < 18) : adS S p q w k = S k := by
  unfold adS upd
  rw [if_neg (by omega), if_neg (by omega), if_neg (by omega), if_neg (by omega)]
theorem Iv_ad {S : Nat → Int32} {p q w : Int32} (h : Iv S) (ha : adP (S 18) p q w) : Iv (adS S p q w) := by
  obtain ⟨h1, h2, h3, h4, h5, h6⟩ := h
  have e6 : (6 : Int32).toInt = 6 := by decide +kernel
  have e1 : (1 : Int32).toInt = 1 := by decide +kernel
  have hn6 : (S 18).toInt ≠ 6 := fun z => ha.2 ((zeq _ _).mpr (z.trans e6.symm))
  refine ⟨setOk_of h1 (fun k hk => adS_lo (by omega)), ?_, ?_, ?_, ?_, ?_⟩
  · rw [show adS S p q w 18 = S 18 + 1 from by unfold adS upd; exact if_pos rfl, zadd (by rw [e1]; omega) (by rw [e1]; omega), e1]
    omega
  · rw [show adS S p q w 37 = S 37 from by
      unfold adS upd
      rw [if_neg (by omega), if_neg (by omega), if_neg (by omega), if_neg (by omega)]]
    exact h3
  · rw [adS_lo (by decide)]; exact h4
  · rw [adS_lo (by decide)]; exact h5
  · rw [adS_lo (by decide)]; exact h6
theorem drS_lo {S : Nat → Int32} {J k : Nat} (h : k < 18) : drS S J k = S k := by
  unfold drS drL
  rw [if_neg (by omega), if_neg (by omega)]
theorem Iv_dr {S : Nat → Int32} {j : Int32} (h : Iv S) (hd : drP (S 18) j) : Iv (drS S j.toInt.toNat) := by
  obtain ⟨h1, h2, h3, h4, h5, h6⟩ := h
  have e1 : (1 : Int32).toInt = 1 := by decide +kernel
  have hj := zp0 hd.1
  have hj2 := (zlt _ _).mp hd.2
  refine ⟨setOk_of h1 (fun k hk => drS_lo (by omega)), ?_, ?_, ?_, ?_, ?_⟩
  · rw [show drS S j.toInt.toNat 18 = S 18 - 1 from by unfold drS drL; exact if_pos rfl, zsub (by rw [e1]; omega) (by rw [e1]; omega), e1]
    omega
  · rw [show drS S j.toInt.toNat 37 = S 37 from by
      unfold drS drL
      rw [if_neg (by omega), if_neg (by omega)]]
    exact h3
  · rw [drS_lo (by decide)]; exact h4
  · rw [drS_lo (by decide)]; exact h5
  · rw [drS_lo (by decide)]; exact h6
theorem Iv_of {S f : Nat → Int32} (h : Iv S) (e : ∀ k, k < 63 → f k = S k) : Iv f := by
  obtain ⟨h1, h2, h3, h4, h5, h6⟩ := h
  refine ⟨setOk_of h1 (fun k hk => e k (by omega)), ?_, ?_, ?_, ?_, ?_⟩
  · rw [e 18 (by decide)]; exact h2
  · rw [e 37 (by decide)]; exact h3
  · rw [e 10 (by decide)]; exact h4
  · rw [e 13 (by decide)]; exact h5
  · rw [e 14 (by decide)]; exact h6
/-- the kept states, ps of them -/
def IvP (pf : Nat → Int32) (ps : Int32) : Prop := ∀ q, q < ps.toInt.toNat → Iv (rwF pf q)
theorem Iv_un {S pf : Nat → Int32} {ps : Int32} (h : IvP pf ps) (hp : 0 < ps.toInt) : Iv (unS S pf ps) :=
  Iv_of (h (ps.toInt.toNat - 1) (by omega)) (fun _ hk => fillT_in hk)
theorem IvP_pred {pf : Nat → Int32} {ps : Int32} (h : IvP pf ps) (hp : 0 < ps.toInt) : IvP pf (ps - 1) := by
  have e1 : (1 : Int32).toInt = 1 := by decide +kernel
  have hhi := zhi ps
  have e : (ps - 1).toInt = ps.toInt - 1 := by rw [zsub (by rw [e1]; omega) (by rw [e1]; omega), e1]
  intro q hq
  rw [e] at hq
  exact h q (by omega)
/-- a change keeps the state before it: four at most -/
theorem IvP_kept {S pf : Nat → Int32} {ps : Int32} (h : IvP pf ps) (hp : 0 ≤ ps.toInt ∧ ps.toInt ≤ 4) (hS : Iv S) : IvP (pfF 0 ps pf S) (psF 0 ps) := by
  have e4 : (4 : Int32).toInt = 4 := by decide +kernel
  have e1 : (1 : Int32).toInt = 1 := by decide +kernel
  unfold pfF psF
  rw [if_pos rfl, if_pos rfl]
  by_cases q : ps = 4
  · rw [if_pos q, if_pos q]
    intro k hk
    rw [e4] at hk
    have hk4 : k < 4 := hk
    by_cases k3 : k = 3
    · refine Iv_of hS (fun m hm => ?_)
      unfold rwF puF
      rw [k3, if_pos (by omega), show 63 * 3 + m - 63 * 3 = m by omega]
    · refine Iv_of (h (k + 1) (by rw [q, e4]; show k + 1 < 4; omega)) (fun m hm => ?_)
      unfold rwF puF shF
      rw [if_neg (by omega), if_pos (by omega), show 63 * k + m + 63 = 63 * (k + 1) + m by omega]
  · rw [if_neg q, if_neg q]
    have q2 : ps.toInt ≠ 4 := fun z => q ((zeq _ _).mpr (z.trans e4.symm))
    intro k hk
    rw [zadd (by rw [e1]; omega) (by rw [e1]; omega), e1] at hk
    by_cases k3 : k = ps.toInt.toNat
    · refine Iv_of hS (fun m hm => ?_)
      unfold rwF puF
      rw [k3, if_pos (by omega), show 63 * ps.toInt.toNat + m - 63 * ps.toInt.toNat = m by omega]
    · refine Iv_of (h k (by omega)) (fun m hm => ?_)
      unfold rwF puF
      rw [if_neg (by omega)]
