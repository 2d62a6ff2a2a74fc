/-! the first miss of a move -/
theorem ne_s {c : Nat} (h : c < 2000000000) : ¬ nI (c + 1) = 0 := by
  intro e
  have e2 := congrArg Int32.toInt e
  rw [znI (by omega), i0] at e2
  omega
theorem nomiss {S : Nat → Int32} {t D : Nat} {dir : Int32} : ∀ n, (∀ j, j < n → ¬ gMs S t D dir j) → gmis S t D dir n = 0 ∧ gat S t D dir n = -1000004 ∧ (gst S t D dir n).2.1 = S 11 + dir * nI n
  | 0, _ => by
    refine ⟨rfl, rfl, ?_⟩
    rw [gst, show nI 0 = 0 from rfl, Int32.mul_zero, Int32.add_zero]
    rfl
  | n + 1, h => by
    obtain ⟨h1, h2, h3⟩ := nomiss n (fun j hj => h j (Nat.lt_succ_of_lt hj))
    have hn := h n (Nat.lt_succ_self n)
    refine ⟨?_, ?_, ?_⟩
    · rw [gmis, if_neg hn]; exact h1
    · rw [gat, if_neg hn]; exact h2
    · rw [gst]
      refine (if_neg hn).trans ?_
      rw [h3, Int32.mul_comm dir, Int32.mul_comm dir, nI_mul_succ, Int32.add_assoc]
theorem miss_at {S : Nat → Int32} {t D : Nat} {dir : Int32} {i : Nat} (h0 : ∀ j, j < i → ¬ gMs S t D dir j) (hi : gMs S t D dir i) : ∀ m, ∃ c, gmis S t D dir (i + 1 + m) = nI (c + 1) ∧ c ≤ m ∧ (i + m < 2000000000 → gat S t D dir (i + 1 + m) = S 11 + dir * nI i)
  | 0 => by
    obtain ⟨h1, h2, h3⟩ := nomiss i h0
    refine ⟨0, ?_, Nat.le_refl 0, fun _ => ?_⟩
    · show gmis S t D dir (i + 1) = nI 1
      rw [gmis, if_pos hi, h1, Int32.zero_add]
      rfl
    · show gat S t D dir (i + 1) = _
      rw [gat, if_pos hi, if_pos h1, h3]
  | m + 1 => by
    obtain ⟨c, h1, hc, h2⟩ := miss_at h0 hi m
    by_cases q : gMs S t D dir (i + 1 + m)
    · refine ⟨c + 1, ?_, by omega, fun hb => ?_⟩
      · show gmis S t D dir (i + 1 + m + 1) = _
        rw [gmis, if_pos q, h1, nI_1]
      · show gat S t D dir (i + 1 + m + 1) = _
        rw [gat, if_pos q, if_neg (by rw [h1]; exact ne_s (by omega)), h2 (by omega)]
    · refine ⟨c, ?_, by omega, fun hb => ?_⟩
      · show gmis S t D dir (i + 1 + m + 1) = _
        rw [gmis, if_neg q, h1]
      · show gat S t D dir (i + 1 + m + 1) = _
        rw [gat, if_neg q, h2 (by omega)]
theorem fm_none {S : Nat → Int32} {tg : Int32} (hr : rfR S tg = 0) (h : ∀ j, j < gD S tg → ¬ gMs S (topS S) (gD S tg) (gDir S tg) j) : fmR S tg = -1000004 := by
  unfold fmR
  rw [if_pos hr]
  exact if_pos (nomiss (gD S tg) h).1
theorem fm_some {S : Nat → Int32} {tg : Int32} {i : Nat} (hr : rfR S tg = 0) (hi : i < gD S tg) (hD : gD S tg ≤ 8000) (h0 : ∀ j, j < i → ¬ gMs S (topS S) (gD S tg) (gDir S tg) j) (hm : gMs S (topS S) (gD S tg) (gDir S tg) i) : fmR S tg = S 11 + gDir S tg * nI i := by
  obtain ⟨m, hm2⟩ : ∃ m, gD S tg = i + 1 + m := ⟨gD S tg - (i + 1), by omega⟩
  obtain ⟨c, h1, hc, h2⟩ := miss_at h0 hm m
  have e1 : goM S tg = nI (c + 1) := by
    unfold goM
    rw [← hm2] at h1
    exact h1
  have e2 : gaE S tg = S 11 + gDir S tg * nI i := by
    unfold gaE
    have := h2 (by omega)
    rw [← hm2] at this
    exact this
  unfold fmR
  rw [if_pos hr, if_neg (by rw [e1]; exact ne_s (by omega)), e2]
theorem fm_no {S : Nat → Int32} {t D k : Nat} {dir : Int32} (e : (gst S t D dir k).2.1 = S 11 + dir * nI k) (hb : ¬ (S 11 + dir * nI k + dir < -3000 ∨ 3000 < S 11 + dir * nI k + dir)) (hw : lsum (frS S) (toS S) (wtS S) (S 11 + dir * nI k) (S 18).toInt.toNat ≤ puS S (ix t k D)) : ¬ gMs S t D dir k := by
  intro h
  unfold gMs at h
  rw [e] at h
  exact h.elim (fun q => hb q) (fun q => zgt hw q)
theorem fm_yb {S : Nat → Int32} {t D k : Nat} {dir : Int32} (e : (gst S t D dir k).2.1 = S 11 + dir * nI k) (hb : S 11 + dir * nI k + dir < -3000 ∨ 3000 < S 11 + dir * nI k + dir) : gMs S t D dir k := by
  unfold gMs
  rw [e]
  exact Or.inl hb
theorem fm_yw {S : Nat → Int32} {t D k : Nat} {dir : Int32} (e : (gst S t D dir k).2.1 = S 11 + dir * nI k) (hw : puS S (ix t k D) < lsum (frS S) (toS S) (wtS S) (S 11 + dir * nI k) (S 18).toInt.toNat) : gMs S t D dir k := by
  unfold gMs
  rw [e]
  exact Or.inr hw
