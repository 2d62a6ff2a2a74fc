/-! what every call keeps of the state -/
def Iv (S : Nat → Int32) : Prop := setOk S ∧ (0 ≤ (S 18).toInt ∧ (S 18).toInt ≤ 6) ∧ (0 ≤ (S 37).toInt ∧ (S 37).toInt ≤ 5) ∧ okP (S 10) ∧ bit1 (S 13) ∧ bit1 (S 14)
theorem setOk_of {S f : Nat → Int32} (h : setOk S) (e : ∀ k, k < 8 → f k = S k) : setOk f := by
  unfold setOk at *
  rw [e 0 (by decide), e 1 (by decide), e 2 (by decide), e 3 (by decide), e 4 (by decide), e 5 (by decide), e 6 (by decide), e 7 (by decide)]
  exact h
theorem goS_at {S : Nat → Int32} {tg : Int32} {j : Nat} (h1 : ¬ j = 37) (h2 : ¬ 38 ≤ j) : goS S tg j = putT S (goX S tg) j := by
  unfold goS
  rw [if_neg h1, if_neg h2]
theorem goS_37 {S : Nat → Int32} {tg : Int32} : goS S tg 37 = kpN (S 37) := by
  unfold goS
  rw [if_pos rfl]
theorem swc_bit {pc sw pl cl : Int32} (h : bit1 cl) : bit1 (swc pc sw pl cl) := by
  unfold swc
  by_cases h1 : pc ≤ sw
  · rw [if_pos h1]; exact Or.inr rfl
  · rw [if_neg h1]
    by_cases h2 : sw + pl < pc
    · rw [if_pos h2]; exact Or.inl rfl
    · rw [if_neg h2]; exact h
theorem stp_bit {S : Nat → Int32} {dir iv pull : Int32} {x : T6} (h : bit1 x.2.2.1) : bit1 (stp S dir iv pull x).2.2.1 := by
  unfold stp
  exact swc_bit h
theorem gst_bit {S : Nat → Int32} {t D : Nat} {dir : Int32} (h : bit1 (S 14)) : ∀ n, bit1 (gst S t D dir n).2.2.1
  | 0 => by
    rw [gst]
    exact h
  | n + 1 => by
    rw [gst]
    exact stp_bit (gst_bit h n)
theorem way_told {a b : Int32} (ha : okP a) (hb : okP b) : a + nI (dist a b) * dirT a b = b := by
  have hD := dist_le ha hb
  have e1 : (nI (dist a b)).toInt = (dist a b : Int) := znI (by omega)
  obtain ⟨q, hq⟩ : ∃ q, q = dist a b := ⟨_, rfl⟩
  rw [← hq] at hD e1 ⊢
  have hq2 : q = (b.toInt - a.toInt).natAbs := hq
  unfold okP at ha hb
  unfold dirT
  rw [zeq]
  by_cases h : b < a
  · rw [if_pos h]
    rw [zlt] at h
    have e2 : (-1 : Int32).toInt = -1 := by decide +kernel
    have e3 : (nI q * -1).toInt = (q : Int) * -1 := by rw [zmul (by rw [e1, e2]; omega) (by rw [e1, e2]; omega), e1, e2]
    rw [zadd (by rw [e3]; omega) (by rw [e3]; omega), e3]
    omega
  · rw [if_neg h]
    rw [zlt] at h
    rw [Int32.mul_one, zadd (by rw [e1]; omega) (by rw [e1]; omega), e1]
    omega
theorem kpN_ok {x : Int32} (h : 0 ≤ x.toInt ∧ x.toInt ≤ 5) : 0 ≤ (kpN x).toInt ∧ (kpN x).toInt ≤ 5 := by
  have e5 : (5 : Int32).toInt = 5 := by decide +kernel
  have e1 : (1 : Int32).toInt = 1 := by decide +kernel
  unfold kpN
  by_cases q : x < 5
  · rw [if_pos q]
    rw [zlt, e5] at q
    rw [zadd (by rw [e1]; omega) (by rw [e1]; omega), e1]
    omega
  · rw [if_neg q, e5]
    omega
theorem rfR_0 {S : Nat → Int32} {tg : Int32} (h : rfR S tg = 0) : okQ tg := by
  unfold rfR at h
  by_cases q : okQ tg
  · exact q
  · rw [if_neg q] at h
    exact absurd h (by decide)
theorem Iv_goS {S : Nat → Int32} {tg : Int32} (h : Iv S) (ht : okP tg) : Iv (goS S tg) := by
  obtain ⟨h1, h2, h3, h4, h5, h6⟩ := h
  refine ⟨setOk_of h1 (fun k hk => (goS_at (by omega) (by omega)).trans (putT_lo S _ hk)), ?_, ?_, ?_, ?_, ?_⟩
  · rw [goS_at (by decide) (by decide), putT_hi S _ (by decide)]
    exact h2
  · rw [goS_37]
    exact kpN_ok h3
  · rw [goS_at (by decide) (by decide), show putT S (goX S tg) 10 = (goX S tg).1 from if_pos rfl, show (goX S tg).1 = tg from (gst_told S _ _ _ _).trans (way_told h4 ht)]
    exact ht
  · rw [goS_at (by decide) (by decide), show putT S (goX S tg) 13 = S 13 from rfl]
    exact h5
  · rw [goS_at (by decide) (by decide), show putT S (goX S tg) 14 = (goX S tg).2.2.1 from rfl]
    exact gst_bit h6 _
theorem Iv_goF {S : Nat → Int32} {tg : Int32} (h : Iv S) : Iv (goF S tg) := by
  unfold goF
  by_cases q : rfR S tg = 0
  · rw [if_pos q]
    exact Iv_goS h (okQ_P.mp (rfR_0 q))
  · rw [if_neg q]
    exact h
theorem gbC_0 {S : Nat → Int32} {n : Int32} (h : gbC S n = 0) : okQ (S 10 + n) := by
  unfold gbC at h
  by_cases q : okQ n
  · rw [if_pos q] at h
    by_cases q2 : okQ (S 10 + n)
    · exact q2
    · rw [if_neg q2] at h
      exact absurd h (by decide)
  · rw [if_neg q] at h
    exact absurd h (by decide)
theorem Iv_gbF {S : Nat → Int32} {n : Int32} (h : Iv S) : Iv (gbF S n) := by
  unfold gbF
  by_cases q : gbC S n = 0
  · rw [if_pos q]
    exact Iv_goS h (okQ_P.mp (gbC_0 q))
  · rw [if_neg q]
    exact h
theorem hmX_at {S : Nat → Int32} {x : T6} {j : Nat} (h1 : ¬ j = 10) (h2 : ¬ j = 13) (h3 : ¬ j = 12) : hmX S x j = putT S x j := by
  unfold hmX
  rw [if_neg h1, if_neg h2, if_neg h3]
theorem hmX_10 {S : Nat → Int32} {x : T6} : hmX S x 10 = 0 := if_pos rfl
theorem hmX_13 {S : Nat → Int32} {x : T6} : hmX S x 13 = 1 := rfl
theorem hmX_14 {S : Nat → Int32} {x : T6} : hmX S x 14 = x.2.2.1 := rfl
theorem Iv_hmX {S : Nat → Int32} {x : T6} (h : Iv S) (hx : bit1 x.2.2.1) : Iv (hmX S x) := by
  obtain ⟨h1, h2, h3, h4, h5, h6⟩ := h
  refine ⟨setOk_of h1 (fun k hk => hmX_lo S x hk), ?_, ?_, ?_, ?_, ?_⟩
  · rw [hmX_at (by decide) (by decide) (by decide), putT_hi S _ (by decide)]
    exact h2
  · rw [hmX_at (by decide) (by decide) (by decide), putT_hi S _ (by decide)]
    exact h3
  · rw [hmX_10]
    exact ⟨by decide, by decide⟩
  · rw [hmX_13]
    exact Or.inr rfl
  · rw [hmX_14]
    exact hx
theorem Iv_hmF {S : Nat → Int32} (h : Iv S) : Iv (if hPP S then hmF S else S) := by
  by_cases q : hPP S
  · rw [if_pos q]
    unfold hmF
    rw [if_pos q]
    exact Iv_hmX h (Or.inr q.2.2)
  · rw [if_neg q]
    exact h
theorem Iv_forget {S : Nat → Int32} (h : Iv S) : Iv (upd S 37 0) := by
  obtain ⟨h1, h2, h3, h4, h5, h6⟩ := h
  exact ⟨h1, h2, (show 0 ≤ (0 : Int32).toInt ∧ (0 : Int32).toInt ≤ 5 from ⟨by decide, by decide⟩), h4, h5, h6⟩
theorem Iv_out {S f : Nat → Int32} (h : Iv S) (h0 : setOk f) (e : ∀ k, 8 ≤ k → f k = S k) : Iv f := by
  obtain ⟨h1, h2, h3, h4, h5, h6⟩ := h
  refine ⟨h0, ?_, ?_, ?_, ?_, ?_⟩
  · rw [e 18 (by decide)]; exact h2
  · rw [e 37 (by decide)]; exact h3
  · rw [e 10 (by decide)]; exact h4
  · rw [e 13 (by decide)]; exact h5
  · rw [e 14 (by decide)]; exact h6
theorem Iv_set {S : Nat → Int32} {w v : Int32} (h : Iv S) (hp : stP w v) : Iv (upd S w.toInt.toNat v) := by
  obtain ⟨⟨hw0, hw7⟩, hv⟩ := hp
  have hz := zp0 hw0
  rw [zle, show (7 : Int32).toInt = 7 from by decide +kernel] at hw7
  have ew : w = nI w.toInt.toNat := zof hz
  obtain ⟨q, hq⟩ : ∃ q, q = w.toInt.toNat := ⟨_, rfl⟩
  rw [← hq] at ew ⊢
  have hq7 : q < 8 := by omega
  refine Iv_out h ?_ (fun k hk => upd_ne (by omega))
  rw [ew, zle, zle] at hv
  obtain ⟨h0, h1, h2, h3, h4, h5, h6, h7⟩ := h.1
  clear hq ew
  match q, hq7 with
  | 0, _ =>
    rw [show (leT (nI 0)).toInt = 100 from by decide +kernel, show (moT (nI 0)).toInt = 5000 from by decide +kernel] at hv
    exact ⟨hv, h1, h2, h3, h4, h5, h6, h7⟩
  | 1, _ =>
    rw [show (leT (nI 1)).toInt = 20 from by decide +kernel, show (moT (nI 1)).toInt = 1000 from by decide +kernel] at hv
    exact ⟨h0, hv, h2, h3, h4, h5, h6, h7⟩
  | 2, _ =>
    rw [show (leT (nI 2)).toInt = 0 from by decide +kernel, show (moT (nI 2)).toInt = 200 from by decide +kernel] at hv
    exact ⟨h0, h1, hv, h3, h4, h5, h6, h7⟩
  | 3, _ =>
    rw [show (leT (nI 3)).toInt = 1 from by decide +kernel, show (moT (nI 3)).toInt = 300 from by decide +kernel] at hv
    exact ⟨h0, h1, h2, hv, h4, h5, h6, h7⟩
  | 4, _ =>
    rw [show (leT (nI 4)).toInt = 0 from by decide +kernel, show (moT (nI 4)).toInt = 100 from by decide +kernel] at hv
    exact ⟨h0, h1, h2, h3, hv, h5, h6, h7⟩
  | 5, _ =>
    rw [show (leT (nI 5)).toInt = -2900 from by decide +kernel, show (moT (nI 5)).toInt = 2900 from by decide +kernel] at hv
    exact ⟨h0, h1, h2, h3, h4, hv, h6, h7⟩
  | 6, _ =>
    rw [show (leT (nI 6)).toInt = 0 from by decide +kernel, show (moT (nI 6)).toInt = 50 from by decide +kernel] at hv
    exact ⟨h0, h1, h2, h3, h4, h5, hv, h7⟩
  | 7, _ =>
    rw [show (leT (nI 7)).toInt = 0 from by decide +kernel, show (moT (nI 7)).toInt = 200 from by decide +kernel] at hv
    exact ⟨h0, h1, h2, h3, h4, h5, h6, hv⟩
