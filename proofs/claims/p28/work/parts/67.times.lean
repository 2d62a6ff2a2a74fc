/-! the times of the kept moves, and the bits of their mean speeds -/
theorem iv_bd {S : Nat → Int32} (h : setOk S) {M : Nat} (hM : M ≤ 200) : ∀ k, k ≤ topN S M → (20 ≤ (ivS S k).toInt ∧ (ivS S k).toInt ≤ 5000) ∧ (0 ≤ (rsS S k).toInt ∧ (rsS S k).toInt ≤ 1000)
  | 0, _ => by
    have h0 := h.1
    refine ⟨⟨?_, ?_⟩, ?_, ?_⟩
    · show 20 ≤ (S 0).toInt
      omega
    · exact h0.2
    · show 0 ≤ (0 : Int32).toInt
      exact Int.le_refl 0
    · show (0 : Int32).toInt ≤ 1000
      decide
  | k + 1, hk => by
    obtain ⟨⟨a1, a2⟩, b1, b2⟩ := iv_bd h hM k (by omega)
    have h1 := h.2.1
    have hk2 : k + 1 ≤ 200 := Nat.le_trans hk (Nat.le_trans (topN_le S M) hM)
    obtain ⟨V, hV⟩ : ∃ V, V = 2 * (ivS S k).toInt.toNat + (rsS S k).toInt.toNat := ⟨_, rfl⟩
    have eV : 2 * ivS S k + rsS S k = nI V := by
      rw [hV, ← nI_add, ← pk_mul, ← zof (show 0 ≤ (ivS S k).toInt by omega), ← zof b1]
      rfl
    have hV2 : V ≤ 11000 := by omega
    have eq : nI V / rD k = nI (V / (4 * (k + 1) + 1)) := by rw [rD_eq, pk_div (by omega) (by omega) (by omega)]
    have hq : V / (4 * (k + 1) + 1) ≤ V := Nat.div_le_self _ _
    refine ⟨?_, ?_⟩
    · rw [← ivS_s, eV, eq]
      obtain ⟨Q, hQ⟩ : ∃ Q, Q = V / (4 * (k + 1) + 1) := ⟨_, rfl⟩
      rw [← hQ]
      have e := zsub (a := ivS S k) (b := nI Q) (by rw [znI (by omega)]; omega) (by rw [znI (by omega)]; omega)
      rw [znI (by omega)] at e
      by_cases q : S 1 < ivS S k - nI Q
      · rw [if_pos q]
        rw [zlt] at q
        omega
      · rw [if_neg q]
        omega
    · rw [← rsS_s, eV, rD_eq, pk_rem (by omega) (by omega) (by omega)]
      have hm := Nat.mod_lt V (show 0 < 4 * (k + 1) + 1 by omega)
      rw [znI (by omega)]
      omega
theorem gsp_bd {S : Nat → Int32} (h : setOk S) (D : Nat) : ∀ n, n ≤ 8000 → ∃ v, gsp S (topS S) D n = nI v ∧ 20 * n ≤ v ∧ v ≤ 5000 * n
  | 0, _ => ⟨0, rfl, Nat.le_refl _, Nat.le_refl _⟩
  | n + 1, hn => by
    obtain ⟨v, e, h1, h2⟩ := gsp_bd h D n (by omega)
    obtain ⟨⟨a1, a2⟩, _⟩ := iv_bd h (M := (S 2).toInt.toNat) (by have := h.2.2.1; omega) (ix (topS S) n D) (ix_le _ _ _)
    refine ⟨v + (ivS S (ix (topS S) n D)).toInt.toNat, ?_, by omega, by omega⟩
    rw [gsp, e, ← nI_add, ← zof (by omega)]
abbrev mtQ (a b t : Int32) : Prop := okP a ∧ okP b ∧ 20 * (dist a b : Int) ≤ t.toInt ∧ t.toInt ≤ 40000000
def Mt (S : Nat → Int32) : Prop := ∀ q, q < (S 37).toInt.toNat → mtQ (S (38 + 5 * q)) (S (38 + 5 * q + 1)) (S (38 + 5 * q + 3))
def Jv (S : Nat → Int32) : Prop := Iv S ∧ Mt S
theorem Mt_of {S f : Nat → Int32} (h : Mt S) (h5 : (S 37).toInt ≤ 5) (e : ∀ k, 37 ≤ k → k < 63 → f k = S k) : Mt f := by
  intro q hq
  rw [e 37 (by omega) (by omega)] at hq
  rw [e (38 + 5 * q) (by omega) (by omega), e (38 + 5 * q + 1) (by omega) (by omega), e (38 + 5 * q + 3) (by omega) (by omega)]
  exact h q hq
theorem goS_38 {S : Nat → Int32} {tg : Int32} {j : Nat} (h : 38 ≤ j) : goS S tg j = kpF (mvS S) (S 10) tg (goM S tg) (goP S tg) (grN (topS S) (gD S tg)) (j - 38) := by
  unfold goS
  rw [if_neg (by omega), if_pos h]
theorem Mt_goS {S : Nat → Int32} {tg : Int32} (h : Jv S) (ht : okP tg) : Mt (goS S tg) := by
  obtain ⟨⟨hok, hnl, hnm, hto, _, _⟩, hm⟩ := h
  intro q hq
  rw [goS_37] at hq
  rw [goS_38 (by omega), goS_38 (by omega), goS_38 (by omega)]
  have hD := dist_le hto ht
  rcases Nat.eq_zero_or_pos q with z | z
  · subst z
    show mtQ (S 10) tg (goP S tg)
    obtain ⟨v, e, h1, h2⟩ := gsp_bd hok (gD S tg) (gD S tg) hD
    have e2 : goP S tg = nI v := e
    refine ⟨hto, ht, ?_⟩
    rw [e2, znI (by have : gD S tg ≤ 8000 := hD; omega)]
    have : gD S tg ≤ 8000 := hD
    show 20 * ((gD S tg : Nat) : Int) ≤ (v : Int) ∧ (v : Int) ≤ 40000000
    omega
  · have hq2 : q - 1 < (S 37).toInt.toNat := by
      unfold kpN at hq
      by_cases c : S 37 < 5
      · rw [if_pos c] at hq
        have e := zadd (a := S 37) (b := 1) (by rw [show (1 : Int32).toInt = 1 from by decide +kernel]; omega) (by rw [show (1 : Int32).toInt = 1 from by decide +kernel]; omega)
        rw [show (1 : Int32).toInt = 1 from by decide +kernel] at e
        omega
      · rw [if_neg c] at hq
        rw [zlt, i5] at c
        rw [i5] at hq
        omega
    have hm1 := hm (q - 1) hq2
    have ek : ∀ r, r < 5 → kpF (mvS S) (S 10) tg (goM S tg) (goP S tg) (grN (topS S) (gD S tg)) (38 + 5 * q + r - 38) = S (38 + 5 * (q - 1) + r) := by
      intro r hr
      unfold kpF
      rw [if_neg (by omega), if_neg (by omega), if_neg (by omega), if_neg (by omega), if_neg (by omega)]
      unfold mvS
      exact congrArg S (by omega)
    have e0 := ek 0 (by decide)
    rw [Nat.add_zero, Nat.add_zero] at e0
    rw [e0, ek 1 (by decide), ek 3 (by decide)]
    exact hm1
theorem Jv_goF {S : Nat → Int32} {tg : Int32} (h : Jv S) : Jv (goF S tg) := by
  refine ⟨Iv_goF h.1, ?_⟩
  unfold goF
  by_cases q : rfR S tg = 0
  · rw [if_pos q]; exact Mt_goS h (okQ_P.mp (rf_ok q))
  · rw [if_neg q]; exact h.2
theorem Jv_gbF {S : Nat → Int32} {n : Int32} (h : Jv S) : Jv (gbF S n) := by
  refine ⟨Iv_gbF h.1, ?_⟩
  unfold gbF
  by_cases q : gbC S n = 0
  · rw [if_pos q]; exact Mt_goS h (okQ_P.mp (gbC_0 q))
  · rw [if_neg q]; exact h.2
theorem Jv_hm {S : Nat → Int32} (h : Jv S) : Jv (if hPP S then hmF S else S) := by
  refine ⟨Iv_hmF h.1, ?_⟩
  by_cases q : hPP S
  · rw [if_pos q]
    refine Mt_of h.2 h.1.2.2.1.2 (fun k hk _ => ?_)
    rw [show hmF S = hmS S from if_pos q]
    exact hmX_mid S _ (by omega)
  · rw [if_neg q]; exact h.2
theorem Jv_forget {S : Nat → Int32} (h : Jv S) : Jv (upd S 37 0) := ⟨Iv_forget h.1, fun q hq => absurd hq (by show ¬ q < (0 : Int32).toInt.toNat; rw [i0]; exact Nat.not_lt_zero q)⟩
theorem w7 {w : Int32} (h : 0 ≤ w ∧ w ≤ 7) : w.toInt.toNat < 8 := by
  obtain ⟨j, hj, _, e⟩ := w8 h
  omega
theorem Jv_set {S : Nat → Int32} {w v : Int32} (h : Jv S) (hp : stP w v) : Jv (upd S w.toInt.toNat v) :=
  ⟨Iv_set h.1 hp, Mt_of h.2 h.1.2.2.1.2 (fun k hk _ => upd_ne (by have := w7 hp.1; omega))⟩
theorem Jv_lim {S : Nat → Int32} {p q : Int32} (h : Jv S) : Jv (upd (upd S 8 p) 9 q) :=
  ⟨Iv_lim h.1, Mt_of h.2 h.1.2.2.1.2 (fun k hk _ => by rw [upd_ne (by omega), upd_ne (by omega)])⟩
theorem adS_hi {S : Nat → Int32} {p q w : Int32} {k : Nat} (h6 : (S 18).toInt < 6) (h : 37 ≤ k) : adS S p q w k = S k := by
  unfold adS
  rw [upd_ne (by omega), upd_ne (by omega), upd_ne (by omega), upd_ne (by omega)]
theorem Jv_ad {S : Nat → Int32} {p q w : Int32} (h : Jv S) (ha : adP (S 18) p q w) : Jv (adS S p q w) := by
  refine ⟨Iv_ad h.1 ha, Mt_of h.2 h.1.2.2.1.2 (fun k hk _ => adS_hi ?_ hk)⟩
  have h2 := h.1.2.1.2
  have h3 : ¬ (S 18).toInt = 6 := fun e => ha.2 (by rw [zeq, e, i6])
  omega
theorem drS_hi {S : Nat → Int32} {J k : Nat} (hl : (S 18).toInt ≤ 6) (h : 37 ≤ k) : drS S J k = S k := by
  unfold drS drL
  rw [if_neg (by omega), if_neg (by omega)]
theorem Jv_dr {S : Nat → Int32} {j : Int32} (h : Jv S) (hd : drP (S 18) j) : Jv (drS S j.toInt.toNat) :=
  ⟨Iv_dr h.1 hd, Mt_of h.2 h.1.2.2.1.2 (fun k hk _ => drS_hi h.1.2.1.2 hk)⟩
theorem Jv_of {S f : Nat → Int32} (h : Jv S) (e : ∀ k, k < 63 → f k = S k) : Jv f := ⟨Iv_of h.1 e, Mt_of h.2 h.1.2.2.1.2 (fun k _ hk => e k hk)⟩
theorem dist_0 {a b : Int32} : dist a b = 0 ↔ a = b := by
  unfold dist
  rw [zeq]
  omega
theorem mvR_in {mv : Nat → Int32} {nm j : Int32} {w : Nat} (h0 : ¬ j < 0) (h1 : j < nm) (hw : w ≤ 4) : mvR mv nm j (nI w) = mv (5 * j.toInt.toNat + w) := by
  have e : (nI w).toInt = (w : Int) := znI (by omega)
  unfold mvR
  rw [if_pos ⟨h0, by rw [zle, e, i0]; omega, by rw [zle, e, i4]; omega⟩, if_pos h1, e, Int.toNat_natCast]
theorem sp_t {a b t : Int32} (h : mtQ a b t) (hn : ¬ a = b) : 0 < t := by
  have hd : ¬ dist a b = 0 := fun e => hn (dist_0.mp e)
  rw [zlt, i0]
  have := h.2.2.1
  omega
theorem sp_i {j : Int32} (h0 : ¬ j < 0) (h : j.toInt < 5) {w : Nat} (hw : w ≤ 4) : (38 : Int32) + 5 * j + nI w = nI (38 + 5 * j.toInt.toNat + w) ∧ 38 + 5 * j.toInt.toNat + w < 63 := by
  have hz := zp0 (zge h0)
  refine ⟨?_, by omega⟩
  rw [zof hz, show (38 : Int32) = nI 38 from rfl, show (5 : Int32) = nI 5 from rfl, pk_mul, nI_add, nI_add, znI (by omega), Int.toNat_natCast]
theorem sp_i0 {j : Int32} (h0 : ¬ j < 0) (h : j.toInt < 5) : (38 : Int32) + 5 * j = nI (38 + 5 * j.toInt.toNat) ∧ 38 + 5 * j.toInt.toNat < 63 := by
  have e := sp_i h0 h (w := 0) (by decide)
  rw [show nI 0 = 0 from rfl, Int32.add_zero, Nat.add_zero] at e
  exact e
theorem sp_ab {a b : Int32} (ha : okP a) (hb : okP b) : (0 ≤ b - a → b - a = nI (dist a b)) ∧ (¬ 0 ≤ b - a → -(b - a) = nI (dist a b)) := by
  have e := way_abs ha hb
  refine ⟨fun h => ?_, fun h => ?_⟩
  · rw [if_pos h] at e
    exact e
  · rw [if_neg h, Int32.zero_sub] at e
    exact e
theorem Mt_in {S : Nat → Int32} {j : Int32} (h : Mt S) (h0 : ¬ j < 0) (h1 : j < S 37) : mtQ (mvS S (5 * j.toInt.toNat)) (mvS S (5 * j.toInt.toNat + 1)) (mvS S (5 * j.toInt.toNat + 3)) := by
  have hz := zp0 (zge h0)
  rw [zlt] at h1
  exact h j.toInt.toNat (by omega)


