/-! floats: the few numbers that mean speeds are, and what halving the way to 1 does with their bits -/
abbrev fl (E t : Nat) : UInt32 := UInt32.ofNat (E * 8388608 + t)
theorem f_tails : FP.Core.b32.tails = 8388608 := by first | rfl | decide
theorem f_exps : FP.Core.b32.exps = 256 := by first | rfl | decide
theorem f_qmin : FP.Core.b32.qmin = -149 := by first | rfl | decide
theorem f_qmax : FP.Core.b32.qmax = 104 := by first | rfl | decide
theorem f_pp : (2 : Nat) ^ FP.Core.b32.p = 16777216 := by first | rfl | decide
theorem f_nat {E t : Nat} (h2 : E ≤ 254) (ht : t < 8388608) : (fl E t).toNat = E * 8388608 + t := UInt32.toNat_ofNat_of_lt' (by show _ < 4294967296; omega)
theorem f_dec {E t : Nat} (h1 : 1 ≤ E) (h2 : E ≤ 254) (ht : t < 8388608) : FP.Core.decode FP.Core.b32 (E * 8388608 + t) = .fin false (8388608 + t) ((E : Int) - 150) := by
  have hT : FP.Core.fieldT FP.Core.b32 (E * 8388608 + t) = t := by unfold FP.Core.fieldT; rw [f_tails]; omega
  have hE : FP.Core.fieldE FP.Core.b32 (E * 8388608 + t) = E := by unfold FP.Core.fieldE; rw [f_tails, f_exps]; omega
  have hS : FP.Core.fieldS FP.Core.b32 (E * 8388608 + t) = false := by
    unfold FP.Core.fieldS
    rw [f_tails, f_exps, show (E * 8388608 + t) / 8388608 / 256 = 0 by omega]
    rfl
  unfold FP.Core.decode
  rw [hE, hT, hS, f_exps, f_tails, f_qmin, if_neg (by omega), if_neg (by omega), show (-149 : Int) + ((E : Int) - 1) = (E : Int) - 150 by omega]
theorem f_enc {c : Nat} {q : Int} (h1 : 8388608 ≤ c) (_h2 : c < 16777216) (hq : -149 ≤ q) : FP.Core.encode FP.Core.b32 (.fin false c q) = (q + 150).toNat * 8388608 + (c - 8388608) := by
  show (if c < FP.Core.b32.tails then FP.Core.assemble FP.Core.b32 false 0 c else FP.Core.assemble FP.Core.b32 false ((q - FP.Core.b32.qmin).toNat + 1) (c - FP.Core.b32.tails)) = _
  rw [f_tails, if_neg (by omega), f_qmin]
  unfold FP.Core.assemble
  rw [f_tails, f_exps]
  show (0 * 256 + ((q - -149).toNat + 1)) * 8388608 + (c - 8388608) = _
  omega
theorem f_de {c : Nat} {q : Int} (h1 : 8388608 ≤ c) (h2 : c < 16777216) (hq : -149 ≤ q) (hq2 : q ≤ 104) : FP.Core.decode FP.Core.b32 (UInt32.ofNat (FP.Core.encode FP.Core.b32 (.fin false c q))).toNat = .fin false c q := by
  rw [f_enc h1 h2 hq, f_nat (by omega) (by omega), f_dec (by omega) (by omega) (by omega), show 8388608 + (c - 8388608) = c by omega, show (((q + 150).toNat : Nat) : Int) - 150 = q by omega]
theorem f_rr {s : Bool} {A B : Nat} {e L : Int} (hA : 0 < A) (hL : FP.Core.leading A B = L) (hq : -149 ≤ L + e - 23) : FP.Core.roundRatio FP.Core.b32 s A B e = FP.Core.settle FP.Core.b32 s (FP.Core.nearest (A * 2 ^ (23 - L).toNat) (B * 2 ^ (L - 23).toNat)) (L + e - 23) := by
  have hQ : FP.Core.quantum FP.Core.b32 A B e = L + e - 23 := by
    unfold FP.Core.quantum
    rw [hL, f_qmin]
    show max (-149) (L + e - ((24 : Int) - 1)) = _
    omega
  unfold FP.Core.roundRatio
  rw [if_neg (by omega), hQ]
  unfold FP.Core.roundAt FP.Core.unitsNum FP.Core.unitsDen
  rw [show e - (L + e - 23) = 23 - L by omega, show L + e - 23 - e = L - 23 by omega]
theorem f_set1 {s : Bool} {c : Nat} {q : Int} (h2 : c < 16777216) (hq : q ≤ 104) : FP.Core.settle FP.Core.b32 s c q = .fin s c q := by
  unfold FP.Core.settle FP.Core.bound
  rw [f_qmax, f_pp, if_pos h2, if_pos hq]
theorem f_set {c : Nat} {q : Int} (h1 : 8388608 ≤ c) (h2 : c ≤ 16777216) (hq : q + 1 ≤ 104) : ∃ c' q', FP.Core.settle FP.Core.b32 false c q = .fin false c' q' ∧ 8388608 ≤ c' ∧ c' < 16777216 ∧ q ≤ q' ∧ q' ≤ q + 1 := by
  by_cases h : c < 16777216
  · exact ⟨c, q, f_set1 h (by omega), h1, h, by omega, by omega⟩
  · refine ⟨8388608, q + 1, ?_, by omega, by omega, by omega, by omega⟩
    unfold FP.Core.settle FP.Core.bound
    rw [f_qmax, f_pp, f_tails, if_neg h, if_pos hq]
theorem f_nex {B M : Nat} (hB : 0 < B) : FP.Core.nearest (M * B) B = M := by
  unfold FP.Core.nearest
  rw [Nat.mul_mod_left, Nat.mul_div_cancel _ hB, if_pos (by omega)]
theorem f_nge {A B M : Nat} (hB : 0 < B) (h : M * B ≤ A) : M ≤ FP.Core.nearest A B := by
  have h1 : M ≤ A / B := (Nat.le_div_iff_mul_le hB).mpr h
  unfold FP.Core.nearest
  split
  · exact h1
  · split
    · exact Nat.le_succ_of_le h1
    · exact Nat.le_trans h1 (Nat.le_add_right _ _)
theorem f_nle {A B M : Nat} (hB : 0 < B) (h : A ≤ M * B) : FP.Core.nearest A B ≤ M := by
  rcases Nat.eq_or_lt_of_le h with e | e
  · rw [e, f_nex hB]
    exact Nat.le_refl _
  · have h1 : A / B < M := (Nat.div_lt_iff_lt_mul hB).mpr e
    have h2 := Nat.mod_lt (A / B) (show 0 < 2 by decide)
    unfold FP.Core.nearest
    split
    · omega
    · split <;> omega
theorem f_lead {a b : Nat} (a1 : 8388608 ≤ a) (a2 : a < 16777216) (b1 : 8388608 ≤ b) (b2 : b < 16777216) : FP.Core.leading a b = if b ≤ a then 0 else -1 := by
  show (if b * 2 ^ ((a.log2 : Int) - (b.log2 : Int)).toNat ≤ a * 2 ^ (-((a.log2 : Int) - (b.log2 : Int))).toNat then ((a.log2 : Int) - (b.log2 : Int)) else ((a.log2 : Int) - (b.log2 : Int)) - 1) = _
  rw [(Nat.log2_eq_iff (k := 23) (by omega)).mpr ⟨show 2 ^ 23 ≤ a from a1, show a < 2 ^ 24 from a2⟩, (Nat.log2_eq_iff (k := 23) (by omega)).mpr ⟨show 2 ^ 23 ≤ b from b1, show b < 2 ^ 24 from b2⟩]
  show (if b * 1 ≤ a * 1 then (0 : Int) else -1) = _
  rw [Nat.mul_one, Nat.mul_one]
theorem f_lead1 {v : Nat} (hv : 0 < v) : FP.Core.leading v 1 = (v.log2 : Int) := by
  show (if 1 * 2 ^ ((v.log2 : Int) - ((1 : Nat).log2 : Int)).toNat ≤ v * 2 ^ (-((v.log2 : Int) - ((1 : Nat).log2 : Int))).toNat then ((v.log2 : Int) - ((1 : Nat).log2 : Int)) else ((v.log2 : Int) - ((1 : Nat).log2 : Int)) - 1) = _
  rw [(Nat.log2_eq_iff (n := 1) (k := 0) (by decide)).mpr ⟨by decide, by decide⟩, show ((v.log2 : Int) - ((0 : Nat) : Int)) = (v.log2 : Int) by omega, show (-(v.log2 : Int)).toNat = 0 by omega, Int.toNat_natCast, Nat.pow_zero, Nat.mul_one, Nat.one_mul, if_pos (Nat.log2_self_le (by omega))]
theorem f_i2f {v : Nat} (h1 : 1 ≤ v) (h2 : v < 67108864) : ∃ c q, FP.Core.decode FP.Core.b32 (FP.i2f (nI v)).toNat = .fin false c q ∧ 8388608 ≤ c ∧ c < 16777216 ∧ (v.log2 : Int) - 23 ≤ q ∧ q ≤ (v.log2 : Int) - 22 := by
  have hk : v.log2 < 26 := (Nat.log2_lt (by omega)).mpr h2
  have k1 : 2 ^ v.log2 ≤ v := Nat.log2_self_le (by omega)
  have k2 : v < 2 ^ (v.log2 + 1) := Nat.lt_log2_self
  have hL := f_lead1 (v := v) (by omega)
  generalize v.log2 = k at *
  have hb1 : 8388608 * (1 * 2 ^ ((k : Int) - 23).toNat) ≤ v * 2 ^ (23 - (k : Int)).toNat ∧ v * 2 ^ (23 - (k : Int)).toNat ≤ 16777216 * (1 * 2 ^ ((k : Int) - 23).toNat) := by
    rcases Nat.lt_or_ge 23 k with h | h
    · obtain ⟨d, rfl⟩ : ∃ d, k = 23 + d := ⟨k - 23, by omega⟩
      rw [show (((23 + d : Nat) : Int) - 23).toNat = d by omega, show (23 - ((23 + d : Nat) : Int)).toNat = 0 by omega]
      rw [Nat.pow_add] at k1
      rw [show 23 + d + 1 = 24 + d by omega, Nat.pow_add] at k2
      constructor <;> omega
    · obtain ⟨d, hd⟩ : ∃ d, 23 = k + d := ⟨23 - k, by omega⟩
      rw [show ((k : Int) - 23).toNat = 0 by omega, show (23 - (k : Int)).toNat = d by omega]
      have e1 : 2 ^ k * 2 ^ d = 8388608 := by rw [← Nat.pow_add, ← hd]
      have e2 : 2 ^ (k + 1) * 2 ^ d = 16777216 := by rw [← Nat.pow_add, show k + 1 + d = 24 by omega]
      have m1 := Nat.mul_le_mul_right (2 ^ d) k1
      have m2 := Nat.mul_le_mul_right (2 ^ d) (Nat.le_of_lt k2)
      constructor <;> omega
  have hB : 0 < 1 * 2 ^ ((k : Int) - 23).toNat := by rw [Nat.one_mul]; exact Nat.two_pow_pos _
  obtain ⟨c, q, x1, x2, x3, x4, x5⟩ := f_set (q := (k : Int) + 0 - 23) (f_nge hB hb1.1) (f_nle hB hb1.2) (by omega)
  have e : FP.Core.round FP.Core.b32 (FP.Core.ofInt (nI v).toInt) = .fin false c q := by
    rw [znI (by omega)]
    show FP.Core.roundRatio FP.Core.b32 (decide ((v : Int) < 0)) (v : Int).natAbs 1 0 = _
    rw [show decide ((v : Int) < 0) = false by rw [decide_eq_false_iff_not]; omega, Int.natAbs_natCast, f_rr (by omega) hL (by omega)]
    exact x1
  refine ⟨c, q, ?_, x2, x3, by omega, by omega⟩
  show FP.Core.decode FP.Core.b32 (UInt32.ofNat (FP.Core.encode FP.Core.b32 (FP.Core.round FP.Core.b32 (FP.Core.ofInt (nI v).toInt)))).toNat = _
  rw [e]
  exact f_de x2 x3 (by omega) (by omega)
theorem f_div {a b : UInt32} {c1 c2 : Nat} {q1 q2 : Int} (ha : FP.Core.decode FP.Core.b32 a.toNat = .fin false c1 q1) (hb : FP.Core.decode FP.Core.b32 b.toNat = .fin false c2 q2) (a1 : 8388608 ≤ c1) (a2 : c1 < 16777216) (b1 : 8388608 ≤ c2) (b2 : c2 < 16777216) (hlo : -125 ≤ q1 - q2) (hhi : q1 - q2 ≤ -2) : ∃ E t, FP.fdiv a b = fl E t ∧ 1 ≤ E ∧ E ≤ 126 ∧ t < 8388608 := by
  have hl := f_lead a1 a2 b1 b2
  have key : ∃ c q, FP.Core.quotient FP.Core.b32 (.fin false c1 q1) (.fin false c2 q2) = .fin false c q ∧ 8388608 ≤ c ∧ c < 16777216 ∧ q1 - q2 - 24 ≤ q ∧ q ≤ q1 - q2 - 22 := by
    have e : FP.Core.quotient FP.Core.b32 (.fin false c1 q1) (.fin false c2 q2) = FP.Core.roundRatio FP.Core.b32 false c1 c2 (q1 - q2) := if_neg (by omega)
    rw [e]
    by_cases h : c2 ≤ c1
    · rw [if_pos h] at hl
      rw [f_rr (by omega) hl (by omega), show (2 : Nat) ^ ((23 : Int) - 0).toNat = 8388608 from rfl, show (2 : Nat) ^ ((0 : Int) - 23).toNat = 1 from rfl]
      obtain ⟨c, q, x1, x2, x3, x4, x5⟩ := f_set (q := 0 + (q1 - q2) - 23) (f_nge (A := c1 * 8388608) (B := c2 * 1) (by omega) (by omega)) (f_nle (by omega) (by omega)) (by omega)
      exact ⟨c, q, x1, x2, x3, by omega, by omega⟩
    · rw [if_neg h] at hl
      rw [f_rr (by omega) hl (by omega), show (2 : Nat) ^ ((23 : Int) - -1).toNat = 16777216 from rfl, show (2 : Nat) ^ ((-1 : Int) - 23).toNat = 1 from rfl]
      obtain ⟨c, q, x1, x2, x3, x4, x5⟩ := f_set (q := -1 + (q1 - q2) - 23) (f_nge (A := c1 * 16777216) (B := c2 * 1) (by omega) (by omega)) (f_nle (by omega) (by omega)) (by omega)
      exact ⟨c, q, x1, x2, x3, by omega, by omega⟩
  obtain ⟨c, q, x1, x2, x3, x4, x5⟩ := key
  refine ⟨(q + 150).toNat, c - 8388608, ?_, by omega, by omega, by omega⟩
  show UInt32.ofNat (FP.Core.encode FP.Core.b32 (FP.Core.quotient FP.Core.b32 (FP.Core.decode FP.Core.b32 a.toNat) (FP.Core.decode FP.Core.b32 b.toNat))) = _
  rw [ha, hb, x1, f_enc x2 x3 (by omega)]
theorem f_speed {s t : Nat} (h1 : 1 ≤ s) (h2 : s ≤ 8000) (h3 : 20 * s ≤ t) (h4 : t ≤ 40000000) : ∃ E u, FP.fdiv (FP.i2f (nI s)) (FP.i2f (nI t)) = fl E u ∧ 1 ≤ E ∧ E ≤ 126 ∧ u < 8388608 := by
  obtain ⟨c1, q1, e1, a1, a2, a3, a4⟩ := f_i2f (v := s) h1 (by omega)
  obtain ⟨c2, q2, e2, b1, b2, b3, b4⟩ := f_i2f (v := t) (by omega) (by omega)
  have k1 : 2 ^ s.log2 ≤ s := Nat.log2_self_le (by omega)
  have hk : t.log2 < 26 := (Nat.log2_lt (by omega)).mpr (by omega)
  have k2 : s.log2 + 4 ≤ t.log2 := (Nat.le_log2 (by omega)).mpr (by rw [Nat.pow_add]; omega)
  exact f_div e1 e2 a1 a2 b1 b2 (by omega) (by omega)
theorem f_nn {r : UInt32} (h : r.toNat ≤ 2139095040) : vf_n32 r := by
  unfold vf_n32
  rw [UInt32.le_iff_toNat_le, UInt32.toNat_and]
  exact Nat.le_trans Nat.and_le_left h
theorem f_nf {E t : Nat} (h2 : E ≤ 254) (ht : t < 8388608) : vf_n32 (fl E t) := f_nn (by rw [f_nat h2 ht]; omega)
/-- a number of 24 digits times 2^23 -/
theorem f_m23 {s : Bool} {c : Nat} {e : Int} (h1 : 8388608 ≤ c) (h2 : c < 16777216) (he : -149 ≤ e + 23) (he2 : e + 23 ≤ 104) : FP.Core.roundRatio FP.Core.b32 s (c * 8388608) 1 e = .fin s c (e + 23) := by
  have hl : FP.Core.leading (c * 8388608) 1 = 46 := by
    rw [f_lead1 (by omega), (Nat.log2_eq_iff (k := 46) (by omega)).mpr ⟨show 70368744177664 ≤ c * 8388608 by omega, show c * 8388608 < 140737488355328 by omega⟩]
    rfl
  rw [f_rr (by omega) hl (by omega), show (2 : Nat) ^ ((23 : Int) - 46).toNat = 1 from rfl, show (2 : Nat) ^ ((46 : Int) - 23).toNat = 8388608 from rfl, Nat.mul_one, Nat.one_mul, f_nex (by decide), show 46 + e - 23 = e + 23 by omega]
  exact f_set1 h2 he2
theorem f_mul {x : UInt32} {c E : Nat} {q : Int} (hx : FP.Core.decode FP.Core.b32 x.toNat = .fin false c q) (h1 : 8388608 ≤ c) (h2 : c < 16777216) (hE : 1 ≤ E) (hE2 : E ≤ 254) (hq : -149 ≤ q + ((E : Int) - 150) + 23) (hq2 : q + ((E : Int) - 150) + 23 ≤ 104) : FP.fmul x (fl E 0) = UInt32.ofNat (FP.Core.encode FP.Core.b32 (.fin false c (q + ((E : Int) - 150) + 23))) := by
  show UInt32.ofNat (FP.Core.encode FP.Core.b32 (FP.Core.round FP.Core.b32 (FP.Core.exactProduct (FP.Core.decode FP.Core.b32 x.toNat) (FP.Core.decode FP.Core.b32 (fl E 0).toNat)))) = _
  rw [hx, f_nat hE2 (by decide), f_dec hE hE2 (by decide)]
  show UInt32.ofNat (FP.Core.encode FP.Core.b32 (FP.Core.roundRatio FP.Core.b32 false (c * 8388608) 1 (q + ((E : Int) - 150)))) = _
  rw [f_m23 h1 h2 hq hq2]
theorem f_dbl {E t : Nat} (h1 : 1 ≤ E) (h2 : E ≤ 253) (ht : t < 8388608) : FP.fmul (fl E t) FP.fconst2 = fl (E + 1) t := by
  rw [show FP.fconst2 = fl 128 0 from rfl, f_mul (c := 8388608 + t) (q := (E : Int) - 150) (by rw [f_nat (by omega) ht]; exact f_dec h1 (by omega) ht) (by omega) (by omega) (by decide) (by decide) (by omega) (by omega), f_enc (by omega) (by omega) (by omega), show ((E : Int) - 150 + (((128 : Nat) : Int) - 150) + 23 + 150).toNat = E + 1 by omega, show 8388608 + t - 8388608 = t by omega]
theorem f_cmp {E t : Nat} (h1 : 1 ≤ E) (h2 : E ≤ 254) (ht : t < 8388608) (x : UInt32) : FP.fcmp (fl E t) x = FP.Core.order (.fin false (8388608 + t) ((E : Int) - 150)) (FP.Core.decode FP.Core.b32 x.toNat) := by
  show FP.Core.order (FP.Core.decode FP.Core.b32 (fl E t).toNat) _ = _
  rw [f_nat h2 ht, f_dec h1 h2 ht]
theorem f_dec1 : FP.Core.decode FP.Core.b32 FP.fconst1.toNat = .fin false 8388608 (-23) := by
  rw [show FP.fconst1.toNat = 127 * 8388608 + 0 from rfl, f_dec (by decide) (by decide) (by decide)]
  rfl
theorem f_lt1 {E t : Nat} (h1 : 1 ≤ E) (h2 : E ≤ 126) (ht : t < 8388608) : Op.cmpValue (FP.fcmp (fl E t) FP.fconst1) .g = -1 := by
  rw [f_cmp h1 (by omega) ht, f_dec1]
  have e : FP.Core.order (.fin false (8388608 + t) ((E : Int) - 150)) (.fin false 8388608 (-23)) = some .lt := by
    show some (compareOfLessAndEq (((8388608 + t) * 2 ^ ((E : Int) - 150 - min ((E : Int) - 150) (-23)).toNat : Nat) : Int) ((8388608 * 2 ^ (-23 - min ((E : Int) - 150) (-23)).toNat : Nat) : Int)) = _
    rw [show min ((E : Int) - 150) (-23) = (E : Int) - 150 by omega, show ((E : Int) - 150 - ((E : Int) - 150)).toNat = 0 by omega, Nat.pow_zero, Nat.mul_one]
    obtain ⟨d, hd⟩ : ∃ d, (-23 - ((E : Int) - 150)).toNat = d + 1 := ⟨126 - E, by omega⟩
    rw [hd, Nat.pow_succ]
    have hp := Nat.two_pow_pos d
    unfold compareOfLessAndEq
    rw [if_pos (by omega)]
  rw [e]
  rfl
theorem f_ge1 {t : Nat} (ht : t < 8388608) : 0 ≤ Op.cmpValue (FP.fcmp (fl 127 t) FP.fconst1) .g := by
  rw [f_cmp (by decide) (by decide) ht, f_dec1]
  have e : FP.Core.order (.fin false (8388608 + t) (((127 : Nat) : Int) - 150)) (.fin false 8388608 (-23)) = some (if t = 0 then .eq else .gt) := by
    show some (compareOfLessAndEq (((8388608 + t) * 1 : Nat) : Int) ((8388608 * 1 : Nat) : Int)) = _
    unfold compareOfLessAndEq
    rw [if_neg (by omega)]
    by_cases h : t = 0
    · rw [if_pos h, if_pos (by omega)]
    · rw [if_neg h, if_neg (by omega)]
  rw [e]
  by_cases h : t = 0
  · rw [if_pos h]; decide
  · rw [if_neg h]; decide
theorem f_self {E t : Nat} (h1 : 1 ≤ E) (h2 : E ≤ 254) (ht : t < 8388608) : Op.cmpValue (FP.fcmp (fl E t) (fl E t)) .l = 0 := by
  rw [f_cmp h1 h2 ht, f_nat h2 ht, f_dec h1 h2 ht]
  have e : ∀ d : Int, compareOfLessAndEq d d = Ordering.eq := fun d => by unfold compareOfLessAndEq; rw [if_neg (by omega), if_pos rfl]
  show Op.cmpValue (some (compareOfLessAndEq (((8388608 + t) * 2 ^ ((E : Int) - 150 - min ((E : Int) - 150) ((E : Int) - 150)).toNat : Nat) : Int) (((8388608 + t) * 2 ^ ((E : Int) - 150 - min ((E : Int) - 150) ((E : Int) - 150)).toNat : Nat) : Int))) .l = 0
  rw [e]
  rfl
/-- what is left of the number less 1, in whole numbers -/
theorem f_sub0 : FP.fsub (fl 127 0) FP.fconst1 = 0 := by decide +kernel
theorem f_sub1 {t : Nat} (h0 : 0 < t) (ht : t < 8388608) : FP.Core.decode FP.Core.b32 (FP.fsub (fl 127 t) FP.fconst1).toNat = .fin false (t * 2 ^ (23 - t.log2)) ((t.log2 : Int) - 46) ∧ 8388608 ≤ t * 2 ^ (23 - t.log2) ∧ t * 2 ^ (23 - t.log2) < 16777216 ∧ t.log2 ≤ 22 ∧ vf_n32 (FP.fsub (fl 127 t) FP.fconst1) := by
  have hk : t.log2 < 23 := (Nat.log2_lt (by omega)).mpr ht
  have k1 : 2 ^ t.log2 ≤ t := Nat.log2_self_le (by omega)
  have k2 : t < 2 ^ (t.log2 + 1) := Nat.lt_log2_self
  have hL := f_lead1 (v := t) h0
  generalize t.log2 = k at *
  obtain ⟨d, hd⟩ : ∃ d, 23 = k + d := ⟨23 - k, by omega⟩
  rw [show 23 - k = d by omega]
  have e1 : 2 ^ k * 2 ^ d = 8388608 := by rw [← Nat.pow_add, ← hd]
  have e2 : 2 ^ (k + 1) * 2 ^ d = 16777216 := by rw [← Nat.pow_add, show k + 1 + d = 24 by omega]
  have m1 := Nat.mul_le_mul_right (2 ^ d) k1
  have m2 : t * 2 ^ d < 2 ^ (k + 1) * 2 ^ d := Nat.mul_lt_mul_of_pos_right k2 (Nat.two_pow_pos d)
  rw [e1] at m1
  rw [e2] at m2
  have e : FP.fsub (fl 127 t) FP.fconst1 = UInt32.ofNat (FP.Core.encode FP.Core.b32 (.fin false (t * 2 ^ d) ((k : Int) - 46))) := by
    show UInt32.ofNat (FP.Core.encode FP.Core.b32 (FP.Core.round FP.Core.b32 (FP.Core.exactSum (FP.Core.decode FP.Core.b32 (fl 127 t).toNat) (FP.Core.negate (FP.Core.decode FP.Core.b32 FP.fconst1.toNat))))) = _
    rw [f_nat (by decide) ht, f_dec (by decide) (by decide) ht, f_dec1]
    have es : FP.Core.exactSum (.fin false (8388608 + t) (((127 : Nat) : Int) - 150)) (FP.Core.negate (.fin false 8388608 (-23))) = .fin false t (-23) := by
      show FP.Core.Datum.fin (FP.Core.sumSign false true ((((8388608 + t) * 1 : Nat) : Int) + -((8388608 * 1 : Nat) : Int))) ((((8388608 + t) * 1 : Nat) : Int) + -((8388608 * 1 : Nat) : Int)).natAbs (-23) = _
      rw [show ((((8388608 + t) * 1 : Nat) : Int) + -((8388608 * 1 : Nat) : Int)) = (t : Int) by omega, Int.natAbs_natCast]
      unfold FP.Core.sumSign
      rw [if_neg (by omega), show decide ((t : Int) < 0) = false by rw [decide_eq_false_iff_not]; omega]
    rw [es]
    show UInt32.ofNat (FP.Core.encode FP.Core.b32 (FP.Core.roundRatio FP.Core.b32 false t 1 (-23))) = _
    rw [f_rr h0 hL (by omega), show (23 - (k : Int)).toNat = d by omega, show ((k : Int) - 23).toNat = 0 by omega, Nat.pow_zero, Nat.mul_one]
    have hn := f_nex (B := 1) (M := t * 2 ^ d) (by decide)
    rw [Nat.mul_one] at hn
    rw [hn, f_set1 m2 (by omega), show (k : Int) + -23 - 23 = (k : Int) - 46 by omega]
  rw [e]
  refine ⟨f_de m1 m2 (by omega) (by omega), m1, m2, by omega, ?_⟩
  rw [f_enc m1 m2 (by omega)]
  exact f_nf (by omega) (by omega)
theorem f_tail {t : Nat} (ht : t < 8388608) : FP.f2i (FP.fmul (FP.fsub (fl 127 t) FP.fconst1) 1258291200) = nI t ∧ vf_n32 (FP.fsub (fl 127 t) FP.fconst1) ∧ vf_n32 (FP.fmul (FP.fsub (fl 127 t) FP.fconst1) 1258291200) := by
  rcases Nat.eq_zero_or_pos t with h | h
  · subst h
    rw [f_sub0]
    refine ⟨by decide +kernel, by unfold vf_n32; decide +kernel, by unfold vf_n32; decide +kernel⟩
  · obtain ⟨x1, x2, x3, x4, x5⟩ := f_sub1 h ht
    have e := f_mul (E := 150) x1 x2 x3 (by decide) (by decide) (by omega) (by omega)
    rw [show (1258291200 : UInt32) = fl 150 0 from rfl]
    refine ⟨?_, x5, ?_⟩
    · show FP.Core.toI (FP.Core.decode FP.Core.b32 (FP.fmul (FP.fsub (fl 127 t) FP.fconst1) (fl 150 0)).toNat) = _
      rw [e, f_de x2 x3 (by omega) (by omega)]
      have et : FP.Core.truncate false (t * 2 ^ (23 - t.log2)) ((t.log2 : Int) - 46 + (((150 : Nat) : Int) - 150) + 23) = (t : Int) := by
        show ((t * 2 ^ (23 - t.log2) * 2 ^ ((t.log2 : Int) - 46 + (((150 : Nat) : Int) - 150) + 23).toNat / 2 ^ (-((t.log2 : Int) - 46 + (((150 : Nat) : Int) - 150) + 23)).toNat : Nat) : Int) = _
        rw [show ((t.log2 : Int) - 46 + (((150 : Nat) : Int) - 150) + 23).toNat = 0 by omega, show (-((t.log2 : Int) - 46 + (((150 : Nat) : Int) - 150) + 23)).toNat = 23 - t.log2 by omega, Nat.pow_zero, Nat.mul_one, Nat.mul_div_cancel _ (Nat.two_pow_pos _)]
      show Int32.ofInt (max (-2 ^ 31) (min (2 ^ 31 - 1) (FP.Core.truncate false (t * 2 ^ (23 - t.log2)) ((t.log2 : Int) - 46 + (((150 : Nat) : Int) - 150) + 23)))) = _
      rw [et, show max (-2 ^ 31) (min (2 ^ 31 - 1) (t : Int)) = (t : Int) by omega]
      rw [zeq, znI (by omega)]
      exact Int32.toInt_ofInt_of_le (by omega) (by omega)
    · rw [e, f_enc x2 x3 (by omega)]
      exact f_nf (by omega) (by omega)
theorem f_bits {E t : Nat} (_h2 : E ≤ 254) (_ht : t < 8388608) : (fl E t).toInt32 = nI (E * 8388608 + t) := rfl
