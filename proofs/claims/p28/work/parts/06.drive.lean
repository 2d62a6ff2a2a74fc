/-! what the drive does, as functions of the state's row of 63 -/
abbrev okQ (tg : Int32) : Prop := -4000 ≤ tg ∧ tg ≤ 4000
def rfR (S : Nat → Int32) (tg : Int32) : Int32 := if okQ tg then (if ¬ S 13 = 0 ∧ ¬ (S 8 ≤ tg ∧ tg ≤ S 9) then -1000002 else 0) else -1000001
theorem okQ_P {x : Int32} : okQ x ↔ okP x := by
  unfold okP
  show (-4000 ≤ x ∧ x ≤ 4000) ↔ _
  rw [zle, zle]
  exact Iff.rfl
def grN (t D : Nat) : Int32 := if D = 0 then 0 else nI (min ((D - 1) / 2) t)
theorem grC_eq {t D : Nat} (ht : t ≤ 200) (hD : D ≤ 8000) : grC (nI t) (nI D) = grN t D := by
  unfold grC grN
  by_cases h : D = 0
  · subst h
    rw [if_pos rfl, if_neg (by decide)]
  · rw [if_neg h, if_pos (by rw [zlt, znI (by omega), i0]; omega), show nI D - 1 = nI (D - 1) from nI_m1 (by omega), nI_half (by omega), nI_min (by omega) (by omega), Nat.min_comm]
theorem grR_eq {t D : Nat} (ht : t ≤ 200) (hD : D ≤ 8000) (h : ¬ D = 0) : idxR (nI t) ((nI D - 1) / 2) (nI D) = grN t D := by
  rw [show nI D - 1 = nI (D - 1) from nI_m1 (by omega), nI_half (by omega), idxR_eq ht (by omega) hD]
  unfold grN ix
  rw [if_neg h]
  congr 1
  omega
abbrev gD (S : Nat → Int32) (tg : Int32) : Nat := dist (S 10) tg
abbrev gDir (S : Nat → Int32) (tg : Int32) : Int32 := dirT (S 10) tg
def goX (S : Nat → Int32) (tg : Int32) : T6 := gst S (topS S) (gD S tg) (gDir S tg) (gD S tg)
def goM (S : Nat → Int32) (tg : Int32) : Int32 := gmis S (topS S) (gD S tg) (gDir S tg) (gD S tg)
def goP (S : Nat → Int32) (tg : Int32) : Int32 := gsp S (topS S) (gD S tg) (gD S tg)
def goS (S : Nat → Int32) (tg : Int32) : Nat → Int32 := fun j => if j = 37 then kpN (S 37) else if 38 ≤ j then kpF (mvS S) (S 10) tg (goM S tg) (goP S tg) (grN (topS S) (gD S tg)) (j - 38) else putT S (goX S tg) j
def goF (S : Nat → Int32) (tg : Int32) : Nat → Int32 := if rfR S tg = 0 then goS S tg else S
def goR (S : Nat → Int32) (tg : Int32) : Int32 := if rfR S tg = 0 then goM S tg else rfR S tg
theorem gst_mis (S : Nat → Int32) (t D : Nat) (dir : Int32) : ∀ n, (gst S t D dir n).2.2.2.2.1 = S 16 + gmis S t D dir n
  | 0 => by
    show S 16 = S 16 + 0
    rw [Int32.add_zero]
  | n + 1 => by
    show (if gMs S t D dir n then (gst S t D dir n).2.2.2.2.1 + 1 else (gst S t D dir n).2.2.2.2.1) = S 16 + (if gMs S t D dir n then gmis S t D dir n + 1 else gmis S t D dir n)
    rw [gst_mis S t D dir n]
    split
    · rw [Int32.add_assoc]
    · rfl
theorem add_sub_l (a b : Int32) : a + b - a = b := by
  rw [Int32.add_comm, Int32.add_sub_cancel]
theorem gst_told (S : Nat → Int32) (t D : Nat) (dir : Int32) : ∀ n, (gst S t D dir n).1 = S 10 + nI n * dir
  | 0 => by
    show S 10 = S 10 + nI 0 * dir
    rw [show nI 0 = 0 from rfl, Int32.zero_mul, Int32.add_zero]
  | n + 1 => by
    show (gst S t D dir n).1 + dir = _
    rw [gst_told S t D dir n, nI_mul_succ, Int32.add_assoc]
/-! homing -/
def rdn (S : Nat → Int32) (G : Nat) : Nat → Nat → T6 → T6 × Nat
  | 0, i, x => (x, i)
  | f + 1, i, x => if x.2.2.1 = 0 then rdn S G f (i + 1) (stp S (-1) (ivS S (min i G)) (puS S (min i G)) x) else (x, i)
/-- slowing down from the index K - 1: d steps of it -/
def slw (S : Nat → Int32) (K : Nat) (x : T6) : Nat → T6
  | 0 => x
  | d + 1 => stp S (-1) (ivS S (K - 1 - d)) (puS S (K - 1 - d)) (slw S K x d)
def crp (S : Nat → Int32) (dir w : Int32) : Nat → Nat → T6 → T6 × Nat
  | 0, i, x => (x, i)
  | f + 1, i, x => if x.2.2.1 = w then (x, i) else crp S dir w f (i + 1) (stp S dir (ivS S 0) (puS S 0) x)
def hG (S : Nat → Int32) : Nat := min (S 7).toInt.toNat (topS S)
def h1 (S : Nat → Int32) : T6 × Nat := rdn S (hG S) 4000 0 (getT S)
def kSl (S : Nat → Int32) : Nat := min ((h1 S).2 - 1) (hG S)
def hx1 (S : Nat → Int32) : T6 := slw S (kSl S) (h1 S).1 (kSl S)
def h2 (S : Nat → Int32) : T6 × Nat := crp S 1 0 4000 0 (hx1 S)
def h3 (S : Nat → Int32) : T6 × Nat := crp S (-1) 1 4000 0 (h2 S).1
abbrev hP1 (S : Nat → Int32) : Prop := ¬ (h1 S).1.2.2.1 = 0
abbrev hP2 (S : Nat → Int32) : Prop := (h2 S).1.2.2.1 = 0
abbrev hP3 (S : Nat → Int32) : Prop := (h3 S).1.2.2.1 = 1
abbrev hPP (S : Nat → Int32) : Prop := hP1 S ∧ hP2 S ∧ hP3 S
def hmT (S : Nat → Int32) : T6 := if hP1 S then (if hP2 S then (h3 S).1 else (h2 S).1) else (h1 S).1
def hmX (S : Nat → Int32) (x : T6) : Nat → Int32 := fun j => if j = 10 then 0 else if j = 13 then 1 else if j = 12 then -x.2.1 else putT S x j
def hmS (S : Nat → Int32) : Nat → Int32 := hmX S (h3 S).1
def hmF (S : Nat → Int32) : Nat → Int32 := if hPP S then hmS S else putT S (hmT S)
def hmR (S : Nat → Int32) : Int32 := if hPP S then nI ((h1 S).2 + kSl S + (h2 S).2 + (h3 S).2) else -1000002
theorem crp_0 {S : Nat → Int32} {dir w : Int32} {f i : Nat} {x : T6} (h : x.2.2.1 = w) : crp S dir w f i x = (x, i) := by
  cases f with
  | zero => rfl
  | succ f => exact if_pos h
theorem crp_1 {S : Nat → Int32} {dir w : Int32} {f i : Nat} {x : T6} (h : ¬ x.2.2.1 = w) : crp S dir w (f + 1) i x = crp S dir w f (i + 1) (stp S dir (ivS S 0) (puS S 0) x) := if_neg h
theorem rdn_0 {S : Nat → Int32} {G f i : Nat} {x : T6} (h : ¬ x.2.2.1 = 0) : rdn S G f i x = (x, i) := by
  cases f with
  | zero => rfl
  | succ f => exact if_neg h
theorem rdn_1 {S : Nat → Int32} {G f i : Nat} {x : T6} (h : x.2.2.1 = 0) : rdn S G (f + 1) i x = rdn S G f (i + 1) (stp S (-1) (ivS S (min i G)) (puS S (min i G)) x) := if_pos h
theorem rdn_le {S : Nat → Int32} {G : Nat} : ∀ (f i : Nat) (x : T6), (rdn S G f i x).2 ≤ i + f
  | 0, i, _ => Nat.le_refl i
  | f + 1, i, x => by
    by_cases h : x.2.2.1 = 0
    · rw [rdn_1 h]
      have := rdn_le (S := S) (G := G) f (i + 1) (stp S (-1) (ivS S (min i G)) (puS S (min i G)) x)
      omega
    · rw [rdn_0 h]
      omega
theorem crp_le {S : Nat → Int32} {dir w : Int32} : ∀ (f i : Nat) (x : T6), (crp S dir w f i x).2 ≤ i + f
  | 0, i, _ => Nat.le_refl i
  | f + 1, i, x => by
    by_cases h : x.2.2.1 = w
    · rw [crp_0 h]
      omega
    · rw [crp_1 h]
      have := crp_le (S := S) (dir := dir) (w := w) f (i + 1) (stp S dir (ivS S 0) (puS S 0) x)
      omega
/-- the steps so far -/
theorem rdn_sp {S : Nat → Int32} {G : Nat} : ∀ (f i : Nat) (x : T6), (rdn S G f i x).1.2.2.2.1 = x.2.2.2.1 + nI ((rdn S G f i x).2 - i) ∧ i ≤ (rdn S G f i x).2
  | 0, i, x => by
    refine ⟨?_, Nat.le_refl i⟩
    show x.2.2.2.1 = _ + nI (i - i)
    rw [Nat.sub_self]
    exact (Int32.add_zero _).symm
  | f + 1, i, x => by
    by_cases h : x.2.2.1 = 0
    · rw [rdn_1 h]
      obtain ⟨e1, e2⟩ := rdn_sp (S := S) (G := G) f (i + 1) (stp S (-1) (ivS S (min i G)) (puS S (min i G)) x)
      refine ⟨?_, by omega⟩
      rw [e1]
      show x.2.2.2.1 + 1 + nI _ = _
      rw [Int32.add_assoc, Int32.add_comm 1 (nI _), nI_1]
      congr 2
      omega
    · rw [rdn_0 h]
      refine ⟨?_, Nat.le_refl i⟩
      show x.2.2.2.1 = _ + nI (i - i)
      rw [Nat.sub_self]
      exact (Int32.add_zero _).symm
theorem crp_sp {S : Nat → Int32} {dir w : Int32} : ∀ (f i : Nat) (x : T6), (crp S dir w f i x).1.2.2.2.1 = x.2.2.2.1 + nI ((crp S dir w f i x).2 - i) ∧ i ≤ (crp S dir w f i x).2
  | 0, i, x => by
    refine ⟨?_, Nat.le_refl i⟩
    show x.2.2.2.1 = _ + nI (i - i)
    rw [Nat.sub_self]
    exact (Int32.add_zero _).symm
  | f + 1, i, x => by
    by_cases h : x.2.2.1 = w
    · rw [crp_0 h]
      refine ⟨?_, Nat.le_refl i⟩
      show x.2.2.2.1 = _ + nI (i - i)
      rw [Nat.sub_self]
      exact (Int32.add_zero _).symm
    · rw [crp_1 h]
      obtain ⟨e1, e2⟩ := crp_sp (S := S) (dir := dir) (w := w) f (i + 1) (stp S dir (ivS S 0) (puS S 0) x)
      refine ⟨?_, by omega⟩
      rw [e1]
      show x.2.2.2.1 + 1 + nI _ = _
      rw [Int32.add_assoc, Int32.add_comm 1 (nI _), nI_1]
      congr 2
      omega
theorem stp_sp (S : Nat → Int32) (dir iv pull : Int32) (x : T6) : (stp S dir iv pull x).2.2.2.1 = x.2.2.2.1 + 1 := by
  unfold stp
  rfl
theorem slw_s (S : Nat → Int32) (K : Nat) (x : T6) (d : Nat) : slw S K x (d + 1) = stp S (-1) (ivS S (K - 1 - d)) (puS S (K - 1 - d)) (slw S K x d) := by
  rw [slw]
theorem slw_z (S : Nat → Int32) (K : Nat) (x : T6) : slw S K x 0 = x := by
  rw [slw]
theorem slw_sp {S : Nat → Int32} {K : Nat} {x : T6} (d : Nat) : (slw S K x d).2.2.2.1 = x.2.2.2.1 + nI d := by
  induction d with
  | zero => rw [slw_z, nI_0, Int32.add_zero]
  | succ d ih => rw [slw_s, stp_sp, ih, Int32.add_assoc, nI_1]
theorem hm_steps (S : Nat → Int32) : (h3 S).1.2.2.2.1 - S 15 = nI ((h1 S).2 + kSl S + (h2 S).2 + (h3 S).2) := by
  have e1 : (h1 S).1.2.2.2.1 = S 15 + nI (h1 S).2 := by
    have := (rdn_sp (S := S) (G := hG S) 4000 0 (getT S)).1
    unfold h1
    rw [this, Nat.sub_zero]
    rfl
  have ex : (hx1 S).2.2.2.1 = (h1 S).1.2.2.2.1 + nI (kSl S) := by
    unfold hx1
    exact slw_sp _
  have e2 : (h2 S).1.2.2.2.1 = (hx1 S).2.2.2.1 + nI (h2 S).2 := by
    have := (crp_sp (S := S) (dir := 1) (w := 0) 4000 0 (hx1 S)).1
    unfold h2
    rw [this, Nat.sub_zero]
  have e3 : (h3 S).1.2.2.2.1 = (h2 S).1.2.2.2.1 + nI (h3 S).2 := by
    have := (crp_sp (S := S) (dir := -1) (w := 1) 4000 0 (h2 S).1).1
    unfold h3
    rw [this, Nat.sub_zero]
  rw [e3, e2, ex, e1, Int32.add_assoc, Int32.add_assoc, Int32.add_assoc, nI_add, nI_add, nI_add, add_sub_l]
  refine congrArg nI ?_
  omega
def rfC (hm low high tg : Int32) : Int32 := if okQ tg then (if ¬ hm = 0 ∧ ¬ (low ≤ tg ∧ tg ≤ high) then -1000002 else 0) else -1000001
theorem rf_ok {hm low high tg : Int32} (h : rfC hm low high tg = 0) : okQ tg := by
  by_cases q : okQ tg
  · exact q
  · unfold rfC at h
    rw [if_neg q] at h
    exact absurd h (by decide)
theorem goS_lo (S : Nat → Int32) (tg : Int32) {k : Nat} (h : k < 8) : goS S tg k = S k := by
  unfold goS putT
  rw [if_neg (by omega), if_neg (by omega), if_neg (by omega), if_neg (by omega), if_neg (by omega), if_neg (by omega), if_neg (by omega), if_neg (by omega)]
theorem goS_mid (S : Nat → Int32) (tg : Int32) {k : Nat} (h : 18 ≤ k) (h2 : k < 37) : goS S tg k = S k := by
  unfold goS putT
  rw [if_neg (by omega), if_neg (by omega), if_neg (by omega), if_neg (by omega), if_neg (by omega), if_neg (by omega), if_neg (by omega), if_neg (by omega)]
theorem goS_fr (S : Nat → Int32) (tg : Int32) {k : Nat} (h : k < 6) : frS (goS S tg) k = frS S k := goS_mid S tg (by omega) (by omega)
theorem goS_to (S : Nat → Int32) (tg : Int32) {k : Nat} (h : k < 6) : toS (goS S tg) k = toS S k := goS_mid S tg (by omega) (by omega)
theorem goS_wt (S : Nat → Int32) (tg : Int32) {k : Nat} (h : k < 6) : wtS (goS S tg) k = wtS S k := goS_mid S tg (by omega) (by omega)
theorem goS_mv (S : Nat → Int32) (tg : Int32) (k : Nat) : mvS (goS S tg) k = kpF (mvS S) (S 10) tg (goM S tg) (goP S tg) (grN (topS S) (gD S tg)) k := by
  show goS S tg (38 + k) = _
  unfold goS
  rw [if_neg (by omega), if_pos (by omega), show 38 + k - 38 = k by omega]
def rdT (S : Nat → Int32) (x : T6) : T6 := if (rdn S (hG S) 4000 0 x).1.2.2.1 = 0 then (rdn S (hG S) 4000 0 x).1 else slw S (min ((rdn S (hG S) 4000 0 x).2 - 1) (hG S)) (rdn S (hG S) 4000 0 x).1 (min ((rdn S (hG S) 4000 0 x).2 - 1) (hG S))
theorem putT_lo (S : Nat → Int32) (x : T6) {k : Nat} (h : k < 8) : putT S x k = S k := by
  unfold putT
  rw [if_neg (by omega), if_neg (by omega), if_neg (by omega), if_neg (by omega), if_neg (by omega), if_neg (by omega)]
theorem putT_hi (S : Nat → Int32) (x : T6) {k : Nat} (h : 18 ≤ k) : putT S x k = S k := by
  unfold putT
  rw [if_neg (by omega), if_neg (by omega), if_neg (by omega), if_neg (by omega), if_neg (by omega), if_neg (by omega)]
theorem hmX_lo (S : Nat → Int32) (x : T6) {k : Nat} (h : k < 8) : hmX S x k = S k := by
  unfold hmX
  rw [if_neg (by omega), if_neg (by omega), if_neg (by omega), putT_lo S _ h]
theorem hmX_mid (S : Nat → Int32) (x : T6) {k : Nat} (h : 18 ≤ k) : hmX S x k = S k := by
  unfold hmX
  rw [if_neg (by omega), if_neg (by omega), if_neg (by omega), putT_hi S _ h]
/-- moveBy: the refusal, the state behind, the answer -/
def gbC (S : Nat → Int32) (n : Int32) : Int32 := if okQ n then (if okQ (S 10 + n) then rfR S (S 10 + n) else -1000002) else -1000001
def gbF (S : Nat → Int32) (n : Int32) : Nat → Int32 := if gbC S n = 0 then goS S (S 10 + n) else S
def gbR (S : Nat → Int32) (n : Int32) : Int32 := if okQ n then (if okQ (S 10 + n) then goR S (S 10 + n) else -1000002) else -1000001
theorem gb_no1 {S : Nat → Int32} {n : Int32} (h : ¬ okQ n) : ¬ gbC S n = 0 := by
  unfold gbC
  rw [if_neg h]
  decide
theorem gb_no2 {S : Nat → Int32} {n : Int32} (h : okQ n) (h2 : ¬ okQ (S 10 + n)) : ¬ gbC S n = 0 := by
  unfold gbC
  rw [if_pos h, if_neg h2]
  decide
theorem gb_yes2 {S : Nat → Int32} {n : Int32} (h : okQ n) (h2 : okQ (S 10 + n)) : gbC S n = rfR S (S 10 + n) := by
  unfold gbC
  rw [if_pos h, if_pos h2]
theorem gb_yes {S : Nat → Int32} {n : Int32} (h : okQ n) (h2 : okQ (S 10 + n)) : gbF S n = goF S (S 10 + n) := by
  unfold gbF goF
  rw [gb_yes2 h h2]
theorem rdT_x1 {S : Nat → Int32} (h : ¬ (rdn S (hG S) 4000 0 (getT S)).1.2.2.1 = 0) : rdT S (getT S) = hx1 S := by
  unfold rdT hx1 kSl h1
  rw [if_neg h]
theorem hP1_0 {S : Nat → Int32} (h : ¬ (getT S).2.2.1 = 0) : hP1 S := by
  intro q
  unfold h1 at q
  rw [rdn_0 h] at q
  exact h q
theorem hx1_0 {S : Nat → Int32} (h : ¬ (getT S).2.2.1 = 0) : getT S = hx1 S := by
  unfold hx1 kSl h1
  rw [rdn_0 h, show (getT S, 0).2 - 1 = 0 from rfl, Nat.zero_min, slw_z]
