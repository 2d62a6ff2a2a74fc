/-! what the law's own methods compute, in the words of the state's row -/
def wS (S : Nat → Int32) : Nat → Int32 := fun k => S (19 + k)
def mS (S : Nat → Int32) : Nat → Int32 := fun k => S (37 + k)
theorem wS_put (S : Nat → Int32) (x : T6) : wS (putT S x) = wS S := by
  funext k
  unfold wS
  exact putT_hi S x (by omega)
theorem setOk_put {S : Nat → Int32} {x : T6} (h : setOk S) : setOk (putT S x) := setOk_of h (fun k hk => putT_lo S x hk)
def loR (v n : Int32) : Int32 := (v &&& 2147483647) - (v &&& 2147483647) / n * n
theorem lo_nI (v : Int32) {n : Nat} (h0 : 0 < n) (hn : n < 2147483648) : ∃ Y : Nat, Y < n ∧ loR v (nI n) = nI Y := by
  obtain ⟨j, hj, e⟩ := pk_andE v (m := 2147483647) 31 (by decide +kernel)
  unfold loR
  rw [e]
  exact ⟨j % n, Nat.mod_lt _ h0, pk_rem (by omega) h0 hn⟩
def clR (xs : Nat → Int32) (L K : Nat) : Int32 := if K < L then xs K else 40503 * (nI K + 3)
theorem lpu_q {S : Nat → Int32} (hok : setOk S) {k : Nat} (hk : k ≤ 200) : ∃ q p : Nat, q ≤ 20000 ∧ p ≤ 300 ∧ nI k * S 4 / 16 = nI q ∧ S 3 = nI p := by
  have h3 := hok.2.2.2.1
  have h4 := hok.2.2.2.2.1
  obtain ⟨a, ha⟩ : ∃ a, a = (S 4).toInt.toNat := ⟨_, rfl⟩
  have ea : S 4 = nI a := by rw [ha]; exact zof h4.1
  have ha2 : a ≤ 100 := by omega
  have hm : k * a ≤ 200 * 100 := Nat.mul_le_mul hk ha2
  have hd := Nat.div_le_self (k * a) 16
  refine ⟨k * a / 16, (S 3).toInt.toNat, by omega, by omega, ?_, zof (by omega)⟩
  rw [ea, pk_mul, show (16 : Int32) = nI 16 from rfl, pk_div (by omega) (by omega) (by omega)]
theorem lpu_le {S : Nat → Int32} (hok : setOk S) {k : Nat} (hk : k ≤ 200) (h : S 3 ≤ nI k * S 4 / 16) : puT (S 3) (S 4) (nI k) = 0 := by
  obtain ⟨q, p, hq, hp, e1, e2⟩ := lpu_q hok hk
  unfold puT
  rw [e1, e2] at h
  rw [e1, e2]
  have hpq : p ≤ q := nle_of (by omega) (by omega) h
  rcases Nat.lt_or_ge p q with z | z
  · rw [if_pos (pk_sneg (by omega) z)]
  · have e : p = q := by omega
    rw [e, Int32.sub_self]
    exact if_neg (by decide)
theorem lpu_gt {S : Nat → Int32} (hok : setOk S) {k : Nat} (hk : k ≤ 200) (h : ¬ S 3 ≤ nI k * S 4 / 16) : puT (S 3) (S 4) (nI k) = S 3 - nI k * S 4 / 16 := by
  obtain ⟨q, p, hq, hp, e1, e2⟩ := lpu_q hok hk
  unfold puT
  rw [e1, e2] at h
  rw [e1, e2]
  have hqp : q < p := nlt_of (by omega) h
  exact if_neg (by rw [pk_sub (by omega)]; exact nI_pos (by omega))
theorem top_0 {S : Nat → Int32} (h : ¬ S 1 < S 0) : topS S = 0 := by
  unfold topS
  exact topN_eq (Nat.zero_le _) (fun j z => absurd z (Nat.not_lt_zero j)) (Or.inr h)
def vQ (a b c d : Int32) : Nat → Int32 := fun k => if k = 0 then a else if k = 1 then b else if k = 2 then c else if k = 3 then d else 0
theorem vQ_i (f : Nat → Int32) (a b c d : Int32) : ∀ k, k < 4 → upd (upd (upd (upd f 0 a) 1 b) 2 c) 3 d k = vQ a b c d k := fun k hk => match k, hk with
  | 0, _ => rfl
  | 1, _ => rfl
  | 2, _ => rfl
  | 3, _ => rfl
theorem vQ_0 (a b c d x : Int32) : upd (vQ a b c d) 0 x = vQ x b c d := by
  funext k
  unfold upd vQ
  by_cases h : k = 0
  · rw [if_pos h, if_pos h]
  · rw [if_neg h, if_neg h, if_neg h]
theorem vQ_1 (a b c d x : Int32) : upd (vQ a b c d) 1 x = vQ a x c d := by
  funext k
  unfold upd vQ
  by_cases h : k = 1
  · subst h; rfl
  · rw [if_neg h, if_neg h, if_neg h]
theorem vQ_2 (a b c d x : Int32) : upd (vQ a b c d) 2 x = vQ a b x d := by
  funext k
  unfold upd vQ
  by_cases h : k = 2
  · subst h; rfl
  · rw [if_neg h, if_neg h, if_neg h]
theorem vQ_3 (a b c d x : Int32) : upd (vQ a b c d) 3 x = vQ a b c x := by
  funext k
  unfold upd vQ
  by_cases h : k = 3
  · subst h; rfl
  · rw [if_neg h, if_neg h, if_neg h]
/-- the greatest index of the first n steps -/
def mxN (t D n : Nat) : Nat := min (min (n - 1) ((D - 1) / 2)) t
theorem mx_le {t D n : Nat} (h : n < D) (hD : D ≤ 8000) (c : nI (ix t n D) ≤ nI (mxN t D n)) : nI (mxN t D n) = nI (mxN t D (n + 1)) := by
  have c2 := nle_of (n := ix t n D) (k := mxN t D n) (by unfold ix; omega) (by unfold mxN; omega) c
  refine congrArg nI ?_
  unfold ix mxN at c2
  unfold mxN
  omega
theorem mx_gt {t D n : Nat} (h : n < D) (hD : D ≤ 8000) (c : ¬ nI (ix t n D) ≤ nI (mxN t D n)) : nI (ix t n D) = nI (mxN t D (n + 1)) := by
  have c2 := nlt_of (n := ix t n D) (k := mxN t D n) (by unfold ix; omega) c (by unfold mxN; omega)
  refine congrArg nI ?_
  unfold ix mxN at c2
  unfold ix mxN
  omega
theorem mx_e {t D : Nat} : nI (mxN t D D) = grN t D := by
  unfold grN
  by_cases h : D = 0
  · rw [if_pos h, h]
    unfold mxN
    rw [show min (min (0 - 1) ((0 - 1) / 2)) t = 0 by omega]
    rfl
  · rw [if_neg h]
    refine congrArg nI ?_
    unfold mxN
    omega
/-! homing, with one step more of fuel -/
def F4 : Nat := 4000
theorem F4e : F4 = 4000 := rfl
theorem crp_full {S : Nat → Int32} {dir w : Int32} : ∀ (f i : Nat) (x : T6), ¬ (crp S dir w f i x).1.2.2.1 = w → (crp S dir w f i x).2 = i + f
  | 0, _, _, _ => rfl
  | f + 1, i, x, h => by
    by_cases q : x.2.2.1 = w
    · rw [crp_0 q] at h
      exact absurd q h
    · rw [crp_1 q] at h ⊢
      rw [crp_full f (i + 1) _ h]
      omega
theorem crp_succ {S : Nat → Int32} {dir w : Int32} : ∀ (f i : Nat) (x : T6), crp S dir w (f + 1) i x = if (crp S dir w f i x).1.2.2.1 = w then crp S dir w f i x else (stp S dir (ivS S 0) (puS S 0) (crp S dir w f i x).1, (crp S dir w f i x).2 + 1)
  | 0, i, x => by
    by_cases q : x.2.2.1 = w
    · rw [crp_0 q, crp_0 q, if_pos q]
    · rw [crp_1 q]
      have e : crp S dir w 0 i x = (x, i) := rfl
      rw [e, if_neg q]
      rfl
  | f + 1, i, x => by
    by_cases q : x.2.2.1 = w
    · rw [crp_0 q, crp_0 q, if_pos q]
    · rw [crp_1 q, crp_succ f (i + 1) _, crp_1 (f := f) q]
theorem crp_y {S : Nat → Int32} {dir w : Int32} {f : Nat} {x : T6} (h : (crp S dir w f 0 x).1.2.2.1 = w) : crp S dir w (f + 1) 0 x = crp S dir w f 0 x := by
  rw [crp_succ, if_pos h]
theorem crp_n {S : Nat → Int32} {dir w : Int32} {f : Nat} {x : T6} (h : ¬ (crp S dir w f 0 x).1.2.2.1 = w) : (crp S dir w (f + 1) 0 x).2 = f + 1 := by
  rw [crp_succ, if_neg h, crp_full f 0 x h]
  show 0 + f + 1 = f + 1
  omega
theorem crp_iff {S : Nat → Int32} {dir w : Int32} {f : Nat} {x : T6} : (crp S dir w (f + 1) 0 x).2 ≤ f ↔ (crp S dir w f 0 x).1.2.2.1 = w := by
  constructor
  · intro h
    exact Classical.byContradiction (fun q => by rw [crp_n q] at h; omega)
  · intro h
    rw [crp_y h]
    have := crp_le (S := S) (dir := dir) (w := w) f 0 x
    omega
theorem rdn_full {S : Nat → Int32} {G : Nat} : ∀ (f i : Nat) (x : T6), (rdn S G f i x).1.2.2.1 = 0 → (rdn S G f i x).2 = i + f
  | 0, _, _, _ => rfl
  | f + 1, i, x, h => by
    by_cases q : x.2.2.1 = 0
    · rw [rdn_1 q] at h ⊢
      rw [rdn_full f (i + 1) _ h]
      omega
    · rw [rdn_0 q] at h
      exact absurd h q
theorem rdn_succ {S : Nat → Int32} {G : Nat} : ∀ (f i : Nat) (x : T6), rdn S G (f + 1) i x = if (rdn S G f i x).1.2.2.1 = 0 then (stp S (-1) (ivS S (min (rdn S G f i x).2 G)) (puS S (min (rdn S G f i x).2 G)) (rdn S G f i x).1, (rdn S G f i x).2 + 1) else rdn S G f i x
  | 0, i, x => by
    have e : rdn S G 0 i x = (x, i) := rfl
    by_cases q : x.2.2.1 = 0
    · rw [rdn_1 q, e, if_pos q]
      rfl
    · rw [rdn_0 q, e, if_neg q]
  | f + 1, i, x => by
    by_cases q : x.2.2.1 = 0
    · rw [rdn_1 q, rdn_succ f (i + 1) _, rdn_1 (f := f) q]
    · rw [rdn_0 q, rdn_0 q, if_neg q]
theorem rdn_y {S : Nat → Int32} {G f : Nat} {x : T6} (h : ¬ (rdn S G f 0 x).1.2.2.1 = 0) : rdn S G (f + 1) 0 x = rdn S G f 0 x := by
  rw [rdn_succ, if_neg h]
theorem rdn_n {S : Nat → Int32} {G f : Nat} {x : T6} (h : (rdn S G f 0 x).1.2.2.1 = 0) : (rdn S G (f + 1) 0 x).2 = f + 1 := by
  rw [rdn_succ, if_pos h, rdn_full f 0 x h]
  show 0 + f + 1 = f + 1
  omega
theorem rdn_iff {S : Nat → Int32} {G f : Nat} {x : T6} : (rdn S G (f + 1) 0 x).2 ≤ f ↔ ¬ (rdn S G f 0 x).1.2.2.1 = 0 := by
  constructor
  · intro h q
    rw [rdn_n q] at h
    omega
  · intro h
    rw [rdn_y h]
    have := rdn_le (S := S) (G := G) f 0 x
    omega
theorem puS_put (S : Nat → Int32) (x : T6) : puS (putT S x) = puS S := rfl
theorem crp_put (S : Nat → Int32) (z : T6) {dir w : Int32} : ∀ (f i : Nat) (x : T6), crp (putT S z) dir w f i x = crp S dir w f i x
  | 0, _, _ => rfl
  | f + 1, i, x => by
    by_cases q : x.2.2.1 = w
    · rw [crp_0 q, crp_0 q]
    · rw [crp_1 q, crp_1 q, crp_put S z f (i + 1), stp_put, ivS_put, puS_put]
def crB (S : Nat → Int32) (dir w : Int32) (x : T6) : Int32 := if (crp S dir w (F4 + 1) 0 x).2 ≤ F4 then nI (crp S dir w (F4 + 1) 0 x).2 else -9000000
/-- the law's homing: its answer, and what its axis is behind it -/
def hoR (S : Nat → Int32) : Int32 := if hPP S then nI ((h1 S).2 + kSl S + (h2 S).2 + (h3 S).2) else -9000000
def hoF (S : Nat → Int32) : Nat → Int32 := if (rdn S (hG S) (F4 + 1) 0 (getT S)).2 ≤ F4 then (if (crp S 1 0 (F4 + 1) 0 (hx1 S)).2 ≤ F4 then (if (crp S (-1) 1 (F4 + 1) 0 (h2 S).1).2 ≤ F4 then hmS S else putT S (crp S (-1) 1 (F4 + 1) 0 (h2 S).1).1) else putT S (crp S 1 0 (F4 + 1) 0 (hx1 S)).1) else putT S (rdn S (hG S) (F4 + 1) 0 (getT S)).1
theorem ho1 {S : Nat → Int32} : (rdn S (hG S) (F4 + 1) 0 (getT S)).2 ≤ F4 ↔ hP1 S := rdn_iff
theorem ho1e {S : Nat → Int32} (h : hP1 S) : rdn S (hG S) (F4 + 1) 0 (getT S) = h1 S := rdn_y h
theorem ho2 {S : Nat → Int32} : (crp S 1 0 (F4 + 1) 0 (hx1 S)).2 ≤ F4 ↔ hP2 S := crp_iff
theorem ho2e {S : Nat → Int32} (h : hP2 S) : crp S 1 0 (F4 + 1) 0 (hx1 S) = h2 S := crp_y h
theorem ho3 {S : Nat → Int32} : (crp S (-1) 1 (F4 + 1) 0 (h2 S).1).2 ≤ F4 ↔ hP3 S := crp_iff
theorem ho3e {S : Nat → Int32} (h : hP3 S) : crp S (-1) 1 (F4 + 1) 0 (h2 S).1 = h3 S := crp_y h
theorem ho_y {S : Nat → Int32} (h : hPP S) : hoF S = hmS S := by
  unfold hoF
  rw [if_pos (ho1.mpr h.1), if_pos (ho2.mpr h.2.1), if_pos (ho3.mpr h.2.2)]
theorem ho_n1 {S : Nat → Int32} (h : ¬ (rdn S (hG S) (F4 + 1) 0 (getT S)).2 ≤ F4) : hoR S = -9000000 ∧ hoF S = putT S (rdn S (hG S) (F4 + 1) 0 (getT S)).1 := ⟨if_neg (fun z => h (ho1.mpr z.1)), if_neg h⟩
theorem ho_n2 {S : Nat → Int32} (h1 : (rdn S (hG S) (F4 + 1) 0 (getT S)).2 ≤ F4) (h : ¬ (crp S 1 0 (F4 + 1) 0 (hx1 S)).2 ≤ F4) : hoR S = -9000000 ∧ hoF S = putT S (crp S 1 0 (F4 + 1) 0 (hx1 S)).1 := ⟨if_neg (fun z => h (ho2.mpr z.2.1)), by unfold hoF; rw [if_pos h1, if_neg h]⟩
theorem ho_n3 {S : Nat → Int32} (h1 : (rdn S (hG S) (F4 + 1) 0 (getT S)).2 ≤ F4) (h2' : (crp S 1 0 (F4 + 1) 0 (hx1 S)).2 ≤ F4) (h : ¬ (crp S (-1) 1 (F4 + 1) 0 (h2 S).1).2 ≤ F4) : hoR S = -9000000 ∧ hoF S = putT S (crp S (-1) 1 (F4 + 1) 0 (h2 S).1).1 := ⟨if_neg (fun z => h (ho3.mpr z.2.2)), by unfold hoF; rw [if_pos h1, if_pos h2', if_neg h]⟩
theorem hmX_eq2 (S : Nat → Int32) (x : T6) : upd (upd (upd (putT S x) 10 0) 12 (-(x.2.1))) 13 1 = hmX S x := by
  rw [← hmX_eq]
  funext k
  unfold upd
  by_cases h13 : k = 13
  · subst h13; rfl
  · rw [if_neg h13]
    by_cases h12 : k = 12
    · rw [if_pos h12, if_pos h12]
    · rw [if_neg h12, if_neg h12, if_neg h13]
/-! what the law's loop carries beyond Kv -/
def tv (B : Nat) (x : T6) : Prop := (-3000 ≤ x.2.1.toInt ∧ x.2.1.toInt ≤ 3000) ∧ 0 ≤ x.2.2.2.2.1.toInt ∧ x.2.2.2.2.1.toInt ≤ x.2.2.2.1.toInt ∧ x.2.2.2.1.toInt ≤ (B : Int)
theorem tv_stp {S : Nat → Int32} {dir iv pull : Int32} {x : T6} {B : Nat} (h : tv B x) (hB : B < 1000000000) : tv (B + 1) (stp S dir iv pull x) := by
  obtain ⟨⟨p1, p2⟩, m0, m1, s1⟩ := h
  have e1 : (1 : Int32).toInt = 1 := by decide +kernel
  have a := zadd (a := x.2.2.2.1) (b := 1) (by rw [e1]; omega) (by rw [e1]; omega)
  have b := zadd (a := x.2.2.2.2.1) (b := 1) (by rw [e1]; omega) (by rw [e1]; omega)
  rw [e1] at a b
  unfold stp tv
  by_cases q : missP (ldS S x.2.1) pull (x.2.1 + dir)
  · simp only [if_pos q]
    refine ⟨⟨p1, p2⟩, ?_, ?_, ?_⟩ <;> omega
  · simp only [if_neg q]
    have q1 : ¬ (x.2.1 + dir) < -3000 := fun z => q (Or.inl (Or.inl z))
    have q2 : ¬ 3000 < (x.2.1 + dir) := fun z => q (Or.inl (Or.inr z))
    rw [zlt, show (-3000 : Int32).toInt = -3000 from by decide +kernel] at q1
    rw [zlt, show (3000 : Int32).toInt = 3000 from by decide +kernel] at q2
    refine ⟨⟨?_, ?_⟩, ?_, ?_, ?_⟩ <;> omega
theorem tv_up {x : T6} {B C : Nat} (h : tv B x) (hBC : B ≤ C) : tv C x := ⟨h.1, h.2.1, h.2.2.1, Int.le_trans h.2.2.2 (by omega)⟩
theorem gst_tv {S : Nat → Int32} {t D : Nat} {dir : Int32} {B : Nat} (h : tv B (getT S)) : ∀ n, B + n < 1000000000 → tv (B + n) (gst S t D dir n)
  | 0, _ => by
    rw [gst]
    exact h
  | n + 1, hB => by
    rw [gst]
    show tv (B + n + 1) _
    exact tv_stp (B := B + n) (gst_tv h n (by omega)) (by omega)
theorem rdn_tv {S : Nat → Int32} {G : Nat} : ∀ (f i : Nat) (x : T6) (B : Nat), tv B x → B + f < 1000000000 → tv (B + f) (rdn S G f i x).1
  | 0, _, _, _, h, _ => h
  | f + 1, i, x, B, h, hB => by
    by_cases q : x.2.2.1 = 0
    · rw [rdn_1 q]
      exact tv_up (rdn_tv f (i + 1) _ (B + 1) (tv_stp h (by omega)) (by omega)) (by omega)
    · rw [rdn_0 q]
      exact tv_up h (by omega)
theorem crp_tv {S : Nat → Int32} {dir w : Int32} : ∀ (f i : Nat) (x : T6) (B : Nat), tv B x → B + f < 1000000000 → tv (B + f) (crp S dir w f i x).1
  | 0, _, _, _, h, _ => h
  | f + 1, i, x, B, h, hB => by
    by_cases q : x.2.2.1 = w
    · rw [crp_0 q]
      exact tv_up h (by omega)
    · rw [crp_1 q]
      exact tv_up (crp_tv f (i + 1) _ (B + 1) (tv_stp h (by omega)) (by omega)) (by omega)
theorem slw_tv {S : Nat → Int32} {K : Nat} {x : T6} {B : Nat} (h : tv B x) : ∀ d, B + d < 1000000000 → tv (B + d) (slw S K x d)
  | 0, _ => by
    rw [slw_z]
    exact h
  | d + 1, hB => by
    rw [slw_s]
    show tv (B + d + 1) _
    exact tv_stp (B := B + d) (slw_tv h d (by omega)) (by omega)
def Xv (B : Nat) (S : Nat → Int32) : Prop := (S 2).toInt ≤ 60 ∧ tv B (getT S)
def Lv (B : Nat) (S : Nat → Int32) : Prop := Kv S ∧ Xv B S
theorem Xv_up {S : Nat → Int32} {B C : Nat} (h : Xv B S) (hBC : B ≤ C) : Xv C S := ⟨h.1, tv_up h.2 hBC⟩
theorem Xv_of {S f : Nat → Int32} {B : Nat} (h : Xv B S) (e2 : (f 2).toInt ≤ 60) (e : getT f = getT S) : Xv B f := ⟨e2, by rw [e]; exact h.2⟩
theorem Xv_goS {S : Nat → Int32} {tg : Int32} {B : Nat} (h : Xv B S) (hD : gD S tg ≤ 8000) (hB : B < 900000000) : Xv (B + 8000) (goS S tg) := by
  refine ⟨?_, ?_⟩
  · rw [goS_lo S tg (by decide)]
    exact h.1
  · have e : getT (goS S tg) = goX S tg := rfl
    rw [e]
    exact tv_up (gst_tv h.2 (gD S tg) (by omega)) (by omega)
theorem tv_hmX {S : Nat → Int32} {x : T6} {B : Nat} (h : tv B x) : tv B (getT (hmX S x)) := by
  unfold tv at h ⊢
  exact h
theorem Xv_hmS {S : Nat → Int32} {B : Nat} (hok : setOk S) (h : Xv B S) (hB : B < 900000000) : Xv (B + 13000) (hmS S) := by
  refine ⟨?_, ?_⟩
  · have e : hmS S 2 = S 2 := hmX_lo S _ (by decide)
    rw [e]
    exact h.1
  · have a1 : tv (B + 4000) (h1 S).1 := by
      unfold h1
      exact rdn_tv 4000 0 (getT S) B h.2 (by omega)
    have hk := kSl_le hok
    have a2 : tv (B + 4200) (hx1 S) := by
      unfold hx1
      exact tv_up (slw_tv a1 (kSl S) (by omega)) (by omega)
    have a3 : tv (B + 8200) (h2 S).1 := by
      unfold h2
      exact tv_up (crp_tv 4000 0 (hx1 S) (B + 4200) a2 (by omega)) (by omega)
    have a4 : tv (B + 12200) (h3 S).1 := by
      unfold h3
      exact tv_up (crp_tv 4000 0 (h2 S).1 (B + 8200) a3 (by omega)) (by omega)
    have a5 := tv_up a4 (show B + 12200 ≤ B + 13000 by omega)
    have e : hmS S = hmX S (h3 S).1 := rfl
    rw [e]
    exact tv_hmX a5
/-! loads and kept moves, cell by cell -/
def shW (w : Nat → Int32) (a i : Nat) : Nat → Int32 := fun j => if a ≤ j ∧ j < i then w (j + 3) else w j
theorem shW_0 (w : Nat → Int32) (a : Nat) : shW w a a = w := by funext j; exact if_neg (by omega)
theorem shW_r (w : Nat → Int32) {a i : Nat} : shW w a i (i + 3) = w (i + 3) := if_neg (by omega)
theorem shW_s (w : Nat → Int32) {a i : Nat} (h : a ≤ i) : upd (shW w a i) i (w (i + 3)) = shW w a (i + 1) := by
  funext j
  unfold upd shW
  by_cases e : j = i
  · rw [if_pos e, if_pos (by omega), e]
  · rw [if_neg e]
    by_cases q : a ≤ j ∧ j < i
    · rw [if_pos q, if_pos (by omega)]
    · rw [if_neg q, if_neg (by omega)]
theorem wS_dr (S : Nat → Int32) (J n : Nat) (hn : n = (S 18).toInt.toNat) (k : Nat) : shW (wS S) (3 * J) (3 * (n - 1)) k = wS (drS S J) k := by
  unfold shW wS drS drL
  rw [if_neg (show ¬ 19 + k = 18 by omega), ← hn]
  by_cases q : 3 * J ≤ k ∧ k < 3 * (n - 1)
  · rw [if_pos q, if_pos (by omega)]
    exact congrArg S (by omega)
  · rw [if_neg q, if_neg (by omega)]
theorem shW_st (w : Nat → Int32) {a b i : Nat} (h : b ≤ a) : shW w a i = shW w a i := rfl
theorem wS_ad (S : Nat → Int32) (p q w : Int32) (k : Nat) : upd (upd (upd (wS S) (3 * (S 18).toInt.toNat) p) (3 * (S 18).toInt.toNat + 1) q) (3 * (S 18).toInt.toNat + 2) w k = wS (adS S p q w) k := by
  unfold wS adS
  rw [upd_ne (show ¬ 19 + k = 18 by omega)]
  unfold upd
  by_cases h2 : k = 3 * (S 18).toInt.toNat + 2
  · rw [if_pos h2, if_pos (show 19 + k = 19 + 3 * (S 18).toInt.toNat + 2 by omega)]
  rw [if_neg h2, if_neg (show ¬ 19 + k = 19 + 3 * (S 18).toInt.toNat + 2 by omega)]
  by_cases h1 : k = 3 * (S 18).toInt.toNat + 1
  · rw [if_pos h1, if_pos (show 19 + k = 19 + 3 * (S 18).toInt.toNat + 1 by omega)]
  rw [if_neg h1, if_neg (show ¬ 19 + k = 19 + 3 * (S 18).toInt.toNat + 1 by omega)]
  by_cases h0 : k = 3 * (S 18).toInt.toNat
  · rw [if_pos h0, if_pos (show 19 + k = 19 + 3 * (S 18).toInt.toNat by omega)]
  rw [if_neg h0, if_neg (show ¬ 19 + k = 19 + 3 * (S 18).toInt.toNat by omega)]
def msM (m : Nat → Int32) (i : Nat) : Nat → Int32 := fun j => if i < j ∧ j < 26 then m (j - 5) else m j
theorem msM_0 (m : Nat → Int32) : ∀ k, k < 26 → m k = msM m 25 k := fun k hk => (if_neg (by omega)).symm
theorem msM_r (m : Nat → Int32) {i : Nat} : msM m i (i - 5) = m (i - 5) := if_neg (by omega)
theorem msM_s (m : Nat → Int32) {i : Nat} (h : 5 < i) (h2 : i ≤ 25) : upd (msM m i) i (m (i - 5)) = msM m (i - 1) := by
  funext j
  unfold upd msM
  by_cases e : j = i
  · rw [if_pos e, if_pos (by omega), e]
  · rw [if_neg e]
    by_cases q : i < j ∧ j < 26
    · rw [if_pos q, if_pos (by omega)]
    · rw [if_neg q, if_neg (by omega)]
theorem kp_num {x : Int32} (h : 0 ≤ x.toInt ∧ x.toInt ≤ 5) : (x < 5 → x + 1 = kpN x) ∧ (¬ x < 5 → x + 0 = kpN x) := by
  unfold kpN
  refine ⟨fun q => by rw [if_pos q], fun q => ?_⟩
  rw [if_neg q, Int32.add_zero, zeq, i5]
  rw [zlt, i5] at q
  omega
theorem mS_go {S : Nat → Int32} {tg nn : Int32} (hn : nn = kpN (S 37)) : ∀ k, k < 26 → upd (upd (upd (upd (upd (upd (msM (mS S) 5) 1 (S 10)) 2 tg) 3 (goM S tg)) 4 (goP S tg)) 5 (grN (topS S) (gD S tg))) 0 nn k = mS (goS S tg) k := by
  intro k hk
  unfold mS
  by_cases h0 : k = 0
  · subst h0
    rw [hn]
    rfl
  rw [upd_ne h0]
  have e : 37 + k = 38 + (k - 1) := by omega
  rw [e, show goS S tg (38 + (k - 1)) = mvS (goS S tg) (k - 1) from rfl, goS_mv]
  unfold kpF upd
  by_cases h5 : k = 5
  · subst h5; rfl
  by_cases h4 : k = 4
  · subst h4; rfl
  by_cases h3 : k = 3
  · subst h3; rfl
  by_cases h2 : k = 2
  · subst h2; rfl
  by_cases h1 : k = 1
  · subst h1; rfl
  rw [if_neg h5, if_neg h4, if_neg h3, if_neg h2, if_neg h1, if_neg (by omega), if_neg (by omega), if_neg (by omega), if_neg (by omega), if_neg (by omega)]
  unfold msM mvS
  rw [if_pos (by omega)]
  exact congrArg S (by omega)
theorem wS_go (S : Nat → Int32) (tg : Int32) (k : Nat) (hk : k < 18) : wS S k = wS (goS S tg) k := (goS_mid S tg (by omega) (by omega)).symm
theorem gS_go (S : Nat → Int32) (tg : Int32) (k : Nat) (hk : k < 19) : putT S (goX S tg) k = goS S tg k := (goS_at (by omega) (by omega)).symm
theorem wS_hm (S : Nat → Int32) (k : Nat) : wS S k = wS (hmS S) k := (hmX_mid S _ (by omega)).symm
theorem mS_hm (S : Nat → Int32) (k : Nat) : mS S k = mS (hmS S) k := (hmX_mid S _ (by omega)).symm
theorem wS_up {S : Nat → Int32} {j : Nat} {v : Int32} (h : j < 19) (k : Nat) : wS S k = wS (upd S j v) k := (upd_ne (f := S) (i := j) (j := 19 + k) (x := v) (by omega)).symm
theorem mS_up {S : Nat → Int32} {j : Nat} {v : Int32} (h : j < 37) (k : Nat) : mS S k = mS (upd S j v) k := (upd_ne (f := S) (i := j) (j := 37 + k) (x := v) (by omega)).symm
theorem wS_up2 {S : Nat → Int32} {j : Nat} {v : Int32} (h : 37 ≤ j) (k : Nat) (hk : k < 18) : wS S k = wS (upd S j v) k := (upd_ne (f := S) (i := j) (j := 19 + k) (x := v) (by omega)).symm
theorem upd_upd {f : Nat → Int32} {k : Nat} {x y : Int32} : upd (upd f k x) k y = upd f k y := by
  funext j
  unfold upd
  by_cases h : j = k
  · rw [if_pos h, if_pos h]
  · rw [if_neg h, if_neg h, if_neg h]
/-! the values of the settings -/
def vaT (w y : Int32) : Int32 :=
  if w = 0 then (if y - y / 3 * 3 = 0 then 100 + (y - y / 4901 * 4901) else 100 + (y - y / 1200 * 1200))
  else if w = 1 then (if y - y / 4 * 4 = 0 then 20 + (y - y / 981 * 981) else 20 + (y - y / 300 * 300))
  else if w = 2 then y - y / 61 * 61
  else if w = 3 then 1 + (y - y / 300 * 300)
  else if w = 4 then (if y - y / 3 * 3 = 0 then y - y / 101 * 101 else y - y / 30 * 30)
  else if w = 5 then (if y - y / 5 * 5 = 0 then (y - y / 5801 * 5801) - 2900 else (y - y / 600 * 600) - 300)
  else if w = 6 then y - y / 51 * 51
  else (if y - y / 2 * 2 = 0 then y - y / 201 * 201 else y - y / 20 * 20)
theorem rm_in {Y d : Nat} {D : Int32} (hY : Y < 2147483648) (h0 : 0 < d) (hd : d < 100000) (hD : D = nI d) : 0 ≤ (nI Y - nI Y / D * D).toInt ∧ (nI Y - nI Y / D * D).toInt < (d : Int) := by
  subst hD
  rw [pk_rem hY h0 (by omega), znI (by have := Nat.mod_lt Y h0; omega)]
  have := Nat.mod_lt Y h0
  omega
theorem ad_in {c x : Int32} {a b : Int} (hx : 0 ≤ x.toInt ∧ x.toInt < b) (hc : c.toInt = a) (ha : -10000 ≤ a ∧ a ≤ 10000) (hb : b ≤ 100000) : a ≤ (c + x).toInt ∧ (c + x).toInt < a + b := by
  rw [zadd (by omega) (by omega)]
  omega
theorem sb_in {c x : Int32} {a b : Int} (hx : 0 ≤ x.toInt ∧ x.toInt < b) (hc : c.toInt = a) (ha : -10000 ≤ a ∧ a ≤ 10000) (hb : b ≤ 100000) : -a ≤ (x - c).toInt ∧ (x - c).toInt < b - a := by
  rw [zsub (by omega) (by omega)]
  omega
theorem rng {lo hi v : Int32} {a b : Int} (hl : lo.toInt = a) (hh : hi.toInt = b) (h : a ≤ v.toInt ∧ v.toInt ≤ b) : lo ≤ v ∧ v ≤ hi := by
  rw [zle, zle, hl, hh]
  exact h
theorem va_0 {Y : Nat} (hY : Y < 2147483648) : 100 ≤ (vaT (nI 0) (nI Y)).toInt ∧ (vaT (nI 0) (nI Y)).toInt ≤ 5000 := by
  have e : vaT (nI 0) (nI Y) = if nI Y - nI Y / 3 * 3 = 0 then 100 + (nI Y - nI Y / 4901 * 4901) else 100 + (nI Y - nI Y / 1200 * 1200) := if_pos rfl
  rw [e]
  by_cases q : nI Y - nI Y / 3 * 3 = 0
  · rw [if_pos q]
    have := ad_in (c := 100) (a := 100) (rm_in hY (d := 4901) (D := 4901) (by decide) (by decide) rfl) (by decide +kernel) (by decide) (by decide)
    omega
  · rw [if_neg q]
    have := ad_in (c := 100) (a := 100) (rm_in hY (d := 1200) (D := 1200) (by decide) (by decide) rfl) (by decide +kernel) (by decide) (by decide)
    omega
theorem va_1 {Y : Nat} (hY : Y < 2147483648) : 20 ≤ (vaT (nI 1) (nI Y)).toInt ∧ (vaT (nI 1) (nI Y)).toInt ≤ 1000 := by
  have e : vaT (nI 1) (nI Y) = if nI Y - nI Y / 4 * 4 = 0 then 20 + (nI Y - nI Y / 981 * 981) else 20 + (nI Y - nI Y / 300 * 300) := (if_neg (by decide)).trans (if_pos rfl)
  rw [e]
  by_cases q : nI Y - nI Y / 4 * 4 = 0
  · rw [if_pos q]
    have := ad_in (c := 20) (a := 20) (rm_in hY (d := 981) (D := 981) (by decide) (by decide) rfl) (by decide +kernel) (by decide) (by decide)
    omega
  · rw [if_neg q]
    have := ad_in (c := 20) (a := 20) (rm_in hY (d := 300) (D := 300) (by decide) (by decide) rfl) (by decide +kernel) (by decide) (by decide)
    omega
theorem va_2 {Y : Nat} (hY : Y < 2147483648) : 0 ≤ (vaT (nI 2) (nI Y)).toInt ∧ (vaT (nI 2) (nI Y)).toInt ≤ 60 := by
  have e : vaT (nI 2) (nI Y) = nI Y - nI Y / 61 * 61 := (if_neg (by decide)).trans ((if_neg (by decide)).trans (if_pos rfl))
  rw [e]
  have := rm_in hY (d := 61) (D := 61) (by decide) (by decide) rfl
  omega
theorem va_3 {Y : Nat} (hY : Y < 2147483648) : 1 ≤ (vaT (nI 3) (nI Y)).toInt ∧ (vaT (nI 3) (nI Y)).toInt ≤ 300 := by
  have e : vaT (nI 3) (nI Y) = 1 + (nI Y - nI Y / 300 * 300) := (if_neg (by decide)).trans ((if_neg (by decide)).trans ((if_neg (by decide)).trans (if_pos rfl)))
  rw [e]
  have := ad_in (c := 1) (a := 1) (rm_in hY (d := 300) (D := 300) (by decide) (by decide) rfl) (by decide +kernel) (by decide) (by decide)
  omega
theorem va_4 {Y : Nat} (hY : Y < 2147483648) : 0 ≤ (vaT (nI 4) (nI Y)).toInt ∧ (vaT (nI 4) (nI Y)).toInt ≤ 100 := by
  have e : vaT (nI 4) (nI Y) = if nI Y - nI Y / 3 * 3 = 0 then nI Y - nI Y / 101 * 101 else nI Y - nI Y / 30 * 30 := (if_neg (by decide)).trans ((if_neg (by decide)).trans ((if_neg (by decide)).trans ((if_neg (by decide)).trans (if_pos rfl))))
  rw [e]
  by_cases q : nI Y - nI Y / 3 * 3 = 0
  · rw [if_pos q]
    have := rm_in hY (d := 101) (D := 101) (by decide) (by decide) rfl
    omega
  · rw [if_neg q]
    have := rm_in hY (d := 30) (D := 30) (by decide) (by decide) rfl
    omega
theorem va_5 {Y : Nat} (hY : Y < 2147483648) : -2900 ≤ (vaT (nI 5) (nI Y)).toInt ∧ (vaT (nI 5) (nI Y)).toInt ≤ 2900 := by
  have e : vaT (nI 5) (nI Y) = if nI Y - nI Y / 5 * 5 = 0 then (nI Y - nI Y / 5801 * 5801) - 2900 else (nI Y - nI Y / 600 * 600) - 300 := (if_neg (by decide)).trans ((if_neg (by decide)).trans ((if_neg (by decide)).trans ((if_neg (by decide)).trans ((if_neg (by decide)).trans (if_pos rfl)))))
  rw [e]
  by_cases q : nI Y - nI Y / 5 * 5 = 0
  · rw [if_pos q]
    have := sb_in (c := 2900) (a := 2900) (rm_in hY (d := 5801) (D := 5801) (by decide) (by decide) rfl) (by decide +kernel) (by decide) (by decide)
    omega
  · rw [if_neg q]
    have := sb_in (c := 300) (a := 300) (rm_in hY (d := 600) (D := 600) (by decide) (by decide) rfl) (by decide +kernel) (by decide) (by decide)
    omega
theorem va_6 {Y : Nat} (hY : Y < 2147483648) : 0 ≤ (vaT (nI 6) (nI Y)).toInt ∧ (vaT (nI 6) (nI Y)).toInt ≤ 50 := by
  have e : vaT (nI 6) (nI Y) = nI Y - nI Y / 51 * 51 := (if_neg (by decide)).trans ((if_neg (by decide)).trans ((if_neg (by decide)).trans ((if_neg (by decide)).trans ((if_neg (by decide)).trans ((if_neg (by decide)).trans (if_pos rfl))))))
  rw [e]
  have := rm_in hY (d := 51) (D := 51) (by decide) (by decide) rfl
  omega
theorem va_7 {Y : Nat} (hY : Y < 2147483648) : 0 ≤ (vaT (nI 7) (nI Y)).toInt ∧ (vaT (nI 7) (nI Y)).toInt ≤ 200 := by
  have e : vaT (nI 7) (nI Y) = if nI Y - nI Y / 2 * 2 = 0 then nI Y - nI Y / 201 * 201 else nI Y - nI Y / 20 * 20 := (if_neg (by decide)).trans ((if_neg (by decide)).trans ((if_neg (by decide)).trans ((if_neg (by decide)).trans ((if_neg (by decide)).trans ((if_neg (by decide)).trans (if_neg (by decide)))))))
  rw [e]
  by_cases q : nI Y - nI Y / 2 * 2 = 0
  · rw [if_pos q]
    have := rm_in hY (d := 201) (D := 201) (by decide) (by decide) rfl
    omega
  · rw [if_neg q]
    have := rm_in hY (d := 20) (D := 20) (by decide) (by decide) rfl
    omega
theorem va_ok {Y k : Nat} (hY : Y < 2147483648) (hk : k < 8) : stP (nI k) (vaT (nI k) (nI Y)) := by
  refine ⟨⟨nI_pos' (by omega), show nI k ≤ nI 7 from nI_le (by omega) (by decide)⟩, ?_⟩
  match k, hk with
  | 0, _ => exact rng (lo := 100) (hi := 5000) (by decide +kernel) (by decide +kernel) (va_0 hY)
  | 1, _ => exact rng (lo := 20) (hi := 1000) (by decide +kernel) (by decide +kernel) (va_1 hY)
  | 2, _ => exact rng (lo := 0) (hi := 200) (a := 0) (b := 200) (by decide +kernel) (by decide +kernel) (by have := va_2 hY; omega)
  | 3, _ => exact rng (lo := 1) (hi := 300) (by decide +kernel) (by decide +kernel) (va_3 hY)
  | 4, _ => exact rng (lo := 0) (hi := 100) (by decide +kernel) (by decide +kernel) (va_4 hY)
  | 5, _ => exact rng (lo := -2900) (hi := 2900) (by decide +kernel) (by decide +kernel) (va_5 hY)
  | 6, _ => exact rng (lo := 0) (hi := 50) (by decide +kernel) (by decide +kernel) (va_6 hY)
  | 7, _ => exact rng (lo := 0) (hi := 200) (by decide +kernel) (by decide +kernel) (va_7 hY)
