/-! the pure functions that both sides compute -/
def dirT (fm tg : Int32) : Int32 := if tg < fm then -1 else 1
theorem nlt_of {n k : Nat} (hn : n < 2147483648) (h : ¬ nI n ≤ nI k) (hk : k < 2147483648 := by omega) : k < n := by
  rcases Nat.lt_or_ge k n with q | q
  · exact q
  · exact absurd (nI_le q hk) h
theorem nle_of {n k : Nat} (hn : n < 2147483648) (hk : k < 2147483648) (h : nI n ≤ nI k) : n ≤ k := (nI_leI hn hk).mp h
/-- the sum of the weights of the first n loads at a place -/
def lsum (fr to wt : Nat → Int32) (p : Int32) : Nat → Int32
  | 0 => 0
  | n + 1 => lsum fr to wt p n + (if fr n ≤ p ∧ p ≤ to n then wt n else 0)
theorem lsum_yes {fr to wt : Nat → Int32} {p : Int32} {n : Nat} (h : fr n ≤ p ∧ p ≤ to n) : lsum fr to wt p (n + 1) = lsum fr to wt p n + wt n := by
  show lsum fr to wt p n + (if fr n ≤ p ∧ p ≤ to n then wt n else 0) = _
  rw [if_pos h]
theorem lsum_no {fr to wt : Nat → Int32} {p : Int32} {n : Nat} (h : ¬ (fr n ≤ p ∧ p ≤ to n)) : lsum fr to wt p (n + 1) = lsum fr to wt p n := by
  show lsum fr to wt p n + (if fr n ≤ p ∧ p ≤ to n then wt n else 0) = _
  rw [if_neg h, Int32.add_zero]
def swc (pc sw pl cl : Int32) : Int32 := if pc ≤ sw then 1 else if sw + pl < pc then 0 else cl
abbrev missP (w pull nx : Int32) : Prop := (nx < -3000 ∨ 3000 < nx) ∨ pull < w
def rem1 (x : Int32) : Int32 := x - x / 1000000 * 1000000
/-! the ramp -/
def rV (c : Int32 × Int32) : Int32 := 2 * c.1 + c.2
def rD (n : Nat) : Int32 := 4 * nI (n + 1) + 1
def rmp (S : Nat → Int32) : Nat → Int32 × Int32
  | 0 => (S 0, 0)
  | n + 1 => (if S 1 < (rmp S n).1 - rV (rmp S n) / rD n then (rmp S n).1 - rV (rmp S n) / rD n else S 1, rV (rmp S n) - rV (rmp S n) / rD n * rD n)
def ivS (S : Nat → Int32) (k : Nat) : Int32 := (rmp S k).1
def rsS (S : Nat → Int32) (k : Nat) : Int32 := (rmp S k).2
def puT (p l n : Int32) : Int32 := if p - n * l / 16 < 0 then 0 else p - n * l / 16
def puS (S : Nat → Int32) (k : Nat) : Int32 := puT (S 3) (S 4) (nI k)
def smS (S : Nat → Int32) : Nat → Int32
  | 0 => ivS S 0
  | n + 1 => smS S n + ivS S (n + 1)
def topN (S : Nat → Int32) : Nat → Nat
  | 0 => 0
  | m + 1 => if topN S m < m then topN S m else if S 1 < ivS S m then m + 1 else m
def topS (S : Nat → Int32) : Nat := topN S (S 2).toInt.toNat
theorem topN_le (S : Nat → Int32) : ∀ m, topN S m ≤ m
  | 0 => Nat.le_refl 0
  | m + 1 => by
    have ih := topN_le S m
    unfold topN
    split
    · omega
    · split <;> omega
theorem topN_eq {S : Nat → Int32} : ∀ {m k : Nat}, k ≤ m → (∀ j, j < k → S 1 < ivS S j) → (k = m ∨ ¬ S 1 < ivS S k) → topN S m = k
  | 0, k, h, _, _ => by
    have : k = 0 := by omega
    subst this
    rfl
  | m + 1, k, hk, ha, he => by
    unfold topN
    rcases Nat.lt_or_ge k m with h | h
    · have hn : ¬ S 1 < ivS S k := by rcases he with h2 | h2; omega; exact h2
      rw [topN_eq (m := m) (k := k) (by omega) ha (Or.inr hn), if_pos h]
    · have e : topN S m = m := topN_eq (m := m) (k := m) (Nat.le_refl m) (fun j hj => ha j (by omega)) (Or.inl rfl)
      rw [e, if_neg (Nat.lt_irrefl m)]
      rcases Nat.lt_or_ge m k with h2 | h2
      · rw [if_pos (ha m h2)]; omega
      · have hkm : k = m := by omega
        subst hkm
        rw [if_neg (by rcases he with h3 | h3; omega; exact h3)]
theorem topN_all {S : Nat → Int32} : ∀ {m j : Nat}, j < topN S m → S 1 < ivS S j
  | 0, j, h => absurd h (Nat.not_lt_zero j)
  | m + 1, j, h => by
    unfold topN at h
    split at h
    · exact topN_all h
    · rename_i h1
      have e : topN S m = m := Nat.le_antisymm (topN_le S m) (Nat.not_lt.mp h1)
      split at h
      · rename_i h2
        rcases Nat.lt_or_ge j m with h3 | h3
        · exact topN_all (m := m) (by omega)
        · have : j = m := by omega
          subst this
          exact h2
      · exact topN_all (m := m) (by omega)
def setOk (S : Nat → Int32) : Prop := (100 ≤ (S 0).toInt ∧ (S 0).toInt ≤ 5000) ∧ (20 ≤ (S 1).toInt ∧ (S 1).toInt ≤ 1000) ∧ (0 ≤ (S 2).toInt ∧ (S 2).toInt ≤ 200) ∧ (1 ≤ (S 3).toInt ∧ (S 3).toInt ≤ 300) ∧ (0 ≤ (S 4).toInt ∧ (S 4).toInt ≤ 100) ∧ (-2900 ≤ (S 5).toInt ∧ (S 5).toInt ≤ 2900) ∧ (0 ≤ (S 6).toInt ∧ (S 6).toInt ≤ 50) ∧ (0 ≤ (S 7).toInt ∧ (S 7).toInt ≤ 200)
theorem topS_le {S : Nat → Int32} (h : setOk S) : topS S ≤ 200 := by
  have h1 := topN_le S (S 2).toInt.toNat
  have h2 := h.2.2.1
  unfold topS
  omega
def fillT (g f : Nat → Int32) (n : Nat) : Nat → Int32 := fun k => if k < n then g k else f k
theorem fillT_in {g f : Nat → Int32} {n k : Nat} (h : k < n) : fillT g f n k = g k := if_pos h
theorem fillT_upd {g f : Nat → Int32} {n : Nat} {v : Int32} (hv : v = g n) : upd (fillT g f n) n v = fillT g f (n + 1) := by
  subst hv
  funext j
  unfold upd fillT
  by_cases h : j = n
  · subst h; rw [if_pos rfl, if_pos (by omega)]
  · rw [if_neg h]
    by_cases h2 : j < n
    · rw [if_pos h2, if_pos (by omega)]
    · rw [if_neg h2, if_neg (by omega)]
theorem fillT_1 {g f : Nat → Int32} {v : Int32} (hv : v = g 0) : upd f 0 v = fillT g f 1 := by
  have h : f = fillT g f 0 := by funext j; unfold fillT; rw [if_neg (by omega)]
  have := fillT_upd (g := g) (f := f) (n := 0) hv
  rw [← h] at this
  exact this
theorem rD_eq (k : Nat) : rD k = nI (4 * (k + 1) + 1) := by
  unfold rD
  rw [show (4 : Int32) = nI 4 from rfl, show (1 : Int32) = nI 1 from rfl, pk_mul, nI_add]
theorem rD_ne {k : Nat} (h : k < 200) : ¬ rD k = 0 := by
  rw [rD_eq]
  exact nI_ne0 (by omega) (by omega)
theorem pu_max (x : Int32) : (if 0 < x then x else 0) = (if x < 0 then 0 else x) := by
  by_cases h : 0 < x
  · have h2 : ¬ x < 0 := by rw [zlt] at *; have : (0 : Int32).toInt = 0 := rfl; omega
    rw [if_pos h, if_neg h2]
  · by_cases h2 : x < 0
    · rw [if_neg h, if_pos h2]
    · rw [if_neg h, if_neg h2, zeq]
      rw [zlt] at h h2
      have : (0 : Int32).toInt = 0 := rfl
      omega
theorem puS_0 {S : Nat → Int32} (h : setOk S) : puS S 0 = S 3 := by
  have h3 := h.2.2.2.1
  have e : S 3 - nI 0 * S 4 / 16 = S 3 := by
    rw [show nI 0 = 0 from rfl, Int32.zero_mul, show (0 : Int32) / 16 = 0 from rfl, Int32.sub_zero]
  unfold puS puT
  rw [e, if_neg]
  rw [zlt]
  have : (0 : Int32).toInt = 0 := rfl
  omega
def rget (f : Nat → Int32) (n : Int32) : Int32 := if 0 ≤ n ∧ n ≤ 200 then f n.toInt.toNat else 0
def idxC (la n d : Int32) : Int32 := if (if d - 1 - n < n then d - 1 - n else n) < la then (if d - 1 - n < n then d - 1 - n else n) else la
def grC (la d : Int32) : Int32 := if 0 < d then (if (d - 1) / 2 < la then (d - 1) / 2 else la) else 0
def timeC (fi fs : Nat → Int32) (la d : Int32) : Int32 := 2 * (rget fs ((if la < d / 2 then la else d / 2) - 1) + (d / 2 - (if la < d / 2 then la else d / 2)) * rget fi la) + (if d - d / 2 * 2 = 0 then 0 else rget fi (if la < d / 2 then la else d / 2))
/-! the model's rows -/
def frS (S : Nat → Int32) : Nat → Int32 := fun k => S (19 + 3 * k)
def toS (S : Nat → Int32) : Nat → Int32 := fun k => S (19 + 3 * k + 1)
def wtS (S : Nat → Int32) : Nat → Int32 := fun k => S (19 + 3 * k + 2)
def mvS (S : Nat → Int32) : Nat → Int32 := fun k => S (38 + k)
def leT (w : Int32) : Int32 := if w = 0 then 100 else if w = 1 then 20 else if w = 3 then 1 else if w = 5 then -2900 else 0
def moT (w : Int32) : Int32 := if w = 0 then 5000 else if w = 1 then 1000 else if w = 3 then 300 else if w = 4 then 100 else if w = 5 then 2900 else if w = 6 then 50 else 200
theorem ldx (k : Nat) : (19 : Int32) + 3 * nI k = nI (19 + 3 * k) := by
  rw [show (19 : Int32) = nI 19 from rfl, show (3 : Int32) = nI 3 from rfl, pk_mul, nI_add]
theorem ldx1 (k : Nat) : (19 : Int32) + 3 * nI k + 1 = nI (19 + 3 * k + 1) := by
  rw [ldx, nI_1]
theorem ldx2 (k : Nat) : (19 : Int32) + 3 * nI k + 2 = nI (19 + 3 * k + 2) := by
  rw [ldx, show (2 : Int32) = nI 2 from rfl, nI_add]
/-- rows 1, 2 and 3 of the past move to 0, 1 and 2 -/
def shF (pf : Nat → Int32) (n : Nat) : Nat → Int32 := fun j => if j < n then pf (j + 63) else pf j
def puF (pf S : Nat → Int32) (p n : Nat) : Nat → Int32 := fun j => if 63 * p ≤ j ∧ j < 63 * p + n then S (j - 63 * p) else pf j
def psF (rn ps : Int32) : Int32 := if rn = 0 then (if ps = 4 then 4 else ps + 1) else ps
def pfF (rn ps : Int32) (pf S : Nat → Int32) : Nat → Int32 := if rn = 0 then (if ps = 4 then puF (shF pf 189) S 3 63 else puF pf S ps.toInt.toNat 63) else pf
theorem shF_0 (pf : Nat → Int32) : shF pf 0 = pf := by funext j; exact if_neg (by omega)
theorem shF_r (pf : Nat → Int32) (n : Nat) : shF pf n (n + 63) = pf (n + 63) := if_neg (by omega)
theorem shF_s (pf : Nat → Int32) (n : Nat) : upd (shF pf n) n (pf (n + 63)) = shF pf (n + 1) := by
  funext j
  unfold upd shF
  by_cases h : j = n
  · subst h; rw [if_pos rfl, if_pos (by omega)]
  · rw [if_neg h]
    by_cases h2 : j < n
    · rw [if_pos h2, if_pos (by omega)]
    · rw [if_neg h2, if_neg (by omega)]
theorem puF_0 (pf S : Nat → Int32) (p : Nat) : puF pf S p 0 = pf := by funext j; exact if_neg (by omega)
theorem puF_s (pf S : Nat → Int32) (p n : Nat) : upd (puF pf S p n) (63 * p + n) (S n) = puF pf S p (n + 1) := by
  funext j
  unfold upd puF
  by_cases h : j = 63 * p + n
  · subst h; rw [if_pos rfl, if_pos (by omega), show 63 * p + n - 63 * p = n by omega]
  · rw [if_neg h]
    by_cases h2 : 63 * p ≤ j ∧ j < 63 * p + n
    · rw [if_pos h2, if_pos (by omega)]
    · rw [if_neg h2, if_neg (by omega)]
theorem fillT_0 (g f : Nat → Int32) : fillT g f 0 = f := by funext j; exact if_neg (by omega)
theorem upd_self {f : Nat → Int32} {k : Nat} : upd f k (f k) = f := by
  funext j; unfold upd; by_cases h : j = k
  · rw [if_pos h, h]
  · rw [if_neg h]
/-! steps: told, place, closed, steps, missed, time -/
abbrev T6 : Type := Int32 × Int32 × Int32 × Int32 × Int32 × Int32
def getT (S : Nat → Int32) : T6 := (S 10, S 11, S 14, S 15, S 16, S 17)
def putT (S : Nat → Int32) (x : T6) : Nat → Int32 := fun j => if j = 10 then x.1 else if j = 11 then x.2.1 else if j = 14 then x.2.2.1 else if j = 15 then x.2.2.2.1 else if j = 16 then x.2.2.2.2.1 else if j = 17 then x.2.2.2.2.2 else S j
/-- the load at a place -/
def ldS (S : Nat → Int32) (p : Int32) : Int32 := lsum (frS S) (toS S) (wtS S) p (S 18).toInt.toNat
def stp (S : Nat → Int32) (dir iv pull : Int32) (x : T6) : T6 :=
  (x.1 + dir, (if missP (ldS S x.2.1) pull (x.2.1 + dir) then x.2.1 else x.2.1 + dir), swc (if missP (ldS S x.2.1) pull (x.2.1 + dir) then x.2.1 else x.2.1 + dir) (S 5) (S 6) x.2.2.1, x.2.2.2.1 + 1, (if missP (ldS S x.2.1) pull (x.2.1 + dir) then x.2.2.2.2.1 + 1 else x.2.2.2.2.1), rem1 (x.2.2.2.2.2 + iv))
theorem putT_eq {S f : Nat → Int32} {x : T6} (h10 : f 10 = x.1) (h11 : f 11 = x.2.1) (h14 : f 14 = x.2.2.1) (h15 : f 15 = x.2.2.2.1) (h16 : f 16 = x.2.2.2.2.1) (h17 : f 17 = x.2.2.2.2.2) (ho : ∀ j, j ≠ 10 → j ≠ 11 → j ≠ 14 → j ≠ 15 → j ≠ 16 → j ≠ 17 → f j = S j) : f = putT S x := by
  funext j
  unfold putT
  by_cases e0 : j = 10
  · rw [if_pos e0, e0, h10]
  rw [if_neg e0]
  by_cases e1 : j = 11
  · rw [if_pos e1, e1, h11]
  rw [if_neg e1]
  by_cases e2 : j = 14
  · rw [if_pos e2, e2, h14]
  rw [if_neg e2]
  by_cases e3 : j = 15
  · rw [if_pos e3, e3, h15]
  rw [if_neg e3]
  by_cases e4 : j = 16
  · rw [if_pos e4, e4, h16]
  rw [if_neg e4]
  by_cases e5 : j = 17
  · rw [if_pos e5, e5, h17]
  rw [if_neg e5]
  exact ho j e0 e1 e2 e3 e4 e5
theorem putT_get (S : Nat → Int32) : putT S (getT S) = S := (putT_eq rfl rfl rfl rfl rfl rfl (fun _ _ _ _ _ _ _ => rfl)).symm
theorem upd_ne {f : Nat → Int32} {i j : Nat} {x : Int32} (h : j ≠ i) : upd f i x j = f j := if_neg h
def idxR (la n d : Int32) : Int32 := if (if n < d - 1 - n then n else d - 1 - n) < la then (if n < d - 1 - n then n else d - 1 - n) else la
theorem nin_or {x : Int32} (h : ¬ (-3000 ≤ x ∧ x ≤ 3000)) : x < -3000 ∨ 3000 < x := by
  rw [zlt, zlt]
  rw [zle, zle] at h
  omega
theorem nin_not {x : Int32} (h : -3000 ≤ x ∧ x ≤ 3000) : ¬ (x < -3000 ∨ 3000 < x) := by
  rw [zlt, zlt]
  rw [zle, zle] at h
  omega
/-! a move: D steps, t the top -/
def ix (t a D : Nat) : Nat := min (min a (D - 1 - a)) t
theorem nI_sub1 {a b : Nat} (h : b ≤ a) : nI a - nI b = nI (a - b) := pk_sub h
theorem ix_m {a D : Nat} (h : a < D) : nI D - 1 - nI a = nI (D - 1 - a) := by
  rw [show (1 : Int32) = nI 1 from rfl, pk_sub (by omega), pk_sub (by omega)]
theorem nI_lt' {a b : Nat} (ha : a < 2147483648) (hb : b < 2147483648) : nI a < nI b ↔ a < b := nI_ltI ha hb
theorem nI_if {a b : Nat} {α : Type} (ha : a < 2147483648) (hb : b < 2147483648) (x y : α) : (if nI a < nI b then x else y) = if a < b then x else y := by
  by_cases h : a < b
  · rw [if_pos ((nI_lt' ha hb).mpr h), if_pos h]
  · rw [if_neg (fun q => h ((nI_lt' ha hb).mp q)), if_neg h]
theorem nI_ite (c : Prop) [Decidable c] (a b : Nat) : (if c then nI a else nI b) = nI (if c then a else b) := by
  by_cases h : c
  · rw [if_pos h, if_pos h]
  · rw [if_neg h, if_neg h]
theorem idxC_eq {t a D : Nat} (ht : t ≤ 200) (h : a < D) (hD : D ≤ 8000) : idxC (nI t) (nI a) (nI D) = nI (ix t a D) := by
  unfold idxC ix
  rw [ix_m h, nI_if (by omega) (by omega), nI_ite, nI_if (by split <;> omega) (by omega), nI_ite]
  congr 1
  split <;> split <;> omega
theorem idxR_eq {t a D : Nat} (ht : t ≤ 200) (h : a < D) (hD : D ≤ 8000) : idxR (nI t) (nI a) (nI D) = nI (ix t a D) := by
  unfold idxR ix
  rw [ix_m h, nI_if (by omega) (by omega), nI_ite, nI_if (by split <;> omega) (by omega), nI_ite]
  congr 1
  split <;> split <;> omega
theorem ix_le (t a D : Nat) : ix t a D ≤ t := Nat.min_le_right _ _
def gst (S : Nat → Int32) (t D : Nat) (dir : Int32) : Nat → T6
  | 0 => getT S
  | n + 1 => stp S dir (ivS S (ix t n D)) (puS S (ix t n D)) (gst S t D dir n)
abbrev gMs (S : Nat → Int32) (t D : Nat) (dir : Int32) (n : Nat) : Prop := missP (ldS S (gst S t D dir n).2.1) (puS S (ix t n D)) ((gst S t D dir n).2.1 + dir)
def gmis (S : Nat → Int32) (t D : Nat) (dir : Int32) : Nat → Int32
  | 0 => 0
  | n + 1 => if gMs S t D dir n then gmis S t D dir n + 1 else gmis S t D dir n
def gat (S : Nat → Int32) (t D : Nat) (dir : Int32) : Nat → Int32
  | 0 => -1000004
  | n + 1 => if gMs S t D dir n then (if gmis S t D dir n = 0 then (gst S t D dir n).2.1 else gat S t D dir n) else gat S t D dir n
def gsp (S : Nat → Int32) (t D : Nat) : Nat → Int32
  | 0 => 0
  | n + 1 => gsp S t D n + ivS S (ix t n D)
theorem frS_put (S : Nat → Int32) (x : T6) : frS (putT S x) = frS S := by
  funext k; unfold frS putT
  rw [if_neg (by omega), if_neg (by omega), if_neg (by omega), if_neg (by omega), if_neg (by omega), if_neg (by omega)]
theorem toS_put (S : Nat → Int32) (x : T6) : toS (putT S x) = toS S := by
  funext k; unfold toS putT
  rw [if_neg (by omega), if_neg (by omega), if_neg (by omega), if_neg (by omega), if_neg (by omega), if_neg (by omega)]
theorem wtS_put (S : Nat → Int32) (x : T6) : wtS (putT S x) = wtS S := by
  funext k; unfold wtS putT
  rw [if_neg (by omega), if_neg (by omega), if_neg (by omega), if_neg (by omega), if_neg (by omega), if_neg (by omega)]
theorem mvS_put (S : Nat → Int32) (x : T6) : mvS (putT S x) = mvS S := by
  funext k; unfold mvS putT
  rw [if_neg (by omega), if_neg (by omega), if_neg (by omega), if_neg (by omega), if_neg (by omega), if_neg (by omega)]
theorem ldS_put (S : Nat → Int32) (x : T6) : ldS (putT S x) = ldS S := by
  funext p; unfold ldS
  rw [frS_put, toS_put, wtS_put]
  rfl
theorem stp_put (S : Nat → Int32) (x : T6) : stp (putT S x) = stp S := by
  funext dir iv pull y
  unfold stp
  rw [ldS_put]
  rfl
theorem putT_put (S : Nat → Int32) (x y : T6) : putT (putT S x) y = putT S y := putT_eq rfl rfl rfl rfl rfl rfl (fun j h1 h2 h3 h4 h5 h6 => by unfold putT; rw [if_neg h1, if_neg h2, if_neg h3, if_neg h4, if_neg h5, if_neg h6, if_neg h1, if_neg h2, if_neg h3, if_neg h4, if_neg h5, if_neg h6])
theorem getT_put (S : Nat → Int32) (x : T6) : getT (putT S x) = x := rfl
theorem rmp_put (S : Nat → Int32) (x : T6) : ∀ k, rmp (putT S x) k = rmp S k
  | 0 => rfl
  | k + 1 => by
    unfold rmp
    rw [rmp_put S x k]
    rfl
theorem ivS_put (S : Nat → Int32) (x : T6) : ivS (putT S x) = ivS S := by funext k; unfold ivS; rw [rmp_put]
/-- how far a told place is -/
def dist (fm tg : Int32) : Nat := (tg.toInt - fm.toInt).natAbs
def okP (x : Int32) : Prop := -4000 ≤ x.toInt ∧ x.toInt ≤ 4000
theorem dist_le {a b : Int32} (ha : okP a) (hb : okP b) : dist a b ≤ 8000 := by unfold dist okP at *; omega
theorem way_lt {a b : Int32} (ha : okP a) (hb : okP b) : (b - a).toInt = b.toInt - a.toInt := zsub (by unfold okP at *; omega) (by unfold okP at *; omega)
theorem i0 : (0 : Int32).toInt = 0 := rfl
theorem way_neg {a b : Int32} (ha : okP a) (hb : okP b) : b - a < 0 ↔ b < a := by
  rw [zlt, zlt, way_lt ha hb, i0]; omega
theorem way_dir {a b : Int32} (ha : okP a) (hb : okP b) : (if b - a < 0 then (-1 : Int32) else 1) = dirT a b := by
  unfold dirT
  by_cases h : b < a
  · rw [if_pos ((way_neg ha hb).mpr h), if_pos h]
  · rw [if_neg (fun q => h ((way_neg ha hb).mp q)), if_neg h]
theorem way_many {a b : Int32} (ha : okP a) (hb : okP b) : (b - a) * dirT a b = nI (dist a b) := by
  have h1 := way_lt ha hb
  unfold okP at ha hb
  rw [zeq, znI (by have := dist_le (a := a) (b := b) ha hb; omega)]
  unfold dirT dist
  have em : (-1 : Int32).toInt = -1 := rfl
  have e1 : (1 : Int32).toInt = 1 := rfl
  by_cases h : b < a
  · rw [if_pos h]
    rw [zlt] at h
    rw [zmul (by rw [h1, em]; omega) (by rw [h1, em]; omega), h1, em]
    omega
  · rw [if_neg h]
    rw [zlt] at h
    rw [zmul (by rw [h1, e1]; omega) (by rw [h1, e1]; omega), h1, e1]
    omega
theorem way_abs {a b : Int32} (ha : okP a) (hb : okP b) : (if 0 ≤ b - a then b - a else 0 - (b - a)) = nI (dist a b) := by
  have h1 := way_lt ha hb
  unfold okP at ha hb
  rw [zeq, znI (by have := dist_le (a := a) (b := b) ha hb; omega)]
  unfold dist
  by_cases h : 0 ≤ b - a
  · rw [if_pos h, h1]
    rw [zle, h1, i0] at h
    omega
  · rw [if_neg h]
    rw [zle, h1, i0] at h
    rw [zsub (by rw [h1, i0]; omega) (by rw [h1, i0]; omega), h1, i0]
    omega
/-! loads, settings, limits -/
abbrev okL (p q w : Int32) : Prop := (-3000 ≤ p ∧ p ≤ 3000) ∧ (p ≤ q ∧ q ≤ 3000) ∧ (1 ≤ w ∧ w ≤ 300)
def adR (nl p q w : Int32) : Int32 := if okL p q w then (if nl = 6 then -1000003 else nl) else -1000001
abbrev adP (nl p q w : Int32) : Prop := okL p q w ∧ ¬ nl = 6
abbrev drP (nl j : Int32) : Prop := 0 ≤ j ∧ j < nl
/-- rows behind j move down, up to the row i (it too): the row k + 1 goes to k for j ≤ k, k + 1 < i -/
def drF (f : Nat → Int32) (j i : Nat) : Nat → Int32 := fun k => if j ≤ k ∧ k + 1 < i then f (k + 1) else f k
def drR (wt : Nat → Int32) (nl j : Int32) : Int32 := if j < 0 then -1000001 else if j < nl then wt j.toInt.toNat else -1000002
theorem drF_0 (f : Nat → Int32) (j : Nat) : drF f j (j + 1) = f := by funext k; exact if_neg (by omega)
theorem drF_r (f : Nat → Int32) (j i : Nat) : drF f j i i = f i := if_neg (by omega)
theorem drF_s {f : Nat → Int32} {j i : Nat} (h : j + 1 ≤ i) : upd (drF f j i) (i - 1) (f i) = drF f j (i + 1) := by
  funext k
  unfold upd drF
  by_cases e : k = i - 1
  · rw [if_pos e, if_pos (by omega), e, show i - 1 + 1 = i by omega]
  · rw [if_neg e]
    by_cases h2 : j ≤ k ∧ k + 1 < i
    · rw [if_pos h2, if_pos (by omega)]
    · rw [if_neg h2, if_neg (by omega)]
theorem nI_m1 {i : Nat} (h : 1 ≤ i) : nI i - 1 = nI (i - 1) := by
  rw [show (1 : Int32) = nI 1 from rfl, pk_sub h]
theorem ne6 {x : Int32} (h : 0 ≤ x.toInt ∧ x.toInt ≤ 6) (h2 : x < 6) : ¬ x = 6 := by
  rw [zlt] at h2
  rw [zeq]
  omega
theorem eq6 {x : Int32} (h : 0 ≤ x.toInt ∧ x.toInt ≤ 6) (h2 : ¬ x < 6) : x = 6 := by
  rw [zlt] at h2
  rw [zeq]
  have e : (6 : Int32).toInt = 6 := rfl
  omega
def prR (fr to wt : Nat → Int32) (nl j w : Int32) : Int32 := if ¬ j < 0 ∧ (0 ≤ w ∧ w ≤ 2) then (if j < nl then (if w = 0 then fr j.toInt.toNat else if w = 1 then to j.toInt.toNat else wt j.toInt.toNat) else -1000004) else -1000001
def mvR (mv : Nat → Int32) (nm j w : Int32) : Int32 := if ¬ j < 0 ∧ (0 ≤ w ∧ w ≤ 4) then (if j < nm then mv (5 * j.toInt.toNat + w.toInt.toNat) else -1000004) else -1000001
/-- the kept moves with one more ahead -/
def kpF (mv : Nat → Int32) (fm tg ms tm gr : Int32) : Nat → Int32 := fun k => if k = 0 then fm else if k = 1 then tg else if k = 2 then ms else if k = 3 then tm else if k = 4 then gr else mv (k - 5)
def kpN (nm : Int32) : Int32 := if nm < 5 then nm + 1 else 5
theorem kpF_eq (mv : Nat → Int32) (fm tg ms tm gr : Int32) (k : Nat) (hk : k < 25) : upd (upd (upd (upd (upd (va_cpy mv mv 0 5 20) 0 fm) 1 tg) 2 ms) 3 tm) 4 gr k = kpF mv fm tg ms tm gr k := by
  unfold upd kpF va_cpy
  by_cases h4 : k = 4
  · subst h4; rfl
  by_cases h3 : k = 3
  · subst h3; rfl
  by_cases h2 : k = 2
  · subst h2; rfl
  by_cases h1 : k = 1
  · subst h1; rfl
  by_cases h0 : k = 0
  · subst h0; rfl
  rw [if_neg h4, if_neg h3, if_neg h2, if_neg h1, if_neg h0, if_neg h0, if_neg h1, if_neg h2, if_neg h3, if_neg h4, if_pos (by omega), Nat.zero_add]
theorem ix5 {j w : Int32} {n : Nat} (hj : ¬ j < 0) (hjn : j.toInt < n) (hn : n ≤ 5) (hw : 0 ≤ w ∧ w ≤ 4) : j * 5 + w = nI (5 * j.toInt.toNat + w.toInt.toNat) ∧ 5 * j.toInt.toNat + w.toInt.toNat < 25 := by
  rw [zlt, i0] at hj
  rw [zle, zle, i0] at hw
  have e4 : (4 : Int32).toInt = 4 := rfl
  have e5 : (5 : Int32).toInt = 5 := rfl
  have h1 : (j * 5).toInt = j.toInt * 5 := by rw [zmul (by rw [e5]; omega) (by rw [e5]; omega), e5]
  refine ⟨?_, by omega⟩
  rw [zeq, znI (by omega), zadd (by rw [h1]; omega) (by rw [h1]; omega), h1]
  omega
def stR (S : Nat → Int32) (w v : Int32) : Int32 := if (0 ≤ w ∧ w ≤ 7) ∧ (leT w ≤ v ∧ v ≤ moT w) then S w.toInt.toNat else -1000001
abbrev stP (w v : Int32) : Prop := (0 ≤ w ∧ w ≤ 7) ∧ (leT w ≤ v ∧ v ≤ moT w)
abbrev lmP (p q : Int32) : Prop := (-2000 ≤ p ∧ p ≤ 2000) ∧ (p ≤ q ∧ q ≤ 2000)
def lmR (told p q : Int32) : Int32 := if lmP p q then b01 (p ≤ told ∧ told ≤ q) else -1000001
theorem w8 {w : Int32} (h : 0 ≤ w ∧ w ≤ 7) : ∃ j : Nat, j < 8 ∧ w = nI j ∧ w.toInt.toNat = j := by
  rw [zle, zle, i0] at h
  have e7 : (7 : Int32).toInt = 7 := rfl
  exact ⟨w.toInt.toNat, by omega, zof h.1, rfl⟩
theorem least_eq {w : Int32} (h : 0 ≤ w ∧ w ≤ 7) : leastT w.toInt.toNat = leT w := by
  obtain ⟨j, h1, h2, h3⟩ := w8 h
  rw [h3, h2]
  match j, h1 with
  | 0, _ => rfl
  | 1, _ => rfl
  | 2, _ => rfl
  | 3, _ => rfl
  | 4, _ => rfl
  | 5, _ => rfl
  | 6, _ => rfl
  | 7, _ => rfl
theorem great_eq {w : Int32} (h : 0 ≤ w ∧ w ≤ 7) : greatT w.toInt.toNat = moT w := by
  obtain ⟨j, h1, h2, h3⟩ := w8 h
  rw [h3, h2]
  match j, h1 with
  | 0, _ => rfl
  | 1, _ => rfl
  | 2, _ => rfl
  | 3, _ => rfl
  | 4, _ => rfl
  | 5, _ => rfl
  | 6, _ => rfl
  | 7, _ => rfl
def bit1 (x : Int32) : Prop := x = 0 ∨ x = 1
theorem bit_nar {x : Int32} (h : bit1 x) : narrow .boolean (.int x) = .int x := by
  rcases h with h | h <;> subst h <;> rfl
theorem ivS_s (S : Nat → Int32) (k : Nat) : (if S 1 < ivS S k - (2 * ivS S k + rsS S k) / rD k then ivS S k - (2 * ivS S k + rsS S k) / rD k else S 1) = ivS S (k + 1) := by
  unfold ivS rsS
  rw [rmp]
  unfold rV
  rfl
theorem rsS_s (S : Nat → Int32) (k : Nat) : 2 * ivS S k + rsS S k - (2 * ivS S k + rsS S k) / rD k * rD k = rsS S (k + 1) := by
  unfold ivS rsS
  rw [rmp]
  unfold rV
  rfl
theorem smS_s (S : Nat → Int32) (k : Nat) : smS S k + ivS S (k + 1) = smS S (k + 1) := by
  rw [smS]
theorem smS_z (S : Nat → Int32) (fi : Nat → Int32) : upd fi 0 (S 0) 0 = smS S 0 := by
  rw [smS]
  unfold ivS
  rw [rmp]
  exact if_pos rfl
theorem ivS_z (S : Nat → Int32) : S 0 = ivS S 0 := by
  unfold ivS
  rw [rmp]
theorem rsS_z (S : Nat → Int32) : (0 : Int32) = rsS S 0 := by
  unfold rsS
  rw [rmp]
theorem rD_s (k : Nat) : 4 * nI (k + 1) + 1 = rD k := rfl
theorem puS_s (S : Nat → Int32) (k : Nat) : (if 0 < S 3 - nI k * S 4 / 16 then S 3 - nI k * S 4 / 16 else 0) = puS S k := by
  unfold puS puT
  exact pu_max _
theorem bit_fit {x : Int32} (h : bit1 x) : fits .boolean (.int x) = true := by
  rcases h with h | h <;> subst h <;> rfl
