/-! the time of a move: a sum of its steps' intervals, from both ends -/
def upS (f : Nat → Int32) (t : Nat) : Nat → Int32
  | 0 => 0
  | n + 1 => upS f t n + f (min n t)
def dnS (f : Nat → Int32) (t D : Nat) : Nat → Int32
  | 0 => 0
  | n + 1 => dnS f t D n + f (ix t n D)
theorem gsp_dn (S : Nat → Int32) (t D : Nat) : ∀ n, gsp S t D n = dnS (ivS S) t D n
  | 0 => rfl
  | n + 1 => by
    show gsp S t D n + _ = dnS (ivS S) t D n + _
    rw [gsp_dn S t D n]
theorem dn_up {f : Nat → Int32} {t D : Nat} : ∀ {n : Nat}, 2 * n ≤ D + 1 → dnS f t D n = upS f t n
  | 0, _ => rfl
  | n + 1, h => by
    show dnS f t D n + f (ix t n D) = upS f t n + f (min n t)
    rw [dn_up (n := n) (by omega)]
    congr 2
    unfold ix
    omega
theorem dn_end {f : Nat → Int32} {t D : Nat} : ∀ {n : Nat}, 2 * n ≤ D → dnS f t D D = dnS f t D (D - n) + upS f t n
  | 0, _ => by
    show _ = dnS f t D D + 0
    rw [Int32.add_zero]
  | n + 1, h => by
    rw [dn_end (n := n) (by omega)]
    obtain ⟨k, hk⟩ : ∃ k, D - n = k + 1 := ⟨D - n - 1, by omega⟩
    have hk2 : D - (n + 1) = k := by omega
    rw [hk, hk2]
    show dnS f t D k + f (ix t k D) + upS f t n = dnS f t D k + (upS f t n + f (min n t))
    have e : ix t k D = min n t := by unfold ix; omega
    rw [e, Int32.add_assoc, Int32.add_comm (f (min n t))]
theorem dn_even {f : Nat → Int32} {t h : Nat} : dnS f t (2 * h) (2 * h) = upS f t h + upS f t h := by
  rw [dn_end (n := h) (by omega), show 2 * h - h = h by omega, dn_up (by omega)]
theorem dn_odd {f : Nat → Int32} {t h : Nat} : dnS f t (2 * h + 1) (2 * h + 1) = upS f t h + upS f t h + f (min h t) := by
  rw [dn_end (n := h) (by omega), show 2 * h + 1 - h = h + 1 by omega, dn_up (by omega)]
  show upS f t h + f (min h t) + upS f t h = _
  rw [Int32.add_assoc, Int32.add_comm (f (min h t)), ← Int32.add_assoc]
theorem nI_mul_succ (k : Nat) (x : Int32) : nI (k + 1) * x = nI k * x + x := by
  rw [nI_succ, Int32.add_mul, Int32.one_mul]
/-- up to the top, and on along it -/
theorem up_le (S : Nat → Int32) {t : Nat} : ∀ {h : Nat}, h ≤ t → upS (ivS S) t (h + 1) = smS S h
  | 0, _ => by
    show 0 + ivS S (min 0 t) = ivS S 0
    rw [Nat.zero_min, Int32.zero_add]
  | h + 1, hh => by
    show upS (ivS S) t (h + 1) + ivS S (min (h + 1) t) = smS S h + ivS S (h + 1)
    rw [up_le S (h := h) (by omega), Nat.min_eq_left hh]
theorem up_gt (S : Nat → Int32) {t : Nat} : ∀ k : Nat, upS (ivS S) t (t + k) = upS (ivS S) t t + nI k * ivS S t
  | 0 => by
    rw [show nI 0 = 0 from rfl, Int32.zero_mul, Int32.add_zero]
    rfl
  | k + 1 => by
    show upS (ivS S) t (t + k) + ivS S (min (t + k) t) = _
    rw [up_gt S k, nI_mul_succ, Nat.min_eq_right (by omega), Int32.add_assoc]
theorem rget_nI {f : Nat → Int32} {k : Nat} (h : k ≤ 200) : rget f (nI k) = f k := by
  unfold rget
  have e := znI (n := k) (by omega)
  have e2 : (200 : Int32).toInt = 200 := rfl
  rw [if_pos ⟨by rw [zle, e, i0]; omega, by rw [zle, e, e2]; omega⟩, e]
  rfl
theorem rget_m1 {f : Nat → Int32} : rget f (-1) = 0 := if_neg (by decide)
theorem nI_half {D : Nat} (h : D ≤ 8000) : nI D / 2 = nI (D / 2) := by
  rw [show (2 : Int32) = nI 2 from rfl, pk_div (by omega) (by omega) (by omega)]
theorem nI_odd {D : Nat} (h : D ≤ 8000) : nI D - nI D / 2 * 2 = nI (D % 2) := by
  rw [show (2 : Int32) = nI 2 from rfl, pk_rem (by omega) (by omega) (by omega)]
theorem two_mul' (x : Int32) : 2 * x = x + x := by
  rw [show (2 : Int32) = 1 + 1 from rfl, Int32.add_mul, Int32.one_mul]
/-- one half of a move's time -/
theorem half_eq {S fi fs : Nat → Int32} {t h : Nat} (ht : t ≤ 200) (hh : h ≤ 4000) (hi : fi t = ivS S t) (hs : ∀ k, k ≤ t → fs k = smS S k) :
    rget fs (nI (min h t) - 1) + (nI h - nI (min h t)) * rget fi (nI t) = upS (ivS S) t h := by
  rw [rget_nI ht, hi]
  rcases Nat.lt_or_ge t h with q | q
  · rw [Nat.min_eq_right (by omega)]
    have e2 : upS (ivS S) t h = upS (ivS S) t t + nI (h - t) * ivS S t := by
      have := up_gt S (t := t) (h - t)
      rw [show t + (h - t) = h by omega] at this
      exact this
    rw [e2, pk_sub (by omega)]
    congr 1
    match t, ht, hs with
    | 0, _, _ => exact rget_m1
    | t + 1, ht, hs => rw [nI_pred, rget_nI (by omega), hs t (by omega)]; exact (up_le S (t := t + 1) (h := t) (by omega)).symm
  · rw [Nat.min_eq_left q, show nI h - nI h = 0 by rw [pk_sub (Nat.le_refl h), Nat.sub_self]; rfl, Int32.zero_mul, Int32.add_zero]
    match h, q with
    | 0, _ => exact rget_m1
    | h + 1, q => rw [nI_pred, rget_nI (by omega), hs h (by omega)]; exact (up_le S (t := t) (h := h) (by omega)).symm
theorem nI_min {a b : Nat} (ha : a < 2147483648) (hb : b < 2147483648) : (if nI b < nI a then nI b else nI a) = nI (min a b) := by
  rw [nI_if hb ha, nI_ite]
  congr 1
  split <;> omega
theorem timeC_eq {S fi fs : Nat → Int32} {t D : Nat} (ht : t ≤ 200) (hD : D ≤ 8000) (hi : ∀ k, k ≤ t → fi k = ivS S k) (hs : ∀ k, k ≤ t → fs k = smS S k) : timeC fi fs (nI t) (nI D) = dnS (ivS S) t D D := by
  unfold timeC
  rw [nI_odd hD, nI_half hD, nI_min (by omega) (by omega), half_eq ht (by omega) (hi t (Nat.le_refl t)) hs, two_mul']
  have hm := rget_nI (f := fi) (k := min (D / 2) t) (by omega)
  rw [hm, hi _ (Nat.min_le_right _ _)]
  rcases Nat.mod_two_eq_zero_or_one D with q | q
  · rw [q, if_pos (show nI 0 = 0 from rfl), Int32.add_zero]
    obtain ⟨h, rfl⟩ : ∃ h, D = 2 * h := ⟨D / 2, by omega⟩
    rw [show 2 * h / 2 = h by omega, dn_even]
  · rw [q, if_neg (show ¬ nI 1 = 0 by decide)]
    obtain ⟨h, rfl⟩ : ∃ h, D = 2 * h + 1 := ⟨D / 2, by omega⟩
    rw [show (2 * h + 1) / 2 = h by omega, dn_odd]
