/-! class: the greatest safe index in one pass, and why it is the model's -/
abbrev sfB (S : Nat → Int32) (dir : Int32) (j : Nat) : Prop := S 11 + dir * nI j + dir < -3000 ∨ 3000 < S 11 + dir * nI j + dir
abbrev sfW (S : Nat → Int32) (dir : Int32) (j : Nat) : Int32 := lsum (frS S) (toS S) (wtS S) (S 11 + dir * nI j) (S 18).toInt.toNat
abbrev sfY (S : Nat → Int32) (dir : Int32) (D t j : Nat) : Prop := ¬ sfB S dir j ∧ sfW S dir j ≤ puS S (ix t j D)
theorem sf_nm {S : Nat → Int32} {t D : Nat} {dir : Int32} : ∀ n, (∀ j, j < n → sfY S dir D t j) → ∀ j, j < n → ¬ gMs S t D dir j
  | 0, _ => fun j hj => absurd hj (Nat.not_lt_zero j)
  | n + 1, h => fun j hj => by
    have ih := sf_nm n (fun i hi => h i (Nat.lt_succ_of_lt hi))
    rcases Nat.lt_or_ge j n with q | q
    · exact ih j q
    · have e : j = n := by omega
      subst e
      exact fm_no (nomiss j ih).2.2 (h j hj).1 (h j hj).2
theorem sf_ok {S : Nat → Int32} {t D : Nat} {dir : Int32} (h : ∀ j, j < D → sfY S dir D t j) : gmis S t D dir D = 0 := (nomiss D (sf_nm D h)).1
theorem sf_least {P : Nat → Prop} (i : Nat) : ¬ P i → ∃ k, k ≤ i ∧ ¬ P k ∧ ∀ j, j < k → P j := by
  induction i using Nat.strongRecOn with
  | ind i ih =>
    intro h
    by_cases q : ∀ j, j < i → P j
    · exact ⟨i, Nat.le_refl i, h, q⟩
    · have hx : ∃ j, j < i ∧ ¬ P j := Classical.byContradiction (fun z => q (fun j hj => Classical.byContradiction (fun w => z ⟨j, hj, w⟩)))
      obtain ⟨j, hj, hw⟩ := hx
      obtain ⟨k, h1, h2, h3⟩ := ih j hj hw
      exact ⟨k, by omega, h2, h3⟩
theorem sf_bad {S : Nat → Int32} {t D i : Nat} {dir : Int32} (hD : D ≤ 8000) (hi : i < D) (hn : ¬ sfY S dir D t i) : ¬ gmis S t D dir D = 0 := by
  obtain ⟨k, hk, h1, h2⟩ := sf_least (P := sfY S dir D t) i hn
  have h0 := sf_nm k h2
  have e := (nomiss k h0).2.2
  have hy : gMs S t D dir k := by
    by_cases b : sfB S dir k
    · exact fm_yb e b
    · exact fm_yw e (znle (fun w => h1 ⟨b, w⟩))
  obtain ⟨m, hm⟩ : ∃ m, D = k + 1 + m := ⟨D - (k + 1), by omega⟩
  obtain ⟨c, x1, x2, _⟩ := miss_at h0 hy m
  rw [← hm] at x1
  rw [x1]
  exact ne_s (by omega)
theorem rmp_2 (S : Nat → Int32) (v : Int32) : ∀ k, rmp (upd S 2 v) k = rmp S k
  | 0 => rfl
  | k + 1 => by
    unfold rmp
    rw [rmp_2 S v k]
    rfl
theorem ivS_2 (S : Nat → Int32) (v : Int32) : ivS (upd S 2 v) = ivS S := by funext k; unfold ivS; rw [rmp_2]
theorem topN_2 (S : Nat → Int32) (v : Int32) : ∀ m, topN (upd S 2 v) m = topN S m
  | 0 => rfl
  | m + 1 => by
    unfold topN
    rw [topN_2 S v m, ivS_2]
    rfl
theorem topN_stop {S : Nat → Int32} : ∀ m, topN S m = m ∨ ¬ S 1 < ivS S (topN S m)
  | 0 => Or.inl rfl
  | m + 1 => by
    have ih := topN_stop (S := S) m
    unfold topN
    by_cases h : topN S m < m
    · rw [if_pos h]; exact Or.inr (ih.resolve_left (by omega))
    · rw [if_neg h]
      by_cases q : S 1 < ivS S m
      · rw [if_pos q]; exact Or.inl rfl
      · rw [if_neg q]; exact Or.inr q
theorem topN_min {S : Nat → Int32} {m M : Nat} (h : m ≤ M) : topN S m = min m (topN S M) := by
  rcases Nat.lt_or_ge m (topN S M) with q | q
  · rw [Nat.min_eq_left (Nat.le_of_lt q)]
    exact topN_eq (Nat.le_refl m) (fun j hj => topN_all (Nat.lt_trans hj q)) (Or.inl rfl)
  · rw [Nat.min_eq_right q]
    refine topN_eq q (fun j hj => topN_all hj) ?_
    rcases topN_stop (S := S) M with e | e
    · left
      have := topN_le S M
      omega
    · exact Or.inr e
theorem frS_2 (S : Nat → Int32) (v : Int32) : frS (upd S 2 v) = frS S := by funext k; unfold frS; exact upd_ne (by omega)
theorem toS_2 (S : Nat → Int32) (v : Int32) : toS (upd S 2 v) = toS S := by funext k; unfold toS; exact upd_ne (by omega)
theorem wtS_2 (S : Nat → Int32) (v : Int32) : wtS (upd S 2 v) = wtS S := by funext k; unfold wtS; exact upd_ne (by omega)
theorem sfY_2 (S : Nat → Int32) (v dir : Int32) (D t j : Nat) : sfY (upd S 2 v) dir D t j ↔ sfY S dir D t j := by
  show (¬ sfB S dir j ∧ lsum (frS (upd S 2 v)) (toS (upd S 2 v)) (wtS (upd S 2 v)) (S 11 + dir * nI j) (S 18).toInt.toNat ≤ puS S (ix t j D)) ↔ _
  rw [frS_2, toS_2, wtS_2]
theorem sf_go {S : Nat → Int32} {tg : Int32} {m : Nat} (hm : m ≤ (S 2).toInt.toNat) (h200 : (S 2).toInt.toNat ≤ 200) (hD : gD S tg ≤ 8000) : goM (upd S 2 (nI m)) tg = 0 ↔ ∀ j, j < gD S tg → sfY S (gDir S tg) (gD S tg) (min m (topS S)) j := by
  have et : topS (upd S 2 (nI m)) = min m (topS S) := by
    show topN (upd S 2 (nI m)) (nI m).toInt.toNat = _
    rw [znI (by omega), Int.toNat_natCast, topN_2]
    exact topN_min hm
  show gmis (upd S 2 (nI m)) (topS (upd S 2 (nI m))) (gD S tg) (gDir S tg) (gD S tg) = 0 ↔ _
  rw [et]
  constructor
  · intro h j hj
    exact Classical.byContradiction (fun q => sf_bad hD hj (fun w => q ((sfY_2 _ _ _ _ _ _).mp w)) h)
  · intro h
    exact sf_ok (fun j hj => (sfY_2 _ _ _ _ _ _).mpr (h j hj))
theorem sfN_at {S : Nat → Int32} {tg : Int32} {m : Nat} (h : goM (upd S 2 (nI m)) tg = 0) : ∀ d, (∀ k, m < k → k ≤ m + d → ¬ goM (upd S 2 (nI k)) tg = 0) → sfN S tg (m + d + 1) = nI m
  | 0, _ => by rw [sfN_s]; exact if_pos h
  | d + 1, h2 => by
    rw [show m + (d + 1) + 1 = (m + d + 1) + 1 from rfl, sfN_s, if_neg (h2 (m + d + 1) (by omega) (by omega))]
    exact sfN_at h d (fun k a b => h2 k a (by omega))
theorem sfN_none {S : Nat → Int32} {tg : Int32} : ∀ M, (∀ k, k < M → ¬ goM (upd S 2 (nI k)) tg = 0) → sfN S tg M = -1000004
  | 0, _ => rfl
  | M + 1, h => by
    rw [sfN_s, if_neg (h M (Nat.lt_succ_self M))]
    exact sfN_none M (fun k hk => h k (Nat.lt_succ_of_lt hk))
theorem sf_fin {S : Nat → Int32} {tg : Int32} {a : Nat} (h2 : 0 ≤ (S 2).toInt ∧ (S 2).toInt ≤ 200) (hD : gD S tg ≤ 8000) (hA : a ≤ topS S) (hY : ∀ j, j < gD S tg → sfY S (gDir S tg) (gD S tg) a j) (hN : ∀ m, a < m → m ≤ topS S → ∃ j, j < gD S tg ∧ ¬ sfY S (gDir S tg) (gD S tg) m j) : sfN S tg ((S 2).toInt.toNat + 1) = if a = topS S then S 2 else nI a := by
  have ht : topS S ≤ (S 2).toInt.toNat := topN_le S _
  by_cases e : a = topS S
  · rw [if_pos e, sfN_s, if_pos ((sf_go (Nat.le_refl _) (by omega) hD).mpr (by rw [Nat.min_eq_right ht, ← e]; exact hY))]
    exact (zof h2.1).symm
  · rw [if_neg e]
    obtain ⟨d, hd⟩ : ∃ d, (S 2).toInt.toNat = a + d := ⟨(S 2).toInt.toNat - a, by omega⟩
    rw [hd]
    refine sfN_at ((sf_go (by omega) (by omega) hD).mpr (by rw [Nat.min_eq_left hA]; exact hY)) d (fun k k1 k2 h => ?_)
    obtain ⟨j, hj, hn⟩ := hN (min k (topS S)) (by omega) (Nat.min_le_right _ _)
    exact hn ((sf_go (by omega) (by omega) hD).mp h j hj)
theorem sf_no {S : Nat → Int32} {tg : Int32} (h2 : 0 ≤ (S 2).toInt ∧ (S 2).toInt ≤ 200) (hD : gD S tg ≤ 8000) (hN : ∀ m, m ≤ topS S → ∃ j, j < gD S tg ∧ ¬ sfY S (gDir S tg) (gD S tg) m j) : sfN S tg ((S 2).toInt.toNat + 1) = -1000004 := by
  refine sfN_none _ (fun k hk h => ?_)
  obtain ⟨j, hj, hn⟩ := hN (min k (topS S)) (Nat.min_le_right _ _)
  exact hn ((sf_go (by omega) (by omega) hD).mp h j hj)
theorem sf_ref {S : Nat → Int32} {tg : Int32} (h : ¬ rfR S tg = 0) : rfR S tg = sfR S tg := by
  unfold sfR
  by_cases q : okQ tg
  · rw [if_pos q, if_neg h]
    exact rf_np q h
  · rw [if_neg q]
    exact if_neg q
theorem sf_eq {S : Nat → Int32} {tg : Int32} (h : rfR S tg = 0) : sfR S tg = sfN S tg ((S 2).toInt.toNat + 1) := by
  unfold sfR
  rw [if_pos (rf_ok h), if_pos h]
theorem puS_int {S : Nat → Int32} (h : setOk S) {n : Nat} (hn : n ≤ 200) : (puS S n).toInt = max 0 ((S 3).toInt - ((n * (S 4).toInt.toNat / 16 : Nat) : Int)) := by
  have h3 := h.2.2.2.1
  have h4 := h.2.2.2.2.1
  obtain ⟨L, hL⟩ : ∃ L, L = (S 4).toInt.toNat := ⟨_, rfl⟩
  have e4 : S 4 = nI L := by rw [hL]; exact zof h4.1
  have hL2 : L ≤ 100 := by omega
  have hm : n * L ≤ 200 * 100 := Nat.mul_le_mul hn hL2
  have hd : n * L / 16 ≤ 1250 := by omega
  have e : (S 3 - nI n * S 4 / 16).toInt = (S 3).toInt - ((n * L / 16 : Nat) : Int) := by
    have em : nI n * S 4 / 16 = nI (n * L / 16) := by
      rw [e4, pk_mul, show (16 : Int32) = nI 16 from rfl, pk_div (by omega) (by omega) (by omega)]
    rw [em, zsub (by rw [znI (by omega)]; omega) (by rw [znI (by omega)]; omega), znI (by omega)]
  rw [← hL]
  unfold puS puT
  by_cases q : S 3 - nI n * S 4 / 16 < 0
  · rw [if_pos q]
    rw [zlt, e, i0] at q
    rw [i0]
    omega
  · rw [if_neg q]
    rw [zlt, e, i0] at q
    rw [e]
    omega
theorem puS_anti {S : Nat → Int32} (h : setOk S) {a b : Nat} (hab : b ≤ a) (ha : a ≤ 200) : puS S a ≤ puS S b := by
  rw [zle, puS_int h ha, puS_int h (Nat.le_trans hab ha)]
  have := Nat.div_le_div_right (c := 16) (Nat.mul_le_mul_right (S 4).toInt.toNat hab)
  omega
theorem gpN_hit {S : Nat → Int32} {w : Int32} : ∀ {c b : Nat}, gpN S w c = b + 1 → w ≤ puS S b ∧ b < c
  | 0, b, h => by rw [gpN_z] at h; omega
  | c + 1, b, h => by
    rw [gpN_s] at h
    by_cases q : w ≤ puS S c
    · rw [if_pos q] at h
      have e : c = b := by omega
      subst e
      exact ⟨q, by omega⟩
    · rw [if_neg q] at h
      have := gpN_hit h
      exact ⟨this.1, by omega⟩
theorem gpN_miss {S : Nat → Int32} {w : Int32} : ∀ {c m : Nat}, gpN S w c ≤ m → m < c → ¬ w ≤ puS S m
  | 0, m, _, h => absurd h (Nat.not_lt_zero m)
  | c + 1, m, h1, h2 => by
    rw [gpN_s] at h1
    by_cases q : w ≤ puS S c
    · rw [if_pos q] at h1
      omega
    · rw [if_neg q] at h1
      rcases Nat.lt_or_ge m c with x | x
      · exact gpN_miss h1 x
      · have e : m = c := by omega
        subst e
        exact q
/-- one more step that is missed: what is left of the indexes -/
theorem sf_new {S : Nat → Int32} {dir : Int32} {D a k b : Nat} (hok : setOk S) (hb : ¬ sfB S dir k) (hA : a ≤ topS S) (hY : ∀ j, j < k → sfY S dir D a j) (hN : ∀ m, a < m → m ≤ topS S → ∃ j, j < k ∧ ¬ sfY S dir D m j) (hno : ¬ sfW S dir k ≤ puS S (ix a k D)) (eb : gpN S (sfW S dir k) (ix a k D) = b + 1) : b ≤ topS S ∧ (∀ j, j < k + 1 → sfY S dir D b j) ∧ (∀ m, b < m → m ≤ topS S → ∃ j, j < k + 1 ∧ ¬ sfY S dir D m j) := by
  have h200 := topS_le hok
  obtain ⟨h1, h2⟩ := gpN_hit eb
  have hix : ix a k D ≤ a := ix_le _ _ _
  refine ⟨by omega, fun j hj => ?_, fun m m1 m2 => ?_⟩
  · rcases Nat.lt_or_ge j k with q | q
    · refine ⟨(hY j q).1, ?_⟩
      have x1 := (hY j q).2
      have x2 : puS S (ix a j D) ≤ puS S (ix b j D) := puS_anti hok (by unfold ix at *; omega) (by have := ix_le a j D; omega)
      rw [zle] at *
      omega
    · have e : j = k := by omega
      subst e
      refine ⟨hb, ?_⟩
      rw [show ix b j D = b by unfold ix at *; omega]
      exact h1
  · rcases Nat.lt_or_ge a m with q | q
    · obtain ⟨j, x1, x2⟩ := hN m q m2
      exact ⟨j, by omega, x2⟩
    · refine ⟨k, by omega, fun y => ?_⟩
      rcases Nat.lt_or_ge m (ix a k D) with z | z
      · have e : ix m k D = m := by unfold ix at *; omega
        have y2 := y.2
        rw [e] at y2
        exact gpN_miss (by rw [eb]; omega) z y2
      · have e : ix m k D = ix a k D := by unfold ix at *; omega
        have y2 := y.2
        rw [e] at y2
        exact hno y2
theorem sf_gone {S : Nat → Int32} {dir : Int32} {D a k : Nat} (hN : ∀ m, a < m → m ≤ topS S → ∃ j, j < k ∧ ¬ sfY S dir D m j) (hkD : k < D) (hno : ¬ sfW S dir k ≤ puS S (ix a k D)) (eb : gpN S (sfW S dir k) (ix a k D) = 0) : ∀ m, m ≤ topS S → ∃ j, j < D ∧ ¬ sfY S dir D m j := by
  intro m m2
  rcases Nat.lt_or_ge a m with q | q
  · obtain ⟨j, x1, x2⟩ := hN m q m2
    exact ⟨j, by omega, x2⟩
  · refine ⟨k, hkD, fun y => ?_⟩
    rcases Nat.lt_or_ge m (ix a k D) with z | z
    · have e : ix m k D = m := by unfold ix at *; omega
      have y2 := y.2
      rw [e] at y2
      exact gpN_miss (by rw [eb]; omega) z y2
    · have e : ix m k D = ix a k D := by unfold ix at *; omega
      have y2 := y.2
      rw [e] at y2
      exact hno y2
theorem sf_keep {S : Nat → Int32} {dir : Int32} {D a k : Nat} (hb : ¬ sfB S dir k) (hY : ∀ j, j < k → sfY S dir D a j) (hN : ∀ m, a < m → m ≤ topS S → ∃ j, j < k ∧ ¬ sfY S dir D m j) (hy : sfW S dir k ≤ puS S (ix a k D)) : (∀ j, j < k + 1 → sfY S dir D a j) ∧ (∀ m, a < m → m ≤ topS S → ∃ j, j < k + 1 ∧ ¬ sfY S dir D m j) := by
  refine ⟨fun j hj => ?_, fun m m1 m2 => ?_⟩
  · rcases Nat.lt_or_ge j k with q | q
    · exact hY j q
    · have e : j = k := by omega
      subst e
      exact ⟨hb, hy⟩
  · obtain ⟨j, x1, x2⟩ := hN m m1 m2
    exact ⟨j, by omega, x2⟩
theorem sf_idx {t a k D : Nat} (hA : a ≤ t) (ht : t ≤ 200) : (if nI (ix t k D) < nI a then nI (ix t k D) else nI a) = nI (ix a k D) := by
  have h1 := ix_le t k D
  rw [nI_min (by omega) (by omega)]
  congr 1
  unfold ix
  omega
