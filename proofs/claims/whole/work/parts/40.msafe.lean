/-! the model's safe: the greatest index that makes a move miss nothing -/
def sfN (S : Nat → Int32) (tg : Int32) : Nat → Int32
  | 0 => -1000004
  | m + 1 => if goM (upd S 2 (nI m)) tg = 0 then nI m else sfN S tg m
theorem sfN_s (S : Nat → Int32) (tg : Int32) (m : Nat) : sfN S tg (m + 1) = if goM (upd S 2 (nI m)) tg = 0 then nI m else sfN S tg m := rfl
theorem sfN_z (S : Nat → Int32) (tg : Int32) : sfN S tg 0 = -1000004 := rfl
def sfR (S : Nat → Int32) (tg : Int32) : Int32 := if okQ tg then (if rfR S tg = 0 then sfN S tg ((S 2).toInt.toNat + 1) else -1000002) else -1000001
theorem setOk_2 {S : Nat → Int32} {m : Nat} (h : setOk S) (hm : m ≤ 200) : setOk (upd S 2 (nI m)) := by
  obtain ⟨h0, h1, h2, h3⟩ := h
  refine ⟨h0, h1, ?_, h3⟩
  show 0 ≤ (nI m).toInt ∧ (nI m).toInt ≤ 200
  rw [znI (by omega)]
  omega
theorem sf_1 {c : Nat} {j : Int32} (ej : j.toInt = (c : Int) - 1) (h : ¬ j < 0) : ∃ m, c = m + 1 ∧ j = nI m := by
  have h0 := zge h
  have h1 := zp0 h0
  refine ⟨j.toInt.toNat, by omega, zof h1⟩
theorem sf_0 {c : Nat} {j : Int32} (ej : j.toInt = (c : Int) - 1) (h : j < 0) : c = 0 := by
  rw [zlt, show (0 : Int32).toInt = 0 from rfl] at h
  omega
theorem sf_b {m : Nat} (hm : m ≤ 200) : (nI m + -1).toInt = (m : Int) - 1 := by
  have e := znI (n := m) (by omega)
  rw [zadd (by rw [e]; show _ ≤ (m : Int) + -1; omega) (by rw [e]; show (m : Int) + -1 < _; omega), e]
  rfl
