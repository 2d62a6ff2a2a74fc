/-! reads -/
theorem rp_in {S fi : Nat → Int32} {f : Nat → Int32} {n : Int32} (h200 : topS S ≤ 200) (h0 : 0 ≤ n) (h1 : n ≤ nI (topS S)) : rget (fillT f fi (topS S + 1)) n = f n.toInt.toNat := by
  have hz := zp0 h0
  have e := zof hz
  rw [zle, znI (by omega)] at h1
  have hr := rget_nI (f := fillT f fi (topS S + 1)) (k := n.toInt.toNat) (by omega)
  rw [← e] at hr
  rw [hr, fillT_in (by omega)]
theorem rp_pu {S : Nat → Int32} {n : Int32} (h0 : 0 ≤ n) : puS S n.toInt.toNat = puT (S 3) (S 4) n := by
  unfold puS
  rw [← zof (zp0 h0)]
theorem tm_eq {S fi fs : Nat → Int32} {d : Int32} (h200 : topS S ≤ 200) (hd : 0 ≤ d ∧ d ≤ 6000) : timeC (fillT (ivS S) fi (topS S + 1)) (fillT (smS S) fs (topS S + 1)) (nI (topS S)) d = tmR S d := by
  have h0 := zp0 hd.1
  have h1 := hd.2
  rw [zle, show (6000 : Int32).toInt = 6000 from by decide +kernel] at h1
  unfold tmR
  rw [if_pos hd]
  have e := timeC_eq (S := S) (fi := fillT (ivS S) fi (topS S + 1)) (fs := fillT (smS S) fs (topS S + 1)) (t := topS S) (D := d.toInt.toNat) h200 (by omega) (fun k hk => fillT_in (by omega)) (fun k hk => fillT_in (by omega))
  rw [← zof h0] at e
  exact e
theorem bit_y {x : Int32} (h : bit1 x) (h0 : ¬ x = 0) : 1 = x := (h.resolve_left h0).symm
def unX (ps : Nat) (R : Nat → Nat → Int32) (S : Nat → Int32) : Nat → Int32 := if ps = 0 then S else R (ps - 1)
theorem unX_eq {ps : Nat} (h : ps ≤ 4) (R : Nat → Nat → Int32) (S : Nat → Int32) : (if ps = 0 then S else if ps = 1 then R 0 else if ps = 2 then R 1 else if ps = 3 then R 2 else R 3) = unX ps R S := by
  unfold unX
  match ps, h with
  | 0, _ => rfl
  | 1, _ => rfl
  | 2, _ => rfl
  | 3, _ => rfl
  | 4, _ => rfl

