/-! the law: an act -/
theorem kpn_le {ps : Nat} (h : ps ≤ 4) : kpn ps ≤ 4 := by
  unfold kpn
  split <;> omega
theorem kp_le {C : Prop} [Decidable C] {ps : Nat} (h : ps ≤ 4) : (if C then kpn ps else ps) ≤ 4 := by
  by_cases q : C
  · rw [if_pos q]; exact kpn_le h
  · rw [if_neg q]; exact h
theorem kpR_ok {P : (Nat → Int32) → Prop} {ps : Nat} (h : ps ≤ 4) {R : Nat → Nat → Int32} {S : Nat → Int32} (hS : P S) (hR : ∀ k, k < ps → P (R k)) : ∀ k, k < kpn ps → P (kpR ps R S k) := by
  intro k hk
  unfold kpn at hk
  unfold kpR
  by_cases e : ps = 4
  · rw [if_pos e] at hk
    rw [if_pos e]
    by_cases z : k = 3
    · rw [if_pos z]; exact hS
    · rw [if_neg z]; exact hR (k + 1) (by omega)
  · rw [if_neg e] at hk
    rw [if_neg e]
    by_cases z : k = ps
    · rw [if_pos z]; exact hS
    · rw [if_neg z]; exact hR k (by omega)
theorem kp_R {C : Prop} [Decidable C] {ps : Nat} (h : ps ≤ 4) {R : Nat → Nat → Int32} {S : Nat → Int32} (hS : Kv S) (hR : ∀ k, k < ps → Kv (R k)) : ∀ k, k < (if C then kpn ps else ps) → Kv ((if C then kpR ps R S else R) k) := by
  by_cases q : C
  · rw [if_pos q, if_pos q]; exact kpR_ok h hS hR
  · rw [if_neg q, if_neg q]; exact hR
theorem getT_up {S : Nat → Int32} {K : Nat} {v : Int32} (h : K < 8) : getT (upd S K v) = getT S := by
  unfold getT
  rw [upd_ne (by omega), upd_ne (by omega), upd_ne (by omega), upd_ne (by omega), upd_ne (by omega), upd_ne (by omega)]
theorem Xv_set {S : Nat → Int32} {B K : Nat} {v : Int32} (h : Xv B S) (hK : K < 8) (h2 : K = 2 → v.toInt ≤ 60) : Xv B (upd S K v) := by
  refine Xv_of h ?_ (getT_up hK)
  by_cases e : K = 2
  · subst e
    exact h2 rfl
  · rw [upd_ne (fun z => e z.symm)]
    exact h.1
theorem getT_ad (S : Nat → Int32) (p q w : Int32) : getT (adS S p q w) = getT S := by
  unfold getT
  rw [adS_lo (by decide), adS_lo (by decide), adS_lo (by decide), adS_lo (by decide), adS_lo (by decide), adS_lo (by decide)]
theorem getT_dr (S : Nat → Int32) (J : Nat) : getT (drS S J) = getT S := by
  unfold getT
  rw [drS_lo (by decide), drS_lo (by decide), drS_lo (by decide), drS_lo (by decide), drS_lo (by decide), drS_lo (by decide)]
theorem gS_ad {S : Nat → Int32} {p q w : Int32} (k : Nat) (hk : k < 19) : upd S 18 (S 18 + 1) k = adS S p q w k := by
  by_cases h : k = 18
  · subst h; rfl
  · rw [upd_ne h, adS_lo (by omega)]
theorem gS_dr {S : Nat → Int32} {J : Nat} (k : Nat) (hk : k < 19) : upd S 18 (S 18 - 1) k = drS S J k := by
  by_cases h : k = 18
  · subst h; rfl
  · rw [upd_ne h, drS_lo (by omega)]
theorem mS_ad {S : Nat → Int32} {p q w : Int32} (h6 : (S 18).toInt < 6) (k : Nat) : mS S k = mS (adS S p q w) k := (adS_hi h6 (by omega)).symm
theorem mS_dr {S : Nat → Int32} {J : Nat} (hl : (S 18).toInt ≤ 6) (k : Nat) : mS S k = mS (drS S J) k := (drS_hi hl (by omega)).symm
theorem mS_fg {S : Nat → Int32} (k : Nat) : upd (mS S) 0 0 k = mS (upd S 37 0) k := by
  unfold mS upd
  by_cases h : k = 0
  · rw [if_pos h, if_pos (by omega)]
  · rw [if_neg h, if_neg (by omega)]
def AC (pg : Program) (sx : State) (mi : MethodId) (args : Array Value) (meth : Method) (cd : Code) (A : Nat → Prop) (g : G3) : Prop :=
  pg.tables.exec = Jvm.exec ∧ cd.code = cL_acts ∧ meth.sig.returnType = some .boolean ∧ cd.maxLocals = 13 ∧ sx.vm.findClass yL_acts.cls = some mi.cls ∧ (∀ w ∈ wsL_acts, w.before args sx = true) ∧ meth.locks = false ∧ (∀ q : Nat, sx.heap.size ≤ q → A q) ∧ EE A sx sx.heap ∧ va_K g.1 vwCl (TY g) sx
