/-! the law: what both sides share, and how it is kept -/
theorem psF_n {ps : Nat} (h : ps ≤ 4) : psF 0 (nI ps) = nI (kpn ps) := by
  unfold psF kpn
  rw [if_pos rfl]
  by_cases e : ps = 4
  · rw [if_pos (show nI ps = 4 by rw [e]; rfl), if_pos e]
    rfl
  · rw [if_neg (show ¬ nI ps = 4 from fun z => e ((nI_eq (by omega) (by decide)).mp z)), if_neg e]
    exact nI_1 ps
theorem kp_ps {C : Prop} [Decidable C] {ps : Nat} (h : ps ≤ 4) : (if C then psF 0 (nI ps) else nI ps) = nI (if C then kpn ps else ps) := by
  by_cases q : C
  · rw [if_pos q, if_pos q, psF_n h]
  · rw [if_neg q, if_neg q]
theorem kpn_le {ps : Nat} (h : ps ≤ 4) : kpn ps ≤ 4 := by
  unfold kpn
  split <;> omega
theorem kp_le {C : Prop} [Decidable C] {ps : Nat} (h : ps ≤ 4) : (if C then kpn ps else ps) ≤ 4 := by
  by_cases q : C
  · rw [if_pos q]; exact kpn_le h
  · rw [if_neg q]; exact h
theorem kpR_ok {P : (Nat → Int32) → Prop} {ps : Nat} (h : ps ≤ 4) {R : Nat → Nat → Int32} {S : Nat → Int32} (hS : P S) (hR : ∀ k, k < ps → P (R k)) : ∀ k, k < kpn ps → P (kpR ps R S k) := by
  intro k hk
  unfold kpn at hk
  unfold kpR
  by_cases e : ps = 4
  · rw [if_pos e] at hk
    rw [if_pos e]
    by_cases z : k = 3
    · rw [if_pos z]; exact hS
    · rw [if_neg z]; exact hR (k + 1) (by omega)
  · rw [if_neg e] at hk
    rw [if_neg e]
    by_cases z : k = ps
    · rw [if_pos z]; exact hS
    · rw [if_neg z]; exact hR k (by omega)
theorem kp_R {C : Prop} [Decidable C] {ps : Nat} (h : ps ≤ 4) {R : Nat → Nat → Int32} {S : Nat → Int32} (hS : Kv S) (hR : ∀ k, k < ps → Kv (R k)) : ∀ k, k < (if C then kpn ps else ps) → Kv ((if C then kpR ps R S else R) k) := by
  by_cases q : C
  · rw [if_pos q, if_pos q]; exact kpR_ok h hS hR
  · rw [if_neg q, if_neg q]; exact hR
theorem kpn_pf {ps : Nat} (h : ps ≤ 4) {R : Nat → Nat → Int32} {S pf : Nat → Int32} (hp : ∀ k, k < ps → ∀ q, q < 63 → rwF pf k q = R k q) : ∀ k, k < kpn ps → ∀ q, q < 63 → rwF (pfF 0 (nI ps) pf S) k q = kpR ps R S k q := by
  intro k hk q hq
  unfold kpn at hk
  unfold kpR pfF rwF
  rw [if_pos rfl]
  by_cases e : ps = 4
  · rw [if_pos e] at hk
    rw [if_pos e, if_pos (show nI ps = 4 by rw [e]; rfl)]
    unfold puF
    by_cases z : k = 3
    · rw [if_pos z, if_pos (by omega)]
      exact congrArg S (by omega)
    · rw [if_neg z, if_neg (by omega)]
      unfold shF
      rw [if_pos (by omega)]
      have := hp (k + 1) (by omega) q hq
      unfold rwF at this
      rw [← this]
      exact congrArg pf (by omega)
  · rw [if_neg e] at hk
    rw [if_neg e, if_neg (show ¬ nI ps = 4 from fun z => e ((nI_eq (by omega) (by decide)).mp z)), znI (by omega), Int.toNat_natCast]
    unfold puF
    by_cases z : k = ps
    · rw [if_pos z, if_pos (by omega)]
      exact congrArg S (by omega)
    · rw [if_neg z, if_neg (by omega)]
      exact hp k (by omega) q hq
theorem kp_pf {C : Prop} [Decidable C] {ps : Nat} (h : ps ≤ 4) {R : Nat → Nat → Int32} {S pf : Nat → Int32} (hp : ∀ k, k < ps → ∀ q, q < 63 → rwF pf k q = R k q) : ∀ k, k < (if C then kpn ps else ps) → ∀ q, q < 63 → rwF (if C then pfF 0 (nI ps) pf S else pf) k q = (if C then kpR ps R S else R) k q := by
  by_cases z : C
  · rw [if_pos z, if_pos z, if_pos z]; exact kpn_pf h hp
  · rw [if_neg z, if_neg z, if_neg z]; exact hp
theorem ps_int {ps : Nat} (h : ps ≤ 4) : 0 ≤ (nI ps).toInt ∧ (nI ps).toInt ≤ 4 := by
  rw [znI (by omega)]
  omega
theorem ps_0 {ps : Nat} (h : ps ≤ 4) : nI ps = 0 ↔ ps = 0 := nI_eq (by omega) (by decide)
theorem un_r {ps : Nat} (h : ps ≤ 4) : (if ps = 0 then -1000002 else nI (ps - 1)) = (if nI ps = 0 then -1000002 else nI ps - 1) := by
  by_cases e : ps = 0
  · rw [if_pos e, if_pos ((ps_0 h).mpr e)]
  · rw [if_neg e, if_neg (fun z => e ((ps_0 h).mp z)), nI_m1 (by omega)]
theorem un_ps {ps : Nat} (h : ps ≤ 4) : (if nI ps = 0 then nI ps else nI ps - 1) = nI (ps - 1) := by
  by_cases e : ps = 0
  · rw [if_pos ((ps_0 h).mpr e), e]
  · rw [if_neg (fun z => e ((ps_0 h).mp z)), nI_m1 (by omega)]
theorem un_S {ps : Nat} (h : ps ≤ 4) {R : Nat → Nat → Int32} {S pf : Nat → Int32} (hp : ∀ k, k < ps → ∀ q, q < 63 → rwF pf k q = R k q) : ∀ k, k < 63 → (if nI ps = 0 then S else unS S pf (nI ps)) k = unX ps R S k := by
  intro k hk
  unfold unX
  by_cases e : ps = 0
  · rw [if_pos ((ps_0 h).mpr e), if_pos e]
  · rw [if_neg (fun z => e ((ps_0 h).mp z)), if_neg e]
    unfold unS
    rw [fillT_in hk, znI (by omega), Int.toNat_natCast]
    exact hp (ps - 1) (by omega) k hk
theorem un_K {ps : Nat} {R : Nat → Nat → Int32} {S : Nat → Int32} (hJ : Kv S) (hR : ∀ k, k < ps → Kv (R k)) : Kv (unX ps R S) := by
  unfold unX
  by_cases e : ps = 0
  · rw [if_pos e]; exact hJ
  · rw [if_neg e]; exact hR (ps - 1) (by omega)
theorem ap_le {n : Nat} {c : Int32} (h : n ≤ 60) : (if apP n c then n + 1 else n) ≤ 60 := by
  by_cases z : apP n c
  · rw [if_pos z]; exact z.2
  · rw [if_neg z]; exact h
theorem ft_ca {S tx : Nat → Int32} {n : Nat} {c w : Int32} : ftR S tx n 0 w = ftR S tx n c w := by
  unfold ftR
  rcases Nat.eq_zero_or_pos n with z | z
  · subst z
    rw [pl_0, pl_0, if_pos rfl, if_pos rfl]
  · rw [pl_any (ca := c) z]
theorem pl_S {S tx : Nat → Int32} {n : Nat} {c : Int32} : (if (plR S tx n c).2.2.2 = -1000004 then (plR S tx n c).1 else S) = (if (plR S tx n 0).2.2.2 = -1000004 then (plR S tx n 0).1 else S) := by
  rw [(plR_ca S tx n c 0).2.2, (plR_ca S tx n c 0).1]
theorem pl_ps {S tx : Nat → Int32} {n ps : Nat} {c : Int32} (h : ps ≤ 4) : (if (plR S tx n c).2.2.2 = -1000004 then psF 0 (nI ps) else nI ps) = nI (if (plR S tx n 0).2.2.2 = -1000004 then kpn ps else ps) := by
  rw [(plR_ca S tx n c 0).2.2]
  exact kp_ps h
theorem pl_pf {S tx : Nat → Int32} {n ps : Nat} {pf : Nat → Int32} {c : Int32} : (if (plR S tx n c).2.2.2 = -1000004 then pfF 0 (nI ps) pf S else pf) = (if (plR S tx n 0).2.2.2 = -1000004 then pfF 0 (nI ps) pf S else pf) := by
  rw [(plR_ca S tx n c 0).2.2]
theorem Kv_if {C : Prop} [Decidable C] {S f : Nat → Int32} (h : C → Kv f) (hS : Kv S) : Kv (if C then f else S) := by
  by_cases z : C
  · rw [if_pos z]; exact h z
  · rw [if_neg z]; exact hS
section ZLAW
variable {p : Program} {l : Launch} {e : Env} {R : Room} {s : State} {m : MethodId} {args : Array Value} {below : List Frame} {meth : Method} {c : Code} {H H0 : Heap} {locs : List Loc} {cells slots : Nat} {Q : State → Prop} {cc : ByteArray} {pc : Nat} {ls : Array Slot} {rest : List Value} {A : Nat → Prop}
theorem zsld (k : Nat) (hx : p.tables.exec = Jvm.exec) (hb : c.code = cc) {b L : Nat} {xs : Nat → Int32} (hX : va_X b L xs s H0) (hbl : b < H0.size) (hbA : ¬ A b) (hS : va_S A H0 H locs) {i : Int32} (hin : IX i k L) (hdg : decode cc pc = .ok (.iaload, 1))
    (kk : W p l e R s m args below meth c H locs cells slots Q (F0 m (pc + 1) ls (.int (xs k) :: rest))) : W p l e R s m args below meth c H locs cells slots Q (F0 m pc ls (.int i :: .ref b :: rest)) := by
  obtain ⟨h1, rfl⟩ := hin
  exact va_sld hx hb hX hbl hbA hS h1 hdg kk
end ZLAW
def LC (pg : Program) (sx : State) (mi : MethodId) (args : Array Value) (cd : Code) (A : Nat → Prop) (g : G3) (bz L : Nat) (xs : Nat → Int32) : Prop := pg.tables.exec = Jvm.exec ∧ cd.code = cL_law ∧ cd.maxLocals = 4 ∧ sx.vm.findClass RL = some mi.cls ∧ (∀ w ∈ wsL_law, w.before args sx = true) ∧ (∀ q : Nat, sx.heap.size ≤ q → A q) ∧ EE A sx sx.heap ∧ va_K g.1 vwCl (TY g) sx ∧ va_X bz L xs sx sx.heap ∧ bz < sx.heap.size ∧ ¬ A bz ∧ L ≤ 2048
theorem lp_4 {L j : Nat} (hL : L ≤ 2048) (hj : j ≤ 4096) (h : ¬ Int32.ofNat L - 4 < nI j) : j + 4 ≤ L := by
  have e := zsub (a := nI L) (b := 4) (by rw [znI (by omega), i4]; omega) (by rw [znI (by omega), i4]; omega)
  have h2 : ¬ (nI L - 4).toInt < (nI j).toInt := fun z => h ((zlt _ _).mpr z)
  rw [e, znI (by omega), znI (by omega), i4] at h2
  omega
def LI (j ps n : Nat) (S pf : Nat → Int32) (R : Nat → Nat → Int32) : Prop := j ≤ 4096 ∧ ps ≤ 4 ∧ n ≤ 60 ∧ Kv S ∧ (∀ k, k < ps → Kv (R k)) ∧ (∀ k, k < ps → ∀ q, q < 63 → rwF pf k q = R k q)
def LH (l : Launch) (g : G3) (pg : Program) (ev : Env) (sx : State) (mi : MethodId) (args : Array Value) (below : List Frame) (meth : Method) (cd : Code) (A : Nat → Prop) (Q : State → Prop) (bz L : Nat) (xs : Nat → Int32) (x0 e0 f0 g0 a0 a1 a2 a3 a4 a5 a6 a7 t0 t1 t2 t3 t4 t5 t6 t7 h0 h1 f1 b0 b1 b2 b3 b4 m0 m1 m2 m3 m4 m5 m6 m7 m8 : Nat) (fu : Nat) : Prop := ∀ (j : Nat) (ad : Nat → Nat) (R : Nat → Nat → Int32) (ps : Nat) (S : Nat → Int32) (T : Nat → Int32) (n : Nat) (p : Nat) (kd : Int32) (se : Int32) (nu : Int32) (tx : Nat → Int32) (dn : Int32) (po : Int32) (rs : Int32) (ca : Int32) (la : Int32) (fi : Nat → Int32) (fq : Nat → Int32) (fp : Nat → Int32) (fs : Nat → Int32) (yla : Int32) (ymn : Int32) (yma : Int32) (ysn : Int32) (yso : Int32) (yca : Int32) (ycm : Int32) (ykd : Int32) (pf : Nat → Int32) (yhf : Nat → Int32) (ytf : Nat → Int32) (yfi : Nat → Int32) (yfq : Nat → Int32) (ynf : Nat → Int32), LI j ps n S pf R → L + 4 - j < fu → ∀ (H : Heap) (locs : List Loc), va_P g.1 vwCl [(x0, oB 8 [.ref a0, .ref t0, .ref h0, .ref e0, .ref f0, .ref g0]), (g0, oB 5 [.int dn, .int po, .int rs, .int ca]), (f0, oB 6 [.ref f1, .int (nI n), .int (nI p), .int kd, .int se, .int nu]), (f1, aC g 60 tx), (e0, oB 0 [.ref b0]), (b0, oB 4 [.ref b1, .ref b2, .ref b3, .ref b4, .int la]), (b1, aI g 201 fi), (b2, aI g 201 fq), (b3, aI g 201 fp), (b4, aI g 201 fs), (h0, oB 1 [.ref h1, .int (nI ps)]), (h1, aQ g 4 (rw4 (ad 0) (ad 8) (ad 16) (ad 24))), (ad 0, oB 7 [.ref (ad 1), .ref (ad 2), .ref (ad 6), .int ((R 0) 8), .int ((R 0) 9), .int ((R 0) 10), .int ((R 0) 11), .int ((R 0) 12), .int ((R 0) 13), .int ((R 0) 14), .int ((R 0) 15), .int ((R 0) 16), .int ((R 0) 17)]), (ad 1, aI g 8 (R 0)), (ad 2, oB 2 [.ref (ad 3), .ref (ad 4), .ref (ad 5), .int ((R 0) 18)]), (ad 3, aI g 6 (frS (R 0))), (ad 4, aI g 6 (toS (R 0))), (ad 5, aI g 6 (wtS (R 0))), (ad 6, oB 3 [.ref (ad 7), .int ((R 0) 37)]), (ad 7, aI g 25 (mvS (R 0))), (ad 8, oB 7 [.ref (ad 9), .ref (ad 10), .ref (ad 14), .int ((R 1) 8), .int ((R 1) 9), .int ((R 1) 10), .int ((R 1) 11), .int ((R 1) 12), .int ((R 1) 13), .int ((R 1) 14), .int ((R 1) 15), .int ((R 1) 16), .int ((R 1) 17)]), (ad 9, aI g 8 (R 1)), (ad 10, oB 2 [.ref (ad 11), .ref (ad 12), .ref (ad 13), .int ((R 1) 18)]), (ad 11, aI g 6 (frS (R 1))), (ad 12, aI g 6 (toS (R 1))), (ad 13, aI g 6 (wtS (R 1))), (ad 14, oB 3 [.ref (ad 15), .int ((R 1) 37)]), (ad 15, aI g 25 (mvS (R 1))), (ad 16, oB 7 [.ref (ad 17), .ref (ad 18), .ref (ad 22), .int ((R 2) 8), .int ((R 2) 9), .int ((R 2) 10), .int ((R 2) 11), .int ((R 2) 12), .int ((R 2) 13), .int ((R 2) 14), .int ((R 2) 15), .int ((R 2) 16), .int ((R 2) 17)]), (ad 17, aI g 8 (R 2)), (ad 18, oB 2 [.ref (ad 19), .ref (ad 20), .ref (ad 21), .int ((R 2) 18)]), (ad 19, aI g 6 (frS (R 2))), (ad 20, aI g 6 (toS (R 2))), (ad 21, aI g 6 (wtS (R 2))), (ad 22, oB 3 [.ref (ad 23), .int ((R 2) 37)]), (ad 23, aI g 25 (mvS (R 2))), (ad 24, oB 7 [.ref (ad 25), .ref (ad 26), .ref (ad 30), .int ((R 3) 8), .int ((R 3) 9), .int ((R 3) 10), .int ((R 3) 11), .int ((R 3) 12), .int ((R 3) 13), .int ((R 3) 14), .int ((R 3) 15), .int ((R 3) 16), .int ((R 3) 17)]), (ad 25, aI g 8 (R 3)), (ad 26, oB 2 [.ref (ad 27), .ref (ad 28), .ref (ad 29), .int ((R 3) 18)]), (ad 27, aI g 6 (frS (R 3))), (ad 28, aI g 6 (toS (R 3))), (ad 29, aI g 6 (wtS (R 3))), (ad 30, oB 3 [.ref (ad 31), .int ((R 3) 37)]), (ad 31, aI g 25 (mvS (R 3))), (a0, oB 7 [.ref a1, .ref a2, .ref a6, .int (S 8), .int (S 9), .int (S 10), .int (S 11), .int (S 12), .int (S 13), .int (S 14), .int (S 15), .int (S 16), .int (S 17)]), (a1, aI g 8 S), (a2, oB 2 [.ref a3, .ref a4, .ref a5, .int (S 18)]), (a3, aI g 6 (frS S)), (a4, aI g 6 (toS S)), (a5, aI g 6 (wtS S)), (a6, oB 3 [.ref a7, .int (S 37)]), (a7, aI g 25 (mvS S)), (t0, oB 7 [.ref t1, .ref t2, .ref t6, .int (T 8), .int (T 9), .int (T 10), .int (T 11), .int (T 12), .int (T 13), .int (T 14), .int (T 15), .int (T 16), .int (T 17)]), (t1, aI g 8 T), (t2, oB 2 [.ref t3, .ref t4, .ref t5, .int (T 18)]), (t3, aI g 6 (frS T)), (t4, aI g 6 (toS T)), (t5, aI g 6 (wtS T)), (t6, oB 3 [.ref t7, .int (T 37)]), (t7, aI g 25 (mvS T)), (m0, oB 9 [.ref m1, .ref m2, .ref m3, .ref m4, .int (nI ps), .int 0, .ref m5, .int (nI n), .ref m6, .ref m7, .int yla, .int ymn, .int yma, .int ysn, .int yso, .int yca, .int ycm, .int ykd, .ref m8]), (m1, aI g 63 S), (m2, aI g 252 pf), (m3, aI g 63 yhf), (m4, aI g 63 ytf), (m5, aI g 60 tx), (m6, aI g 201 yfi), (m7, aI g 201 yfq), (m8, aI g 2 ynf)] H → va_D A [(x0, oB 8 [.ref a0, .ref t0, .ref h0, .ref e0, .ref f0, .ref g0]), (g0, oB 5 [.int dn, .int po, .int rs, .int ca]), (f0, oB 6 [.ref f1, .int (nI n), .int (nI p), .int kd, .int se, .int nu]), (f1, aC g 60 tx), (e0, oB 0 [.ref b0]), (b0, oB 4 [.ref b1, .ref b2, .ref b3, .ref b4, .int la]), (b1, aI g 201 fi), (b2, aI g 201 fq), (b3, aI g 201 fp), (b4, aI g 201 fs), (h0, oB 1 [.ref h1, .int (nI ps)]), (h1, aQ g 4 (rw4 (ad 0) (ad 8) (ad 16) (ad 24))), (ad 0, oB 7 [.ref (ad 1), .ref (ad 2), .ref (ad 6), .int ((R 0) 8), .int ((R 0) 9), .int ((R 0) 10), .int ((R 0) 11), .int ((R 0) 12), .int ((R 0) 13), .int ((R 0) 14), .int ((R 0) 15), .int ((R 0) 16), .int ((R 0) 17)]), (ad 1, aI g 8 (R 0)), (ad 2, oB 2 [.ref (ad 3), .ref (ad 4), .ref (ad 5), .int ((R 0) 18)]), (ad 3, aI g 6 (frS (R 0))), (ad 4, aI g 6 (toS (R 0))), (ad 5, aI g 6 (wtS (R 0))), (ad 6, oB 3 [.ref (ad 7), .int ((R 0) 37)]), (ad 7, aI g 25 (mvS (R 0))), (ad 8, oB 7 [.ref (ad 9), .ref (ad 10), .ref (ad 14), .int ((R 1) 8), .int ((R 1) 9), .int ((R 1) 10), .int ((R 1) 11), .int ((R 1) 12), .int ((R 1) 13), .int ((R 1) 14), .int ((R 1) 15), .int ((R 1) 16), .int ((R 1) 17)]), (ad 9, aI g 8 (R 1)), (ad 10, oB 2 [.ref (ad 11), .ref (ad 12), .ref (ad 13), .int ((R 1) 18)]), (ad 11, aI g 6 (frS (R 1))), (ad 12, aI g 6 (toS (R 1))), (ad 13, aI g 6 (wtS (R 1))), (ad 14, oB 3 [.ref (ad 15), .int ((R 1) 37)]), (ad 15, aI g 25 (mvS (R 1))), (ad 16, oB 7 [.ref (ad 17), .ref (ad 18), .ref (ad 22), .int ((R 2) 8), .int ((R 2) 9), .int ((R 2) 10), .int ((R 2) 11), .int ((R 2) 12), .int ((R 2) 13), .int ((R 2) 14), .int ((R 2) 15), .int ((R 2) 16), .int ((R 2) 17)]), (ad 17, aI g 8 (R 2)), (ad 18, oB 2 [.ref (ad 19), .ref (ad 20), .ref (ad 21), .int ((R 2) 18)]), (ad 19, aI g 6 (frS (R 2))), (ad 20, aI g 6 (toS (R 2))), (ad 21, aI g 6 (wtS (R 2))), (ad 22, oB 3 [.ref (ad 23), .int ((R 2) 37)]), (ad 23, aI g 25 (mvS (R 2))), (ad 24, oB 7 [.ref (ad 25), .ref (ad 26), .ref (ad 30), .int ((R 3) 8), .int ((R 3) 9), .int ((R 3) 10), .int ((R 3) 11), .int ((R 3) 12), .int ((R 3) 13), .int ((R 3) 14), .int ((R 3) 15), .int ((R 3) 16), .int ((R 3) 17)]), (ad 25, aI g 8 (R 3)), (ad 26, oB 2 [.ref (ad 27), .ref (ad 28), .ref (ad 29), .int ((R 3) 18)]), (ad 27, aI g 6 (frS (R 3))), (ad 28, aI g 6 (toS (R 3))), (ad 29, aI g 6 (wtS (R 3))), (ad 30, oB 3 [.ref (ad 31), .int ((R 3) 37)]), (ad 31, aI g 25 (mvS (R 3))), (a0, oB 7 [.ref a1, .ref a2, .ref a6, .int (S 8), .int (S 9), .int (S 10), .int (S 11), .int (S 12), .int (S 13), .int (S 14), .int (S 15), .int (S 16), .int (S 17)]), (a1, aI g 8 S), (a2, oB 2 [.ref a3, .ref a4, .ref a5, .int (S 18)]), (a3, aI g 6 (frS S)), (a4, aI g 6 (toS S)), (a5, aI g 6 (wtS S)), (a6, oB 3 [.ref a7, .int (S 37)]), (a7, aI g 25 (mvS S)), (t0, oB 7 [.ref t1, .ref t2, .ref t6, .int (T 8), .int (T 9), .int (T 10), .int (T 11), .int (T 12), .int (T 13), .int (T 14), .int (T 15), .int (T 16), .int (T 17)]), (t1, aI g 8 T), (t2, oB 2 [.ref t3, .ref t4, .ref t5, .int (T 18)]), (t3, aI g 6 (frS T)), (t4, aI g 6 (toS T)), (t5, aI g 6 (wtS T)), (t6, oB 3 [.ref t7, .int (T 37)]), (t7, aI g 25 (mvS T)), (m0, oB 9 [.ref m1, .ref m2, .ref m3, .ref m4, .int (nI ps), .int 0, .ref m5, .int (nI n), .ref m6, .ref m7, .int yla, .int ymn, .int yma, .int ysn, .int yso, .int yca, .int ycm, .int ykd, .ref m8]), (m1, aI g 63 S), (m2, aI g 252 pf), (m3, aI g 63 yhf), (m4, aI g 63 ytf), (m5, aI g 60 tx), (m6, aI g 201 yfi), (m7, aI g 201 yfq), (m8, aI g 2 ynf)] → va_S A sx.heap H locs → ∀ (ls : Array Slot), lv_has ls 4 [(3, .int (nI j)), (2, .ref m0), (1, .ref x0), (0, .ref bz)] → W pg l ev room_1 sx mi args below meth cd H locs 600000 7302250 Q (F0 mi 18 ls [])
