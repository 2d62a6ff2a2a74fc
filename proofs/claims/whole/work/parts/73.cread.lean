/-! contracts with an int answer that leave the contents of GV open; what a rehearsal tells -/
abbrev zQl (g : G3) (r : Int32) (ws : GV → va_W) (A : Nat → Prop) : Array Value → State → Outcome → State → Prop := va_Qi (fun (r' : Int32) (_ : GV) => r' = r) (fun u t => zB g (ws u) A t) A
def ML (l : Launch) (y : MethodName) (wy : List Cond) (rm : Room) (g : G3) (av : List Value) (w1 : va_W) (r : Int32) (w2 : GV → va_W) : Prop := ∀ sz : Nat, Met l y wy rm (zPc g av w1 sz) (zQl g r w2 (va_A w1 sz)) 0 0 (va_A w1 sz)
section ZENDL
variable {p : Program} {l : Launch} {e : Env} {R : Room} {s : State} {m : MethodId} {args : Array Value} {below : List Frame} {meth : Method} {c : Code} {H : Heap} {locs : List Loc} {g : G3} {A : Nat → Prop} {cc : ByteArray} {pc : Nat} {ls : Array Slot} {ws ws' : va_W} {w2 : GV → va_W}
theorem zEl {v r : Int32} {rt : FieldType} (u : GV) (hx : p.tables.exec = Jvm.exec) (hb : c.code = cc) (hlocks : meth.locks = false) (hr : meth.sig.returnType = some rt) (hn : narrow rt (.int v) = .int v) (hK : va_K g.1 vwCl (TY g) s) (hP : va_P g.1 vwCl ws H) (hD : va_D A ws) (hS : va_S A s.heap H locs) (is : List Nat) (hs : is.map (fun i => ws[i]?) = ws'.map some) (hnd : va_nd is = true) (er : v = r) (ew : ws' = w2 u) (hdg : decode cc pc = .ok (.ireturn, 1)) : W p l e R s m args below meth c H locs 0 0 (MQ below (zQl g r w2 A) args s 0 0 A) (F0 m pc ls [.int v]) := by
  subst ew
  have hP9 := zP_sub hP is hs
  have hD9 := hD.sub is hnd hs
  exact W.zret (v := v) hx hb hr hn (fun t ht hW => ⟨⟨v, u, rfl, er, by rw [ht]; exact hP9, va_K.moved hW.alike hK, hD9⟩, hS.F ht⟩) hS.2.2 hdg
end ZENDL
section ZCALLL
variable {p : Program} {l : Launch} {e : Env} {R : Room} {s : State} {m : MethodId} {args : Array Value} {below : List Frame} {meth : Method} {c : Code} {H : Heap} {locs : List Loc} {cells slots : Nat} {Q : State → Prop} {g : G3} {A : Nat → Prop} {cc : ByteArray} {pc nL n index maxL : Nat} {ls : Array Slot} {st0 rest As : List Value} {ws wc wr : va_W} {wc' : GV → va_W} {Ts wy : List Cond} {own C host : String} {y : MethodName} {bytes : ByteArray} {ret : Option FieldType} {rm : Room} {r : Int32} {b ra : Nat} {a : Array Value}
theorem zGoL (hr : va_Run p l e R s m args below meth c H locs cells slots 0 0 (F0 m pc ls st0) rest (zQl g r wc' (va_A wc H.size) a) (va_A wc H.size)) (hK : va_K g.1 vwCl (TY g) s) (hP : va_P g.1 vwCl ws H) (hD : va_D A ws) (hS : va_S A s.heap H locs) (hA : ∀ q : Nat, s.heap.size ≤ q → A q) (isC isR : List Nat) (hC : isC.map (fun i => ws[i]?) = wc.map some) (hR : isR.map (fun i => ws[i]?) = wr.map some) (hnR : va_nd isR = true) (hdis : ∀ i ∈ isR, i ∉ isC)
    (kk : ∀ (u : GV) (H1 : Heap) (locs1 : List Loc), va_P g.1 vwCl (wr ++ wc' u) H1 → va_D A (wr ++ wc' u) → va_S A s.heap H1 locs1 → W p l e R s m args below meth c H1 locs1 cells slots Q (F0 m (pc + 3) ls (.int r :: rest))) : W p l e R s m args below meth c H locs cells slots Q (F0 m pc ls st0) := by
  have hF := va_free hD hS hA isC hC
  refine va_calli hr hS (fun q _ h => hF q h) hF (fun r1 u t H1 locs1 ht hvm hw hB hz1 hk1 hS1 => ?_)
  obtain ⟨hP1, hK1, hD1⟩ := hB
  rw [ht] at hP1
  subst hw
  obtain ⟨hP2, hD2⟩ := va_join hP hD isC isR hC hR hnR hdis hk1 hF hP1 hD1
  exact kk u H1 locs1 hP2 hD2 hS1
theorem zVL (S : CallFix p m c cc nL s args Ts own) (hM : ML l y wy rm g (.ref b :: As) wc r wc') (cw : CallW R s args own C index y bytes maxL ret wy rm 0 0 n) (hE : EE A s s.heap) (hK : va_K g.1 vwCl (TY g) s) (hP : va_P g.1 vwCl ws H) (hD : va_D A ws) (hS : va_S A s.heap H locs) (hA : ∀ q : Nat, s.heap.size ≤ q → A q) (qr ci : Nat) {q : vw_C} {fs : List Value} (hrec : ws[qr]? = some (b, .inr (ci, fs))) (hci : vwCl[ci]? = some q) (hqC : q.1 = C) (isC isR : List Nat) (hC : isC.map (fun i => ws[i]?) = wc.map some) (hR : isR.map (fun i => ws[i]?) = wr.map some) (hnC : va_nd isC = true) (hnR : va_nd isR = true) (hdis : ∀ i ∈ isR, i ∉ isC)
    (hn : As.length = n) (hsize : ls.size = nL) (hstack : st0 = As.reverse ++ .ref b :: rest) (hW : 2 * (F0 m pc ls st0).monitorRoom + (rest.map fun v => v.category).sum ≤ 8) (hf : cells + 0 ≤ R.cells ∧ slots + 0 ≤ R.slots) (hdg : decode cc pc = .ok (.invokevirtual index, 3))
    (kk : ∀ (u : GV) (H1 : Heap) (locs1 : List Loc), va_P g.1 vwCl (wr ++ wc' u) H1 → va_D A (wr ++ wc' u) → va_S A s.heap H1 locs1 → W p l e R s m args below meth c H1 locs1 cells slots Q (F0 m (pc + 3) ls (.int r :: rest))) : W p l e R s m args below meth c H locs cells slots Q (F0 m pc ls st0) :=
  zGoL (va_runV S (hM H.size) cw ⟨zPc_blind, (by rw [← hqC]; exact va_recv hK hP hci hrec), zPre hE hK hP hD hS hA isC hC hnC⟩ rfl hn hsize hstack hW hdg hf) hK hP hD hS hA isC isR hC hR hnR hdis kk
end ZCALLL
theorem pl_any {S tx : Nat → Int32} {n : Nat} {ca : Int32} (h : 0 < n) : plR S tx n ca = plR S tx n 0 := by
  unfold plR
  rw [plN_s h (by decide), plN_s h (by decide)]
theorem pl_0 {S tx : Nat → Int32} {ca : Int32} : plR S tx 0 ca = (S, 0, ca, -1000004) := plN_x (fun h => absurd h.1 (Nat.lt_irrefl 0))
theorem ft_cls {S tx : Nat → Int32} {n : Nat} {T : Nat → Int32} {dn po rs ca c w : Int32} (h : rnP S tx n T dn po rs ca) (hw : 0 ≤ w ∧ w ≤ 2) : ftR S tx n c w = if rs = 0 then -1000004 else if w = 0 then po else if w = 1 then rs else if rs = 2 then ca else -1000004 := by
  unfold ftR
  rw [if_pos hw]
  rcases h with ⟨h0, _, h1, _, _⟩ | ⟨h0, h1, h2, h3⟩
  · rw [(plR_ca S tx n c 0).2.2, h1, if_pos rfl, if_pos h0]
  · have hn : 0 < n := by
      rcases Nat.eq_zero_or_pos n with z | z
      · subst z
        rw [pl_0] at h1
        exact absurd rfl h1
      · exact z
    rw [pl_any (ca := c) hn, if_neg h1, if_neg h0, ← h2]
    by_cases w0 : w = 0
    · rw [if_pos w0, if_pos w0]
    rw [if_neg w0, if_neg w0]
    by_cases w1 : w = 1
    · rw [if_pos w1, if_pos w1]
      rcases h3 with ⟨a, b⟩ | ⟨a, b, _⟩
      · rw [if_pos a, b]
      · rw [if_neg a, b]
    rw [if_neg w1, if_neg w1]
    rcases h3 with ⟨a, b⟩ | ⟨a, b, e⟩
    · rw [if_pos a, if_neg (by rw [b]; decide)]
    · rw [if_neg a, if_pos b, e]
theorem py_ca {S tx : Nat → Int32} {n : Nat} {c : Int32} : pyR S tx n c = pyR S tx n 0 := by
  unfold pyR
  rw [(plR_ca S tx n c 0).2.2, (plR_ca S tx n c 0).2.1]
theorem py_cls {S tx : Nat → Int32} {n : Nat} {T : Nat → Int32} {dn po rs ca : Int32} (h : rnP S tx n T dn po rs ca) : (rs = 0 → dn = pyR S tx n 0 ∧ (plR S tx n 0).2.2.2 = -1000004 ∧ T = (plR S tx n 0).1) ∧ (¬ rs = 0 → -1000002 = pyR S tx n 0 ∧ ¬ (plR S tx n 0).2.2.2 = -1000004) := by
  unfold pyR
  rcases h with ⟨h0, _, h1, h2, h3⟩ | ⟨h0, h1, h2, h3⟩
  · exact ⟨fun _ => ⟨by rw [if_pos h1, h2], h1, h3⟩, fun z => absurd h0 z⟩
  · exact ⟨fun z => absurd z h0, fun _ => ⟨by rw [if_neg h1], h1⟩⟩
theorem py_ok {S tx : Nat → Int32} {n : Nat} : ¬ pyR S tx n 0 ≤ -1000001 ↔ (plR S tx n 0).2.2.2 = -1000004 := by
  unfold pyR
  by_cases h : (plR S tx n 0).2.2.2 = -1000004
  · rw [if_pos h]
    exact ⟨fun _ => h, fun _ => pl_cm⟩
  · rw [if_neg h]
    exact ⟨fun z => absurd (by decide) z, fun z => absurd z h⟩
theorem py_T {S tx : Nat → Int32} {n : Nat} {T : Nat → Int32} {dn po rs ca : Int32} (h : rnP S tx n T dn po rs ca) (h1 : (plR S tx n 0).2.2.2 = -1000004) : T = (plR S tx n 0).1 := by
  rcases h with ⟨_, _, _, _, h3⟩ | ⟨_, h2, _, _⟩
  · exact h3
  · exact absurd h1 h2
/-! reads -/
theorem rp_in {S fi : Nat → Int32} {f : Nat → Int32} {n : Int32} (h200 : topS S ≤ 200) (h0 : 0 ≤ n) (h1 : n ≤ nI (topS S)) : rget (fillT f fi (topS S + 1)) n = f n.toInt.toNat := by
  have hz := zp0 h0
  have e := zof hz
  rw [zle, znI (by omega)] at h1
  have hr := rget_nI (f := fillT f fi (topS S + 1)) (k := n.toInt.toNat) (by omega)
  rw [← e] at hr
  rw [hr, fillT_in (by omega)]
theorem rp_pu {S : Nat → Int32} {n : Int32} (h0 : 0 ≤ n) : puS S n.toInt.toNat = puT (S 3) (S 4) n := by
  unfold puS
  rw [← zof (zp0 h0)]
theorem tm_eq {S fi fs : Nat → Int32} {d : Int32} (h200 : topS S ≤ 200) (hd : 0 ≤ d ∧ d ≤ 6000) : timeC (fillT (ivS S) fi (topS S + 1)) (fillT (smS S) fs (topS S + 1)) (nI (topS S)) d = tmR S d := by
  have h0 := zp0 hd.1
  have h1 := hd.2
  rw [zle, show (6000 : Int32).toInt = 6000 from by decide +kernel] at h1
  unfold tmR
  rw [if_pos hd]
  have e := timeC_eq (S := S) (fi := fillT (ivS S) fi (topS S + 1)) (fs := fillT (smS S) fs (topS S + 1)) (t := topS S) (D := d.toInt.toNat) h200 (by omega) (fun k hk => fillT_in (by omega)) (fun k hk => fillT_in (by omega))
  rw [← zof h0] at e
  exact e
theorem bit_y {x : Int32} (h : bit1 x) (h0 : ¬ x = 0) : 1 = x := (h.resolve_left h0).symm
def unX (ps : Nat) (R : Nat → Nat → Int32) (S : Nat → Int32) : Nat → Int32 := if ps = 0 then S else R (ps - 1)
theorem unX_eq {ps : Nat} (h : ps ≤ 4) (R : Nat → Nat → Int32) (S : Nat → Int32) : (if ps = 0 then S else if ps = 1 then R 0 else if ps = 2 then R 1 else if ps = 3 then R 2 else R 3) = unX ps R S := by
  unfold unX
  match ps, h with
  | 0, _ => rfl
  | 1, _ => rfl
  | 2, _ => rfl
  | 3, _ => rfl
  | 4, _ => rfl
