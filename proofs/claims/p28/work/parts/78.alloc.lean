/-! static methods with a room of their own; a method that reads the script; answers with what is left open -/
def MA (l : Launch) (y : MethodName) (wy : List Cond) (rm : Room) (g : G3) (av : List Value) (w1 : va_W) (r : Int32) (w2 : va_W) (mc ms : Nat) : Prop := ∀ sz : Nat, Met l y wy rm (zPc g av w1 sz) (zQi g r w2 (va_A w1 sz)) mc ms (va_A w1 sz)
def MU (l : Launch) (y : MethodName) (wy : List Cond) (rm : Room) (g : G3) (av : List Value) (w1 : va_W) (w2 : va_W) (mc ms : Nat) : Prop := ∀ sz : Nat, Met l y wy rm (zPc g av w1 sz) (zQv g w2 (va_A w1 sz)) mc ms (va_A w1 sz)
abbrev GB : Type := (Nat → Nat) × (Nat → Nat → Int32) × Nat × (Nat → Int32) × (Nat → Int32) × Int32 × (Nat → Int32) × (Nat → Int32) × (Nat → Int32) × (Nat → Int32)
abbrev zQb (g : G3) (r : Int32) (P : GB → Prop) (ws : GB → va_W) (A : Nat → Prop) : Array Value → State → Outcome → State → Prop := va_Qi (fun (r' : Int32) (u : GB) => r' = r ∧ P u) (fun u t => zB g (ws u) A t) A
def MB (l : Launch) (y : MethodName) (wy : List Cond) (rm : Room) (g : G3) (av : List Value) (w1 : va_W) (r : Int32) (P : GB → Prop) (w2 : GB → va_W) (mc ms : Nat) : Prop := ∀ sz : Nat, Met l y wy rm (zPc g av w1 sz) (zQb g r P w2 (va_A w1 sz)) mc ms (va_A w1 sz)
def zWalkA (l : Launch) (y : MethodName) (wy : List Cond) (rm : Room) (g : G3) (av : List Value) (w1 : va_W) (cc : ByteArray) (maxL : Nat) (ret : Option FieldType) (mc ms : Nat) (Qc : (Nat → Prop) → Array Value → State → Outcome → State → Prop) : Prop :=
  ∀ (p : Program) (e : Env) (s : State) (m : MethodId) (args : Array Value) (below : List Frame) (meth : Method) (c : Code) (A : Nat → Prop) (H : Heap) (locs : List Loc) (ls : Array Slot), p.tables.exec = Jvm.exec → c.code = cc → meth.sig.returnType = ret → c.maxLocals = maxL → s.vm.findClass y.cls = some m.cls → (∀ w ∈ wy, w.before args s = true) → meth.locks = false → (∀ q : Nat, s.heap.size ≤ q → A q) → EE A s s.heap → va_K g.1 vwCl (TY g) s → va_P g.1 vwCl w1 H → va_D A w1 → va_S A s.heap H locs → lv_has ls maxL (lv_args 0 av) → W p l e rm s m args below meth c H locs 0 0 (MQ below (Qc A) args s mc ms A) (F0 m 0 ls [])
theorem zWalkA.met {l : Launch} {y : MethodName} {wy wy' : List Cond} {rm : Room} {g : G3} {av : List Value} {w1 : va_W} {cc : ByteArray} {maxL : Nat} {ret : Option FieldType} {mc ms : Nat} {Qc : (Nat → Prop) → Array Value → State → Outcome → State → Prop} (k : zWalkA l y wy rm g av w1 cc maxL ret mc ms Qc) (hy : plainName y.cls = true) (hw : wy = Cond.code y cc maxL ret :: wy') (hav : (lg_sl av).length ≤ maxL) (sz : Nat) : Met l y wy rm (zPc g av w1 sz) (Qc (va_A w1 sz)) mc ms (va_A w1 sz) := by
  refine Met.ofW (cc := cc) (maxL := maxL) (ret := ret) hy hw ?_
  intro p e s m args below meth c s₁ B hml hv
  obtain ⟨rfl, hsz, hP, hK, hD0, hE⟩ := hv
  have hts := atoms_spec (ws := wy) B.pre
  have hown : s.vm.findClass y.cls = some m.cls := findClass_of_methodNamed B.named
  subst hsz
  have hD := hD0.self (sz := s.heap.size)
  rw [lg_entry_eq]
  exact k p e s m _ below meth c _ _ _ _ B.exec B.bytes B.returns hml hown hts B.notSynchronized (fun q h => Or.inr h) hE hK hP hD va_S.rf (lv_entry av hav)
section ZENDA
variable {p : Program} {l : Launch} {e : Env} {R : Room} {s : State} {m : MethodId} {args : Array Value} {below : List Frame} {meth : Method} {c : Code} {H : Heap} {locs : List Loc} {g : G3} {A : Nat → Prop} {cc : ByteArray} {pc cells slots : Nat} {ls : Array Slot} {ws ws' w2 : va_W}
theorem zEia {v r : Int32} {rt : FieldType} (hx : p.tables.exec = Jvm.exec) (hb : c.code = cc) (hlocks : meth.locks = false) (hr : meth.sig.returnType = some rt) (hn : narrow rt (.int v) = .int v) (hK : va_K g.1 vwCl (TY g) s) (hP : va_P g.1 vwCl ws H) (hD : va_D A ws) (hS : va_S A s.heap H locs) (is : List Nat) (hs : is.map (fun i => ws[i]?) = ws'.map some) (hnd : va_nd is = true) (er : v = r) (ew : ws' = w2) (hdg : decode cc pc = .ok (.ireturn, 1)) : W p l e R s m args below meth c H locs cells slots (MQ below (zQi g r w2 A) args s cells slots A) (F0 m pc ls [.int v]) := by
  subst ew
  have hP9 := zP_sub hP is hs
  have hD9 := hD.sub is hnd hs
  exact W.zret (v := v) hx hb hr hn (fun t ht hW => ⟨⟨v, (), rfl, er, by rw [ht]; exact hP9, va_K.moved hW.alike hK, hD9⟩, hS.F ht⟩) hS.2.2 hdg
theorem zEva (hx : p.tables.exec = Jvm.exec) (hb : c.code = cc) (hlocks : meth.locks = false) (hr : meth.sig.returnType = none) (hK : va_K g.1 vwCl (TY g) s) (hP : va_P g.1 vwCl ws H) (hD : va_D A ws) (hS : va_S A s.heap H locs) (is : List Nat) (hs : is.map (fun i => ws[i]?) = ws'.map some) (hnd : va_nd is = true) (ew : ws' = w2) (hdg : decode cc pc = .ok (.return_, 1)) : W p l e R s m args below meth c H locs cells slots (MQ below (zQv g w2 A) args s cells slots A) (F0 m pc ls []) := by
  subst ew
  have hP9 := zP_sub hP is hs
  have hD9 := hD.sub is hnd hs
  exact W.vret hx hb hr (fun t ht hW => ⟨⟨(), rfl, trivial, by rw [ht]; exact hP9, va_K.moved hW.alike hK, hD9⟩, hS.F ht⟩) hS.2.2 hdg
theorem zEba {v r : Int32} {rt : FieldType} {P : GB → Prop} {wb : GB → va_W} (u : GB) (hu : P u) (hx : p.tables.exec = Jvm.exec) (hb : c.code = cc) (hlocks : meth.locks = false) (hr : meth.sig.returnType = some rt) (hn : narrow rt (.int v) = .int v) (hK : va_K g.1 vwCl (TY g) s) (hP : va_P g.1 vwCl ws H) (hD : va_D A ws) (hS : va_S A s.heap H locs) (is : List Nat) (hs : is.map (fun i => ws[i]?) = ws'.map some) (hnd : va_nd is = true) (er : v = r) (ew : ws' = wb u) (hdg : decode cc pc = .ok (.ireturn, 1)) : W p l e R s m args below meth c H locs cells slots (MQ below (zQb g r P wb A) args s cells slots A) (F0 m pc ls [.int v]) := by
  subst ew
  have hP9 := zP_sub hP is hs
  have hD9 := hD.sub is hnd hs
  exact W.zret (v := v) hx hb hr hn (fun t ht hW => ⟨⟨v, u, rfl, ⟨er, hu⟩, by rw [ht]; exact hP9, va_K.moved hW.alike hK, hD9⟩, hS.F ht⟩) hS.2.2 hdg
end ZENDA
section ZCALLA
variable {p : Program} {l : Launch} {e : Env} {R : Room} {s : State} {m : MethodId} {args : Array Value} {below : List Frame} {meth : Method} {c : Code} {H : Heap} {locs : List Loc} {cells slots mc ms : Nat} {Q : State → Prop} {g : G3} {A : Nat → Prop} {cc : ByteArray} {pc nL n index maxL : Nat} {ls : Array Slot} {st0 rest As : List Value} {ws wc wr wc' : va_W} {Ts wy : List Cond} {own C host : String} {y : MethodName} {bytes : ByteArray} {ret : Option FieldType} {rm : Room} {r : Int32} {b ra : Nat} {a : Array Value}
theorem zGoIa (hr : va_Run p l e R s m args below meth c H locs cells slots mc ms (F0 m pc ls st0) rest (zQi g r wc' (va_A wc H.size) a) (va_A wc H.size)) (hK : va_K g.1 vwCl (TY g) s) (hP : va_P g.1 vwCl ws H) (hD : va_D A ws) (hS : va_S A s.heap H locs) (hA : ∀ q : Nat, s.heap.size ≤ q → A q) (isC isR : List Nat) (hC : isC.map (fun i => ws[i]?) = wc.map some) (hR : isR.map (fun i => ws[i]?) = wr.map some) (hnR : va_nd isR = true) (hdis : ∀ i ∈ isR, i ∉ isC)
    (kk : ∀ (H1 : Heap) (locs1 : List Loc), va_P g.1 vwCl (wr ++ wc') H1 → va_D A (wr ++ wc') → va_S A s.heap H1 locs1 → W p l e R s m args below meth c H1 locs1 (cells + mc) (slots + ms) Q (F0 m (pc + 3) ls (.int r :: rest))) : W p l e R s m args below meth c H locs cells slots Q (F0 m pc ls st0) := by
  have hF := va_free hD hS hA isC hC
  refine va_calli hr hS (fun q _ h => hF q h) hF (fun r1 u t H1 locs1 ht hvm hw hB hz1 hk1 hS1 => ?_)
  obtain ⟨hP1, hK1, hD1⟩ := hB
  rw [ht] at hP1
  subst hw
  obtain ⟨hP2, hD2⟩ := va_join hP hD isC isR hC hR hnR hdis hk1 hF hP1 hD1
  exact kk H1 locs1 hP2 hD2 hS1
theorem zGoVa (hr : va_Run p l e R s m args below meth c H locs cells slots mc ms (F0 m pc ls st0) rest (zQv g wc' (va_A wc H.size) a) (va_A wc H.size)) (hK : va_K g.1 vwCl (TY g) s) (hP : va_P g.1 vwCl ws H) (hD : va_D A ws) (hS : va_S A s.heap H locs) (hA : ∀ q : Nat, s.heap.size ≤ q → A q) (isC isR : List Nat) (hC : isC.map (fun i => ws[i]?) = wc.map some) (hR : isR.map (fun i => ws[i]?) = wr.map some) (hnR : va_nd isR = true) (hdis : ∀ i ∈ isR, i ∉ isC)
    (kk : ∀ (H1 : Heap) (locs1 : List Loc), va_P g.1 vwCl (wr ++ wc') H1 → va_D A (wr ++ wc') → va_S A s.heap H1 locs1 → W p l e R s m args below meth c H1 locs1 (cells + mc) (slots + ms) Q (F0 m (pc + 3) ls rest)) : W p l e R s m args below meth c H locs cells slots Q (F0 m pc ls st0) := by
  have hF := va_free hD hS hA isC hC
  refine va_callv hr hS (fun q _ h => hF q h) hF (fun u t H1 locs1 ht hvm hw hB hz1 hk1 hS1 => ?_)
  obtain ⟨hP1, hK1, hD1⟩ := hB
  rw [ht] at hP1
  obtain ⟨hP2, hD2⟩ := va_join hP hD isC isR hC hR hnR hdis hk1 hF hP1 hD1
  exact kk H1 locs1 hP2 hD2 hS1
theorem zGoBa {P : GB → Prop} {wb : GB → va_W} (hr : va_Run p l e R s m args below meth c H locs cells slots mc ms (F0 m pc ls st0) rest (zQb g r P wb (va_A wc H.size) a) (va_A wc H.size)) (hK : va_K g.1 vwCl (TY g) s) (hP : va_P g.1 vwCl ws H) (hD : va_D A ws) (hS : va_S A s.heap H locs) (hA : ∀ q : Nat, s.heap.size ≤ q → A q) (isC isR : List Nat) (hC : isC.map (fun i => ws[i]?) = wc.map some) (hR : isR.map (fun i => ws[i]?) = wr.map some) (hnR : va_nd isR = true) (hdis : ∀ i ∈ isR, i ∉ isC)
    (kk : ∀ (u : GB), P u → ∀ (H1 : Heap) (locs1 : List Loc), va_P g.1 vwCl (wr ++ wb u) H1 → va_D A (wr ++ wb u) → va_S A s.heap H1 locs1 → W p l e R s m args below meth c H1 locs1 (cells + mc) (slots + ms) Q (F0 m (pc + 3) ls (.int r :: rest))) : W p l e R s m args below meth c H locs cells slots Q (F0 m pc ls st0) := by
  have hF := va_free hD hS hA isC hC
  refine va_calli hr hS (fun q _ h => hF q h) hF (fun r1 u t H1 locs1 ht hvm hw hB hz1 hk1 hS1 => ?_)
  obtain ⟨hP1, hK1, hD1⟩ := hB
  rw [ht] at hP1
  obtain ⟨rfl, hu⟩ := hw
  obtain ⟨hP2, hD2⟩ := va_join hP hD isC isR hC hR hnR hdis hk1 hF hP1 hD1
  exact kk u hu H1 locs1 hP2 hD2 hS1
theorem zSIa (S : CallFix p m c cc nL s args Ts own) (hM : MA l y wy rm g As wc r wc' mc ms) (cw : CallB R s args own index y bytes maxL ret wy rm mc ms n ∧ (Cond.static y).before args s = true) (hE : EE A s s.heap) (hK : va_K g.1 vwCl (TY g) s) (hP : va_P g.1 vwCl ws H) (hD : va_D A ws) (hS : va_S A s.heap H locs) (hA : ∀ q : Nat, s.heap.size ≤ q → A q) (isC isR : List Nat) (hC : isC.map (fun i => ws[i]?) = wc.map some) (hR : isR.map (fun i => ws[i]?) = wr.map some) (hnC : va_nd isC = true) (hnR : va_nd isR = true) (hdis : ∀ i ∈ isR, i ∉ isC)
    (hn : As.length = n) (hsize : ls.size = nL) (hstack : st0 = As.reverse ++ rest) (hW : 2 * (F0 m pc ls st0).monitorRoom + (rest.map fun v => v.category).sum ≤ 8) (hf : cells + mc ≤ R.cells ∧ slots + ms ≤ R.slots) (hdg : decode cc pc = .ok (.invokestatic index, 3))
    (kk : ∀ (H1 : Heap) (locs1 : List Loc), va_P g.1 vwCl (wr ++ wc') H1 → va_D A (wr ++ wc') → va_S A s.heap H1 locs1 → W p l e R s m args below meth c H1 locs1 (cells + mc) (slots + ms) Q (F0 m (pc + 3) ls (.int r :: rest))) : W p l e R s m args below meth c H locs cells slots Q (F0 m pc ls st0) :=
  zGoIa (va_runS S (hM H.size) cw ⟨zPc_blind, zPre hE hK hP hD hS hA isC hC hnC⟩ rfl hn hsize hstack hW hdg hf) hK hP hD hS hA isC isR hC hR hnR hdis kk
theorem zSVa (S : CallFix p m c cc nL s args Ts own) (hM : MU l y wy rm g As wc wc' mc ms) (cw : CallB R s args own index y bytes maxL ret wy rm mc ms n ∧ (Cond.static y).before args s = true) (hE : EE A s s.heap) (hK : va_K g.1 vwCl (TY g) s) (hP : va_P g.1 vwCl ws H) (hD : va_D A ws) (hS : va_S A s.heap H locs) (hA : ∀ q : Nat, s.heap.size ≤ q → A q) (isC isR : List Nat) (hC : isC.map (fun i => ws[i]?) = wc.map some) (hR : isR.map (fun i => ws[i]?) = wr.map some) (hnC : va_nd isC = true) (hnR : va_nd isR = true) (hdis : ∀ i ∈ isR, i ∉ isC)
    (hn : As.length = n) (hsize : ls.size = nL) (hstack : st0 = As.reverse ++ rest) (hW : 2 * (F0 m pc ls st0).monitorRoom + (rest.map fun v => v.category).sum ≤ 8) (hf : cells + mc ≤ R.cells ∧ slots + ms ≤ R.slots) (hdg : decode cc pc = .ok (.invokestatic index, 3))
    (kk : ∀ (H1 : Heap) (locs1 : List Loc), va_P g.1 vwCl (wr ++ wc') H1 → va_D A (wr ++ wc') → va_S A s.heap H1 locs1 → W p l e R s m args below meth c H1 locs1 (cells + mc) (slots + ms) Q (F0 m (pc + 3) ls rest)) : W p l e R s m args below meth c H locs cells slots Q (F0 m pc ls st0) :=
  zGoVa (va_runS S (hM H.size) cw ⟨zPc_blind, zPre hE hK hP hD hS hA isC hC hnC⟩ rfl hn hsize hstack hW hdg hf) hK hP hD hS hA isC isR hC hR hnR hdis kk
theorem zSBa {P : GB → Prop} {wb : GB → va_W} (S : CallFix p m c cc nL s args Ts own) (hM : MB l y wy rm g As wc r P wb mc ms) (cw : CallB R s args own index y bytes maxL ret wy rm mc ms n ∧ (Cond.static y).before args s = true) (hE : EE A s s.heap) (hK : va_K g.1 vwCl (TY g) s) (hP : va_P g.1 vwCl ws H) (hD : va_D A ws) (hS : va_S A s.heap H locs) (hA : ∀ q : Nat, s.heap.size ≤ q → A q) (isC isR : List Nat) (hC : isC.map (fun i => ws[i]?) = wc.map some) (hR : isR.map (fun i => ws[i]?) = wr.map some) (hnC : va_nd isC = true) (hnR : va_nd isR = true) (hdis : ∀ i ∈ isR, i ∉ isC)
    (hn : As.length = n) (hsize : ls.size = nL) (hstack : st0 = As.reverse ++ rest) (hW : 2 * (F0 m pc ls st0).monitorRoom + (rest.map fun v => v.category).sum ≤ 8) (hf : cells + mc ≤ R.cells ∧ slots + ms ≤ R.slots) (hdg : decode cc pc = .ok (.invokestatic index, 3))
    (kk : ∀ (u : GB), P u → ∀ (H1 : Heap) (locs1 : List Loc), va_P g.1 vwCl (wr ++ wb u) H1 → va_D A (wr ++ wb u) → va_S A s.heap H1 locs1 → W p l e R s m args below meth c H1 locs1 (cells + mc) (slots + ms) Q (F0 m (pc + 3) ls (.int r :: rest))) : W p l e R s m args below meth c H locs cells slots Q (F0 m pc ls st0) :=
  zGoBa (va_runS S (hM H.size) cw ⟨zPc_blind, zPre hE hK hP hD hS hA isC hC hnC⟩ rfl hn hsize hstack hW hdg hf) hK hP hD hS hA isC isR hC hR hnR hdis kk
/-! the script -/
theorem zsld (k : Nat) (hx : p.tables.exec = Jvm.exec) (hb : c.code = cc) {L : Nat} {xs : Nat → Int32} {H0 : Heap} (hX : va_X b L xs s H0) (hbl : b < H0.size) (hbA : ¬ A b) (hS : va_S A H0 H locs) {i : Int32} (hin : IX i k L) (hdg : decode cc pc = .ok (.iaload, 1))
    (kk : W p l e R s m args below meth c H locs cells slots Q (F0 m (pc + 1) ls (.int (xs k) :: rest))) : W p l e R s m args below meth c H locs cells slots Q (F0 m pc ls (.int i :: .ref b :: rest)) := by
  obtain ⟨h1, rfl⟩ := hin
  exact va_sld hx hb hX hbl hbA hS h1 hdg kk
def zPx (g : G3) (av : List Value) (b L : Nat) (xs : Nat → Int32) (sz : Nat) : Array Value → State → Prop := va_Pc av (fun U => U.heap.size = sz ∧ va_K g.1 vwCl (TY g) U ∧ va_X b L xs U U.heap ∧ b < U.heap.size)
theorem zPx_blind {av : List Value} {L : Nat} {xs : Nat → Int32} {sz : Nat} : FrameBlind (zPx g av b L xs sz) := by
  intro a U f mk h
  obtain ⟨h0, h1, h2, h3, h4⟩ := h
  exact ⟨h0, h1, va_K.moved (u := U) (U := U.calling f mk a) (Vm.Alike.refl U.vm) h2, va_X.moved (u := U) (U := U.calling f mk a) (Vm.Alike.refl U.vm) h3, h4⟩
def MX (l : Launch) (y : MethodName) (wy : List Cond) (rm : Room) (g : G3) (av : List Value) (b L : Nat) (xs : Nat → Int32) (r : Int32) : Prop := ∀ sz : Nat, Met l y wy rm (zPx g av b L xs sz) (zQi g r [] (va_A [] sz)) 0 0 (va_A [] sz)
theorem zSX {L : Nat} {xs : Nat → Int32} (S : CallFix p m c cc nL s args Ts own) (hM : MX l y wy rm g As b L xs r) (cw : CallB R s args own index y bytes maxL ret wy rm 0 0 n ∧ (Cond.static y).before args s = true) (hK : va_K g.1 vwCl (TY g) s) (hX : va_X b L xs s s.heap) (hbl : b < s.heap.size) (hbA : ¬ A b) (hP : va_P g.1 vwCl ws H) (hD : va_D A ws) (hS : va_S A s.heap H locs) (hA : ∀ q : Nat, s.heap.size ≤ q → A q) (isR : List Nat) (hR : isR.map (fun i => ws[i]?) = ws.map some) (hnR : va_nd isR = true)
    (hn : As.length = n) (hsize : ls.size = nL) (hstack : st0 = As.reverse ++ rest) (hW : 2 * (F0 m pc ls st0).monitorRoom + (rest.map fun v => v.category).sum ≤ 8) (hf : cells + 0 ≤ R.cells ∧ slots + 0 ≤ R.slots) (hdg : decode cc pc = .ok (.invokestatic index, 3))
    (kk : ∀ (H1 : Heap) (locs1 : List Loc), va_P g.1 vwCl ws H1 → va_D A ws → va_S A s.heap H1 locs1 → W p l e R s m args below meth c H1 locs1 cells slots Q (F0 m (pc + 3) ls (.int r :: rest))) : W p l e R s m args below meth c H locs cells slots Q (F0 m pc ls st0) := by
  have hpre : ∀ U : State, U.heap = H → s.WarmedH U.vm → zPx g As b L xs H.size As.toArray U := by
    intro U hU hW
    refine ⟨rfl, by rw [hU], va_K.moved hW.alike hK, ?_, ?_⟩
    · rw [hU]
      exact (hX.kept (hS.2.1 b hbl hbA)).moved hW.alike
    · rw [hU]
      exact Nat.lt_of_lt_of_le hbl hS.1
  refine zGoI (wc := []) (wc' := []) (wr := ws) (va_runS S (hM H.size) cw ⟨zPx_blind, hpre⟩ rfl hn hsize hstack hW hdg hf) hK hP hD hS hA [] isR rfl hR hnR (fun _ _ h => absurd h List.not_mem_nil) (fun H1 locs1 hP1 hD1 hS1 => ?_)
  rw [List.append_nil] at hP1 hD1
  exact kk H1 locs1 hP1 hD1 hS1
end ZCALLA
def zWalkX (l : Launch) (y : MethodName) (wy : List Cond) (rm : Room) (g : G3) (av : List Value) (b L : Nat) (xs : Nat → Int32) (cc : ByteArray) (maxL : Nat) (ret : Option FieldType) (r : Int32) : Prop :=
  ∀ (p : Program) (e : Env) (s : State) (m : MethodId) (args : Array Value) (below : List Frame) (meth : Method) (c : Code) (A : Nat → Prop) (H : Heap) (locs : List Loc) (ls : Array Slot), p.tables.exec = Jvm.exec → c.code = cc → meth.sig.returnType = ret → c.maxLocals = maxL → s.vm.findClass y.cls = some m.cls → (∀ w ∈ wy, w.before args s = true) → meth.locks = false → va_K g.1 vwCl (TY g) s → va_X b L xs s s.heap → b < s.heap.size → ¬ A b → va_P g.1 vwCl [] H → va_D A [] → va_S A s.heap H locs → lv_has ls maxL (lv_args 0 av) → W p l e rm s m args below meth c H locs 0 0 (MQ below (zQi g r [] A) args s 0 0 A) (F0 m 0 ls [])
theorem zWalkX.met {l : Launch} {y : MethodName} {wy wy' : List Cond} {rm : Room} {g : G3} {av : List Value} {b L : Nat} {xs : Nat → Int32} {cc : ByteArray} {maxL : Nat} {ret : Option FieldType} {r : Int32} (k : zWalkX l y wy rm g av b L xs cc maxL ret r) (hy : plainName y.cls = true) (hw : wy = Cond.code y cc maxL ret :: wy') (hav : (lg_sl av).length ≤ maxL) : MX l y wy rm g av b L xs r := by
  intro sz
  refine Met.ofW (cc := cc) (maxL := maxL) (ret := ret) hy hw ?_
  intro p e s m args below meth c s₁ B hml hv
  obtain ⟨rfl, hsz, hK, hX, hbl⟩ := hv
  have hts := atoms_spec (ws := wy) B.pre
  have hown : s.vm.findClass y.cls = some m.cls := findClass_of_methodNamed B.named
  subst hsz
  rw [lg_entry_eq]
  refine k p e s m _ below meth c _ _ _ _ B.exec B.bytes B.returns hml hown hts B.notSynchronized hK hX hbl ?_ (fun k q h => by simp at h) ⟨fun i j p q h => by simp at h, fun k q h => by simp at h⟩ va_S.rf (lv_entry av hav)
  intro h
  rcases h with ⟨k, q, hk⟩ | h
  · simp at hk
  · omega
