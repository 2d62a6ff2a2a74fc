/-! constructors: what is new comes with addresses u 0, u 1 .. -/
def FF (g : G3) (A : Nat → Prop) (U : State) (H : Heap) : Prop := va_Nw (.castable "[I" "java/lang/Cloneable") U ∧ va_AO "StepAxis$State" U ∧ ∃ (t : Nat) (cell : Cell), va_Z "StepAxis" "FIRST_SETTINGS" "[I" (.ref t) A U H ∧ H[t]? = some cell ∧ cell.cls = g.2.1 ∧ (∀ k, cell.vm ≠ .statics k) ∧ cell.vm ≠ .unknown ∧ cell.slots = (vp_cell g.2.1 (8, .inl firstT)).slots ∧ ¬ A t
theorem FF.call {g : G3} {A B : Nat → Prop} {s U : State} {H : Heap} {locs : List Loc} (h : FF g A s s.heap) (hS : va_S A s.heap H locs) (hAB : ∀ q, B q → A q) (hU : U.heap = H) (hW : s.WarmedH U.vm) : FF g B U U.heap := by
  have hq : ∀ a : Nat, a < s.heap.size → ¬ A a → U.heap[a]? = s.heap[a]? := fun a h1 h2 => by rw [hU]; exact hS.2.1 a h1 h2
  obtain ⟨h1, h2, t, cell, h3, h4, h5, h6, h7, h8, h9⟩ := h
  have hlt : t < s.heap.size := (Array.getElem?_eq_some_iff.mp h4).1
  exact ⟨va_Nw.warmC hW h1, va_AO.moved hW.alike h2, t, cell, ((h3.moved hW.alike).kept hq).narrow hAB, by rw [hq t hlt h9]; exact h4, h5, h6, h7, h8, fun z => h9 (hAB t z)⟩
theorem FF.blind {g : G3} {A : Nat → Prop} {U U' : State} {H : Heap} (h : FF g A U H) (e : U.vm = U'.vm) : FF g A U' H := by
  have hv : U.vm.Alike U'.vm := by rw [← e]; exact Vm.Alike.refl U.vm
  obtain ⟨h1, h2, t, cell, h3, h4⟩ := h
  exact ⟨va_Nw.same rfl e h1, va_AO.moved hv h2, t, cell, h3.moved hv, h4⟩
def zPn (g : G3) (av : List Value) (ws : va_W) (sz : Nat) : Array Value → State → Prop := va_Pc av (fun U => U.heap.size = sz ∧ va_P g.1 vwCl ws U.heap ∧ va_K g.1 vwCl (TY g) U ∧ va_D (fun _ => True) ws ∧ EE (va_A ws sz) U U.heap ∧ FF g (va_A ws sz) U U.heap)
theorem zPn_blind {g : G3} {av : List Value} {ws : va_W} {sz : Nat} : FrameBlind (zPn g av ws sz) := by
  intro a U f mk h
  obtain ⟨h0, h1, h2, h3, h4, h5, h6⟩ := h
  exact ⟨h0, h1, h2, va_K.moved (u := U) (U := U.calling f mk a) (Vm.Alike.refl U.vm) h3, h4, h5.blind rfl, h6.blind rfl⟩
abbrev zQn (g : G3) (ws : (Nat → Nat) → va_W) (A : Nat → Prop) : Array Value → State → Outcome → State → Prop := va_Qv (fun (_ : Nat → Nat) => True) (fun u t => zB g (ws u) A t) A
abbrev rkn (f k c n : Nat) : Room := { frames := f, cells := c, slots := n, locals := k }
def MN (l : Launch) (y : MethodName) (wy : List Cond) (rm : Room) (g : G3) (av : List Value) (w1 : va_W) (w2 : (Nat → Nat) → va_W) (mc ms : Nat) : Prop := ∀ sz : Nat, Met l y wy rm (zPn g av w1 sz) (zQn g w2 (va_A w1 sz)) mc ms (va_A w1 sz)
def zWalkN (l : Launch) (y : MethodName) (wy : List Cond) (rm : Room) (g : G3) (av : List Value) (w1 : va_W) (cc : ByteArray) (maxL : Nat) (w2 : (Nat → Nat) → va_W) (mc ms : Nat) : Prop :=
  ∀ (p : Program) (e : Env) (s : State) (m : MethodId) (args : Array Value) (below : List Frame) (meth : Method) (c : Code) (A : Nat → Prop) (H : Heap) (locs : List Loc) (ls : Array Slot), p.tables.exec = Jvm.exec → c.code = cc → meth.sig.returnType = none → c.maxLocals = maxL → s.vm.findClass y.cls = some m.cls → (∀ w ∈ wy, w.before args s = true) → meth.locks = false → meth.name = y.name → (∀ q : Nat, s.heap.size ≤ q → A q) → EE A s s.heap → FF g A s s.heap → va_K g.1 vwCl (TY g) s → va_P g.1 vwCl w1 H → va_D A w1 → va_S A s.heap H locs → lv_has ls maxL (lv_args 0 av) → W p l e rm s m args below meth c H locs 0 0 (MQ below (zQn g w2 A) args s mc ms A) (F0 m 0 ls [])
theorem zWalkN.met {l : Launch} {y : MethodName} {wy wy' : List Cond} {rm : Room} {g : G3} {av : List Value} {w1 : va_W} {cc : ByteArray} {maxL : Nat} {w2 : (Nat → Nat) → va_W} {mc ms : Nat} (k : zWalkN l y wy rm g av w1 cc maxL w2 mc ms) (hy : plainName y.cls = true) (hw : wy = Cond.code y cc maxL none :: wy') (hav : (lg_sl av).length ≤ maxL) : MN l y wy rm g av w1 w2 mc ms := by
  intro sz
  refine Met.ofW (cc := cc) (maxL := maxL) (ret := none) hy hw ?_
  intro p e s m args below meth c s₁ B hml hv
  obtain ⟨rfl, hsz, hP, hK, hD0, hE, hF⟩ := hv
  have hts := atoms_spec (ws := wy) B.pre
  have hown : s.vm.findClass y.cls = some m.cls := findClass_of_methodNamed B.named
  subst hsz
  have hD := hD0.self (sz := s.heap.size)
  rw [lg_entry_eq]
  exact k p e s m _ below meth c _ _ _ _ B.exec B.bytes B.returns hml hown hts B.notSynchronized (name_of_methodNamed B.named B.method).1 (fun q h => Or.inr h) hE hF hK hP hD va_S.rf (lv_entry av hav)
section ZNEW
variable {p : Program} {l : Launch} {e : Env} {R : Room} {s : State} {m : MethodId} {args : Array Value} {below : List Frame} {meth : Method} {c : Code} {H : Heap} {locs : List Loc} {cells slots : Nat} {Q : State → Prop} {g : G3} {A : Nat → Prop} {cc : ByteArray} {pc nL n index maxL mc ms : Nat} {ls : Array Slot} {st0 rest As : List Value} {ws wc wr ws' : va_W} {wc' w2 : (Nat → Nat) → va_W} {Ts wy : List Cond} {own C host : String} {y : MethodName} {bytes : ByteArray} {rm : Room} {b : Nat} {a : Array Value}
theorem zEn (u : Nat → Nat) (hx : p.tables.exec = Jvm.exec) (hb : c.code = cc) (hlocks : meth.locks = false) (hr : meth.sig.returnType = none) (hK : va_K g.1 vwCl (TY g) s) (hP : va_P g.1 vwCl ws H) (hD : va_D A ws) (hS : va_S A s.heap H locs) (is : List Nat) (hs : is.map (fun i => ws[i]?) = ws'.map some) (hnd : va_nd is = true) (ew : ws' = w2 u) (hdg : decode cc pc = .ok (.return_, 1)) : W p l e R s m args below meth c H locs cells slots (MQ below (zQn g w2 A) args s cells slots A) (F0 m pc ls []) := by
  subst ew
  have hP9 := zP_sub hP is hs
  have hD9 := hD.sub is hnd hs
  exact W.vret hx hb hr (fun t ht hW => ⟨⟨u, rfl, trivial, by rw [ht]; exact hP9, va_K.moved hW.alike hK, hD9⟩, hS.F ht⟩) hS.2.2 hdg
theorem zPreN (hE : EE A s s.heap) (hF : FF g A s s.heap) (hK : va_K g.1 vwCl (TY g) s) (hP : va_P g.1 vwCl ws H) (hD : va_D A ws) (hS : va_S A s.heap H locs) (hA : ∀ q : Nat, s.heap.size ≤ q → A q) (isC : List Nat) (hC : isC.map (fun i => ws[i]?) = wc.map some) (hnC : va_nd isC = true) : ∀ U : State, U.heap = H → s.WarmedH U.vm → zPn g As wc H.size As.toArray U := by
  intro U hU hW
  refine ⟨rfl, by rw [hU], by rw [hU]; exact zP_sub hP isC hC, va_K.moved hW.alike hK, (hD.sub isC hnC hC).weaken (fun _ _ _ _ => trivial), hE.call hS (va_free hD hS hA isC hC) hU hW, hF.call hS (va_free hD hS hA isC hC) hU hW⟩
theorem zGoN (hr : va_Run p l e R s m args below meth c H locs cells slots mc ms (F0 m pc ls st0) rest (zQn g wc' (va_A wc H.size) a) (va_A wc H.size)) (hP : va_P g.1 vwCl ws H) (hD : va_D A ws) (hS : va_S A s.heap H locs) (hA : ∀ q : Nat, s.heap.size ≤ q → A q) (isC isR : List Nat) (hC : isC.map (fun i => ws[i]?) = wc.map some) (hR : isR.map (fun i => ws[i]?) = wr.map some) (hnR : va_nd isR = true) (hdis : ∀ i ∈ isR, i ∉ isC)
    (kk : ∀ (u : Nat → Nat) (H1 : Heap) (locs1 : List Loc), va_P g.1 vwCl (wr ++ wc' u) H1 → va_D A (wr ++ wc' u) → va_S A s.heap H1 locs1 → W p l e R s m args below meth c H1 locs1 (cells + mc) (slots + ms) Q (F0 m (pc + 3) ls rest)) : W p l e R s m args below meth c H locs cells slots Q (F0 m pc ls st0) := by
  have hF := va_free hD hS hA isC hC
  refine va_callv hr hS (fun q _ h => hF q h) hF (fun u t H1 locs1 ht hvm hw hB hz1 hk1 hS1 => ?_)
  obtain ⟨hP1, hK1, hD1⟩ := hB
  rw [ht] at hP1
  obtain ⟨hP2, hD2⟩ := va_join hP hD isC isR hC hR hnR hdis hk1 hF hP1 hD1
  exact kk u H1 locs1 hP2 hD2 hS1
theorem zNN (S : CallFix p m c cc nL s args Ts own) (hM : MN l y wy rm g (.ref b :: As) wc wc' mc ms) (cw : va_CN R s args own index y host bytes maxL none wy rm mc ms n ∧ y.name = "<init>" ∧ (Cond.instanceMethod y).before args s = true) (hE : EE A s s.heap) (hF : FF g A s s.heap) (hK : va_K g.1 vwCl (TY g) s) (hP : va_P g.1 vwCl ws H) (hD : va_D A ws) (hS : va_S A s.heap H locs) (hA : ∀ q : Nat, s.heap.size ≤ q → A q) (isC isR : List Nat) (hC : isC.map (fun i => ws[i]?) = wc.map some) (hR : isR.map (fun i => ws[i]?) = wr.map some) (hnC : va_nd isC = true) (hnR : va_nd isR = true) (hdis : ∀ i ∈ isR, i ∉ isC)
    (hn : As.length = n) (hsize : ls.size = nL) (hstack : st0 = As.reverse ++ .ref b :: rest) (hW : 2 * (F0 m pc ls st0).monitorRoom + (rest.map fun v => v.category).sum ≤ 8) (hf : cells + mc ≤ R.cells ∧ slots + ms ≤ R.slots) (hdg : decode cc pc = .ok (.invokespecial index, 3))
    (kk : ∀ (u : Nat → Nat) (H1 : Heap) (locs1 : List Loc), va_P g.1 vwCl (wr ++ wc' u) H1 → va_D A (wr ++ wc' u) → va_S A s.heap H1 locs1 → W p l e R s m args below meth c H1 locs1 (cells + mc) (slots + ms) Q (F0 m (pc + 3) ls rest)) : W p l e R s m args below meth c H locs cells slots Q (F0 m pc ls st0) :=
  zGoN (va_runIN S (hM H.size) cw ⟨zPn_blind, zPreN hE hF hK hP hD hS hA isC hC hnC⟩ rfl hn hsize hstack hW hdg hf) hP hD hS hA isC isR hC hR hnR hdis kk
theorem zIN (S : CallFix p m c cc nL s args Ts own) (hM : MN l y wy rm g (.ref b :: As) wc wc' mc ms) (cw : CallB R s args own index y bytes maxL none wy rm mc ms n ∧ y.name = "<init>" ∧ (Cond.instanceMethod y).before args s = true) (hE : EE A s s.heap) (hF : FF g A s s.heap) (hK : va_K g.1 vwCl (TY g) s) (hP : va_P g.1 vwCl ws H) (hD : va_D A ws) (hS : va_S A s.heap H locs) (hA : ∀ q : Nat, s.heap.size ≤ q → A q) (isC isR : List Nat) (hC : isC.map (fun i => ws[i]?) = wc.map some) (hR : isR.map (fun i => ws[i]?) = wr.map some) (hnC : va_nd isC = true) (hnR : va_nd isR = true) (hdis : ∀ i ∈ isR, i ∉ isC)
    (hn : As.length = n) (hsize : ls.size = nL) (hstack : st0 = As.reverse ++ .ref b :: rest) (hW : 2 * (F0 m pc ls st0).monitorRoom + (rest.map fun v => v.category).sum ≤ 8) (hf : cells + mc ≤ R.cells ∧ slots + ms ≤ R.slots) (hdg : decode cc pc = .ok (.invokespecial index, 3))
    (kk : ∀ (u : Nat → Nat) (H1 : Heap) (locs1 : List Loc), va_P g.1 vwCl (wr ++ wc' u) H1 → va_D A (wr ++ wc' u) → va_S A s.heap H1 locs1 → W p l e R s m args below meth c H1 locs1 (cells + mc) (slots + ms) Q (F0 m (pc + 3) ls rest)) : W p l e R s m args below meth c H locs cells slots Q (F0 m pc ls st0) :=
  zGoN (va_runI S (hM H.size) cw ⟨zPn_blind, zPreN hE hF hK hP hD hS hA isC hC hnC⟩ rfl hn hsize hstack hW hdg hf) hP hD hS hA isC isR hC hR hnR hdis kk
theorem zNewI (hx : p.tables.exec = Jvm.exec) (hb : c.code = cc) (harr : (Cond.arrayClass .int).before args s = true) (hK : va_K g.1 vwCl (TY g) s) (hP : va_P g.1 vwCl ws H) (hD : va_D A ws) (hS : va_S A s.heap H locs) (hA : ∀ q : Nat, s.heap.size ≤ q → A q) {i : Int32} (N : Nat) (hn : ¬ i < 0) (hN : i.toNatClampNeg = N) (hbytes : N * componentBytes .int ≤ 536870912) (hcells : cells + 1 ≤ R.cells) (hslots : slots + N ≤ R.slots) (hdg : decode cc pc = .ok (.newarray .int, 2))
    (kk : ∀ (q : Nat) (H1 : Heap), va_P g.1 vwCl (ws ++ [(q, aI g N (fun _ => 0))]) H1 → va_D A (ws ++ [(q, aI g N (fun _ => 0))]) → va_S A s.heap H1 locs → W p l e R s m args below meth c H1 locs (cells + 1) (slots + N) Q (F0 m (pc + 2) ls (.ref q :: rest))) : W p l e R s m args below meth c H locs cells slots Q (F0 m pc ls (.int i :: rest)) := by
  refine va_newa (atype := .int) hx hb harr (ty := .int) rfl hK hP hD hS hA (a0 := (N, .inl (fun _ => 0))) (fun cA => rfl) hn hN hbytes hcells hslots hdg (fun q cA H1 hK1 hP1 hD1 hS1 => ?_)
  have e9 : cA = g.2.1 := Option.some.inj ((hK1.2 3 (cA, .int) rfl).2.symm.trans (hK.2 0 (g.2.1, .int) rfl).2)
  rw [e9] at hP1 hD1
  exact kk q H1 hP1 hD1 hS1
theorem zNewC (hx : p.tables.exec = Jvm.exec) (hb : c.code = cc) (harr : (Cond.arrayClass .char).before args s = true) (hK : va_K g.1 vwCl (TY g) s) (hP : va_P g.1 vwCl ws H) (hD : va_D A ws) (hS : va_S A s.heap H locs) (hA : ∀ q : Nat, s.heap.size ≤ q → A q) {i : Int32} (N : Nat) (hn : ¬ i < 0) (hN : i.toNatClampNeg = N) (hbytes : N * componentBytes .char ≤ 536870912) (hcells : cells + 1 ≤ R.cells) (hslots : slots + N ≤ R.slots) (hdg : decode cc pc = .ok (.newarray .char, 2))
    (kk : ∀ (q : Nat) (H1 : Heap), va_P g.1 vwCl (ws ++ [(q, aC g N (fun _ => 0))]) H1 → va_D A (ws ++ [(q, aC g N (fun _ => 0))]) → va_S A s.heap H1 locs → W p l e R s m args below meth c H1 locs (cells + 1) (slots + N) Q (F0 m (pc + 2) ls (.ref q :: rest))) : W p l e R s m args below meth c H locs cells slots Q (F0 m pc ls (.int i :: rest)) := by
  refine va_newa (atype := .char) hx hb harr (ty := .char) rfl hK hP hD hS hA (a0 := (N, .inl (fun _ => 0))) (fun cA => rfl) hn hN hbytes hcells hslots hdg (fun q cA H1 hK1 hP1 hD1 hS1 => ?_)
  have e9 : cA = g.2.2.1 := Option.some.inj ((hK1.2 3 (cA, .char) rfl).2.symm.trans (hK.2 1 (g.2.2.1, .char) rfl).2)
  rw [e9] at hP1 hD1
  exact kk q H1 hP1 hD1 hS1
theorem zNewQ (hx : p.tables.exec = Jvm.exec) (hb : c.code = cc) (hown : s.vm.findClass own = some m.cls) (hlink : (Cond.classLink own index "StepAxis$State").before args s = true) (hF : FF g A s s.heap) (hK : va_K g.1 vwCl (TY g) s) (hP : va_P g.1 vwCl ws H) (hD : va_D A ws) (hS : va_S A s.heap H locs) (hA : ∀ q : Nat, s.heap.size ≤ q → A q) {i : Int32} (N : Nat) (hn : ¬ i < 0) (hN : i.toNatClampNeg = N) (hbytes : N * 4 ≤ 536870912) (hcells : cells + 1 ≤ R.cells) (hslots : slots + N ≤ R.slots) (hdg : decode cc pc = .ok (.anewarray index, 3))
    (kk : ∀ (q : Nat) (H1 : Heap), va_P g.1 vwCl (ws ++ [(q, aQ g N (fun _ => none))]) H1 → va_D A (ws ++ [(q, aQ g N (fun _ => none))]) → va_S A s.heap H1 locs → W p l e R s m args below meth c H1 locs (cells + 1) (slots + N) Q (F0 m (pc + 3) ls (.ref q :: rest))) : W p l e R s m args below meth c H locs cells slots Q (F0 m pc ls (.int i :: rest)) := by
  refine va_newq (C := "StepAxis$State") hx hb hown hlink hF.2.1 hK hP hD hS hA hn hN hbytes hcells hslots hdg (fun q cA H1 hK1 hP1 hD1 hS1 => ?_)
  obtain ⟨_, _, _, _, _, h1⟩ := (hK1.2 3 (cA, .object "StepAxis$State") rfl).2
  obtain ⟨_, _, _, _, _, h2⟩ := (hK.2 2 (g.2.2.2, .object "StepAxis$State") rfl).2
  have e9 : cA = g.2.2.2 := Option.some.inj (h1.symm.trans h2)
  rw [e9] at hP1 hD1
  exact kk q H1 hP1 hD1 hS1
/-- the first settings are cloned: a cell that isn't of the world -/
theorem zClone (hx : p.tables.exec = Jvm.exec) (hb : c.code = cc) (hml : c.maxLocals = ls.size) (hown : s.vm.findClass own = some m.cls)
    (hlink : (Cond.methodLink own index ⟨"[I", "clone", "()Ljava/lang/Object;"⟩).before args s = true) (hsame : (Cond.sameMethod "[I" "java/lang/Object" "clone" "()Ljava/lang/Object;").before args s = true)
    (hnat : (Cond.native ⟨"java/lang/Object", "clone", "()Ljava/lang/Object;"⟩).before args s = true) (hinst : (Cond.instanceMethod ⟨"java/lang/Object", "clone", "()Ljava/lang/Object;"⟩).before args s = true)
    (hsel : (Cond.selects "[I" ⟨"[I", "clone", "()Ljava/lang/Object;"⟩ ⟨"java/lang/Object", "clone", "()Ljava/lang/Object;"⟩).before args s = true) (hcl : va_Nw (.castable "[I" "java/lang/Cloneable") s)
    (hK : va_K g.1 vwCl (TY g) s) (hP : va_P g.1 vwCl ws H) (hD : va_D A ws) (hS : va_S A s.heap H locs) (hA : ∀ q : Nat, s.heap.size ≤ q → A q) {t : Nat} {cell : Cell} (h4 : s.heap[t]? = some cell) (h5 : cell.cls = g.2.1) (h6 : ∀ k, cell.vm ≠ .statics k) (h7 : cell.vm ≠ .unknown) (h8 : cell.slots = (vp_cell g.2.1 (8, .inl firstT)).slots) (h9 : ¬ A t)
    (hframes : 1 ≤ R.frames) (hlocals : (rest.map fun v => v.category).sum + 14 ≤ R.locals) (hcells : cells + 1 ≤ R.cells) (hslots : slots + 8 ≤ R.slots) (hdg : decode cc pc = .ok (.invokevirtual index, 3))
    (kk : ∀ (q : Nat) (H1 : Heap), va_P g.1 vwCl (ws ++ [(q, aI g 8 firstT)]) H1 → va_D A (ws ++ [(q, aI g 8 firstT)]) → va_S A s.heap H1 locs → W p l e R s m args below meth c H1 locs (cells + 1) (slots + 8) Q (F0 m (pc + 3) ls (.ref q :: rest))) : W p l e R s m args below meth c H locs cells slots Q (F0 m pc ls (.ref t :: rest)) := by
  have hnm : s.vm.findClass "[I" = some g.2.1 := (hK.2 0 (g.2.1, .int) rfl).2
  have hsz : cell.slots.size = 8 := by rw [h8, vp_cell_i]; exact arrV_size _ _ _
  obtain ⟨c0, t0', f1, f2, f3⟩ := Cond.castable_spec (va_Nw.use (A := args) rfl hcl)
  have e0 : c0 = g.2.1 := Option.some.inj (f1.symm.trans hnm)
  subst e0
  have hlt : t < s.heap.size := (Array.getElem?_eq_some_iff.mp h4).1
  intro T hT X
  have hcellT : T.heap[t]? = some cell := by rw [hT, hS.2.1 t hlt h9]; exact h4
  obtain ⟨-, kA, hkA, comp, hkind⟩ := State.isArrayOf_alike X.warmed.alike ((hK.2 0 _ rfl).1 0 (fun _ => .null))
  obtain ⟨-, kS, hkS, compS, hkindS⟩ := (hK.2 0 _ rfl).1 0 (fun _ => .null)
  obtain ⟨vm', X', st⟩ := X.cloneArray hx hown hlink hsame hnat hinst hsel (a := t) (cell := cell) hcellT h6 h7 (by rw [h5]; exact hnm) f2 (by rw [h5]; exact f3)
    (fun i v hv => by
      rw [h5]
      have hk' : T.vm.classes[g.2.1]? = some kA := hkA
      have hfit : fits .int v = true := by
        rw [h8, vp_cell_i] at hv
        have hi : i < 8 := by
          have := (Array.getElem?_eq_some_iff.mp hv).1
          rw [arrV_size] at this
          exact this
        rw [arrV_read _ _ hi] at hv
        cases hv
        rfl
      simpa [State.fitsSlot, State.slotType?, hk', hkind] using hfit)
    (g := F0 m pc ls (.ref t :: rest)) rfl (by rw [hml]) rfl (by rw [hb]; exact hdg) hframes (by show 2 * 0 + _ + 14 ≤ _; omega) hcells (by rw [hsz]; exact hslots) (hloader := by rw [h5]; exact Vm.clonesLoader_of_array hkS hkindS)
  have hcellE : ({ cls := cell.cls, slots := cell.slots } : Cell) = vp_cell g.2.1 (8, .inl firstT) := by rw [h5, h8]; rfl
  rw [hcellE, hsz] at X'
  generalize hH1 : H.push (vp_cell g.2.1 (8, .inl firstT)) = H1
  have z1 : H1.size = H.size + 1 := by rw [← hH1, Array.size_push]
  have e1 : H1[H.size]? = some (vp_cell g.2.1 (8, .inl firstT)) := by rw [← hH1, Array.getElem?_push_size]
  have o1 : ∀ q : Nat, q < H.size → H1[q]? = H[q]? := fun q hq => by rw [← hH1, Array.getElem?_push, if_neg (Nat.ne_of_lt hq)]
  have hk : ∀ (k : Nat) (y : Nat × va_E), ws[k]? = some y → H1[y.1]? = H[y.1]? := fun k y hy => o1 y.1 ((hP k y hy).lt)
  obtain ⟨t9, b1, b2⟩ := kk H.size H1 ((hP.kept hk).app (fun k y hy => by
      have hz : k < 1 := (List.getElem?_eq_some_iff.mp hy).1
      rw [show k = 0 by omega] at hy
      cases hy
      exact e1)) (hD.push hP rfl (hA _ hS.1)) ⟨Nat.le_trans hS.1 (by omega), fun y h1 h2 => (o1 y (Nat.lt_of_lt_of_le h1 hS.1)).trans (hS.2.1 y h1 h2), hS.2.2⟩
    ((T.setVm vm').pushCell (vp_cell g.2.1 (8, .inl firstT))) (by rw [← hH1, ← hT]; rfl) X'
  refine ⟨t9, st t9 ?_, b2⟩
  rw [hcellE, hT]
  exact b1
end ZNEW
/-! the row of a new state -/
def S0 : Nat → Int32 := fun k => if k < 10 then (match k with | 0 => 1000 | 1 => 200 | 2 => 60 | 3 => 100 | 4 => 8 | 5 => -400 | 6 => 3 | 7 => 20 | 8 => -1000 | _ => 1000) else 0
theorem S0_hi {k : Nat} (h : 10 ≤ k) : S0 k = 0 := if_neg (by omega)
theorem S0_first : ∀ k, k < 8 → firstT k = S0 k := fun k hk => match k, hk with | 0, _ => rfl | 1, _ => rfl | 2, _ => rfl | 3, _ => rfl | 4, _ => rfl | 5, _ => rfl | 6, _ => rfl | 7, _ => rfl
theorem S0_nine {k : Nat} : upd (upd (upd (upd (upd (upd (upd (upd (upd (upd (fun _ => 0) 0 1000) 1 200) 2 60) 3 100) 4 8) 5 (-400)) 6 3) 7 20) 8 (-1000)) 9 1000 k = S0 k := by
  rcases Nat.lt_or_ge k 10 with h | h
  · match k, h with
    | 0, _ => rfl
    | 1, _ => rfl
    | 2, _ => rfl
    | 3, _ => rfl
    | 4, _ => rfl
    | 5, _ => rfl
    | 6, _ => rfl
    | 7, _ => rfl
    | 8, _ => rfl
    | 9, _ => rfl
  · rw [S0_hi h, upd_ne (by omega), upd_ne (by omega), upd_ne (by omega), upd_ne (by omega), upd_ne (by omega), upd_ne (by omega), upd_ne (by omega), upd_ne (by omega), upd_ne (by omega), upd_ne (by omega)]
theorem Kv_S0 : Kv S0 := by
  refine ⟨⟨⟨?_, ?_, ?_, ?_, Or.inl rfl, Or.inl rfl⟩, ?_⟩, ?_⟩
  · unfold setOk; decide +kernel
  · decide +kernel
  · decide +kernel
  · unfold okP; decide +kernel
  · intro q hq
    exact absurd hq (by rw [S0_hi (by decide), i0]; exact Nat.not_lt_zero q)
  · intro q hq
    exact absurd hq (by rw [S0_hi (by decide), i0]; exact Nat.not_lt_zero q)
