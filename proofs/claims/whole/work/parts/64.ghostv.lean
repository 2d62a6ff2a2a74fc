/-! contracts of void methods that leave some contents open, with what is known of them -/
abbrev GV : Type := Nat × Int32 × Int32 × Int32 × Int32 × Int32 × Int32 × Int32 × Int32 × (Nat → Int32) × (Nat → Int32) × (Nat → Int32) × (Nat → Int32) × (Nat → Int32)
abbrev zQk (g : G3) (P : GV → Prop) (ws : GV → va_W) (A : Nat → Prop) : Array Value → State → Outcome → State → Prop := va_Qv P (fun u t => zB g (ws u) A t) A
def MK (l : Launch) (y : MethodName) (wy : List Cond) (rm : Room) (g : G3) (av : List Value) (w1 : va_W) (P : GV → Prop) (w2 : GV → va_W) : Prop := ∀ sz : Nat, Met l y wy rm (zPc g av w1 sz) (zQk g P w2 (va_A w1 sz)) 0 0 (va_A w1 sz)
section ZENDK
variable {p : Program} {l : Launch} {e : Env} {R : Room} {s : State} {m : MethodId} {args : Array Value} {below : List Frame} {meth : Method} {c : Code} {H : Heap} {locs : List Loc} {cells slots : Nat} {Q : State → Prop} {rest : List Value} {g : G3} {A : Nat → Prop} {cc : ByteArray} {pc : Nat} {ls : Array Slot} {ws ws' : va_W} {w2 : GV → va_W} {P : GV → Prop}
theorem zEk (u : GV) (hp : P u) (hx : p.tables.exec = Jvm.exec) (hb : c.code = cc) (hlocks : meth.locks = false) (hr : meth.sig.returnType = none) (hK : va_K g.1 vwCl (TY g) s) (hP : va_P g.1 vwCl ws H) (hD : va_D A ws) (hS : va_S A s.heap H locs) (is : List Nat) (hs : is.map (fun i => ws[i]?) = ws'.map some) (hnd : va_nd is = true) (ew : ws' = w2 u) (hdg : decode cc pc = .ok (.return_, 1)) : W p l e R s m args below meth c H locs 0 0 (MQ below (zQk g P w2 A) args s 0 0 A) (F0 m pc ls []) := by
  subst ew
  have hP9 := zP_sub hP is hs
  have hD9 := hD.sub is hnd hs
  exact W.vret hx hb hr (fun t ht hW => ⟨⟨u, rfl, hp, by rw [ht]; exact hP9, va_K.moved hW.alike hK, hD9⟩, hS.F ht⟩) hS.2.2 hdg
theorem zTopF {x y : UInt32} (h : x = y) (k : W p l e R s m args below meth c H locs cells slots Q (F0 m pc ls (.float y :: rest))) : W p l e R s m args below meth c H locs cells slots Q (F0 m pc ls (.float x :: rest)) := by
  subst h
  exact k
end ZENDK
section ZCALLK
variable {p : Program} {l : Launch} {e : Env} {R : Room} {s : State} {m : MethodId} {args : Array Value} {below : List Frame} {meth : Method} {c : Code} {H : Heap} {locs : List Loc} {cells slots : Nat} {Q : State → Prop} {g : G3} {A : Nat → Prop} {cc : ByteArray} {pc nL n index maxL : Nat} {ls : Array Slot} {st0 rest As : List Value} {ws wc wr : va_W} {wc' : GV → va_W} {P : GV → Prop} {Ts wy : List Cond} {own C host : String} {y : MethodName} {bytes : ByteArray} {ret : Option FieldType} {rm : Room} {b : Nat} {a : Array Value}
theorem zGoK (hr : va_Run p l e R s m args below meth c H locs cells slots 0 0 (F0 m pc ls st0) rest (zQk g P wc' (va_A wc H.size) a) (va_A wc H.size)) (hK : va_K g.1 vwCl (TY g) s) (hP : va_P g.1 vwCl ws H) (hD : va_D A ws) (hS : va_S A s.heap H locs) (hA : ∀ q : Nat, s.heap.size ≤ q → A q) (isC isR : List Nat) (hC : isC.map (fun i => ws[i]?) = wc.map some) (hR : isR.map (fun i => ws[i]?) = wr.map some) (hnR : va_nd isR = true) (hdis : ∀ i ∈ isR, i ∉ isC)
    (kk : ∀ (u : GV), P u → ∀ (H1 : Heap) (locs1 : List Loc), va_P g.1 vwCl (wr ++ wc' u) H1 → va_D A (wr ++ wc' u) → va_S A s.heap H1 locs1 → W p l e R s m args below meth c H1 locs1 cells slots Q (F0 m (pc + 3) ls rest)) : W p l e R s m args below meth c H locs cells slots Q (F0 m pc ls st0) := by
  have hF := va_free hD hS hA isC hC
  refine va_callv hr hS (fun q _ h => hF q h) hF (fun u t H1 locs1 ht hvm hw hB hz1 hk1 hS1 => ?_)
  obtain ⟨hP1, hK1, hD1⟩ := hB
  rw [ht] at hP1
  obtain ⟨hP2, hD2⟩ := va_join hP hD isC isR hC hR hnR hdis hk1 hF hP1 hD1
  exact kk u hw H1 locs1 hP2 hD2 hS1
theorem zVK (S : CallFix p m c cc nL s args Ts own) (hM : MK l y wy rm g (.ref b :: As) wc P wc') (cw : CallW R s args own C index y bytes maxL ret wy rm 0 0 n) (hE : EE A s s.heap) (hK : va_K g.1 vwCl (TY g) s) (hP : va_P g.1 vwCl ws H) (hD : va_D A ws) (hS : va_S A s.heap H locs) (hA : ∀ q : Nat, s.heap.size ≤ q → A q) (qr ci : Nat) {q : vw_C} {fs : List Value} (hrec : ws[qr]? = some (b, .inr (ci, fs))) (hci : vwCl[ci]? = some q) (hqC : q.1 = C) (isC isR : List Nat) (hC : isC.map (fun i => ws[i]?) = wc.map some) (hR : isR.map (fun i => ws[i]?) = wr.map some) (hnC : va_nd isC = true) (hnR : va_nd isR = true) (hdis : ∀ i ∈ isR, i ∉ isC)
    (hn : As.length = n) (hsize : ls.size = nL) (hstack : st0 = As.reverse ++ .ref b :: rest) (hW : 2 * (F0 m pc ls st0).monitorRoom + (rest.map fun v => v.category).sum ≤ 8) (hf : cells + 0 ≤ R.cells ∧ slots + 0 ≤ R.slots) (hdg : decode cc pc = .ok (.invokevirtual index, 3))
    (kk : ∀ (u : GV), P u → ∀ (H1 : Heap) (locs1 : List Loc), va_P g.1 vwCl (wr ++ wc' u) H1 → va_D A (wr ++ wc' u) → va_S A s.heap H1 locs1 → W p l e R s m args below meth c H1 locs1 cells slots Q (F0 m (pc + 3) ls rest)) : W p l e R s m args below meth c H locs cells slots Q (F0 m pc ls st0) :=
  zGoK (va_runV S (hM H.size) cw ⟨zPc_blind, (by rw [← hqC]; exact va_recv hK hP hci hrec), zPre hE hK hP hD hS hA isC hC hnC⟩ rfl hn hsize hstack hW hdg hf) hK hP hD hS hA isC isR hC hR hnR hdis kk
end ZCALLK
/-- the same for a member of a class of the JDK of which some members are the machine's own -/
theorem zWalk.metF {l : Launch} {y : MethodName} {wy wy' : List Cond} {rm : Room} {g : G3} {av : List Value} {w1 : va_W} {cc : ByteArray} {maxL : Nat} {ret : Option FieldType} {Qc : (Nat → Prop) → Array Value → State → Outcome → State → Prop} (k : zWalk l y wy rm g av w1 cc maxL ret Qc) (hy : plainFor y = true) (hw : wy = Cond.code y cc maxL ret :: wy') (hav : (lg_sl av).length ≤ maxL) (sz : Nat) : Met l y wy rm (zPc g av w1 sz) (Qc (va_A w1 sz)) 0 0 (va_A w1 sz) := by
  refine va_MetF (cc := cc) (maxL := maxL) (ret := ret) hy hw ?_
  intro p e s m args below meth c s₁ B hml hv
  obtain ⟨rfl, hsz, hP, hK, hD0, hE⟩ := hv
  have hts := atoms_spec (ws := wy) B.pre
  have hown : s.vm.findClass y.cls = some m.cls := findClass_of_methodNamed B.named
  subst hsz
  have hD := hD0.self (sz := s.heap.size)
  rw [lg_entry_eq]
  exact k p e s m _ below meth c _ _ _ _ B.exec B.bytes B.returns hml hown hts B.notSynchronized (fun q h => Or.inr h) hE hK hP hD va_S.rf (lv_entry av hav)
