/-! small facts: booleans as ints, places in arrays, order of ints -/
def b01 (c : Prop) [Decidable c] : Int32 := if c then 1 else 0
theorem b01_1 {c : Prop} [Decidable c] (h : c) : b01 c = 1 := if_pos h
theorem b01_0 {c : Prop} [Decidable c] (h : ¬ c) : b01 c = 0 := if_neg h
theorem b01_t {c : Prop} [Decidable c] (h : b01 c ≠ 0) : c := by
  by_cases hc : c
  · exact hc
  · exact absurd (b01_0 hc) h
theorem b01_f {c : Prop} [Decidable c] (h : b01 c = 0) : ¬ c := by
  intro hc
  rw [b01_1 hc] at h
  exact absurd h (by decide)
theorem b01_nar {c : Prop} [Decidable c] : narrow .boolean (.int (b01 c)) = .int (b01 c) := by
  by_cases hc : c
  · rw [b01_1 hc]; rfl
  · rw [b01_0 hc]; rfl
theorem b01_c {c d : Prop} [Decidable c] [Decidable d] (h : c ↔ d) : b01 c = b01 d := by
  by_cases hc : c
  · rw [b01_1 hc, b01_1 (h.mp hc)]
  · rw [b01_0 hc, b01_0 (fun x => hc (h.mpr x))]
theorem zlt (a b : Int32) : a < b ↔ a.toInt < b.toInt := Int32.lt_iff_toInt_lt
theorem zle (a b : Int32) : a ≤ b ↔ a.toInt ≤ b.toInt := Int32.le_iff_toInt_le
theorem zeq (a b : Int32) : a = b ↔ a.toInt = b.toInt := Int32.toInt_inj.symm
theorem znlt {a b : Int32} (h : a < b) : ¬ b ≤ a := by rw [zle]; rw [zlt] at h; omega
theorem znle {a b : Int32} (h : ¬ a ≤ b) : b < a := by rw [zlt]; rw [zle] at h; omega
theorem zge {a b : Int32} (h : ¬ a < b) : b ≤ a := by rw [zle]; rw [zlt] at h; omega
theorem zgt {a b : Int32} (h : b ≤ a) : ¬ a < b := by rw [zlt]; rw [zle] at h; omega
theorem zlo (a : Int32) : -2147483648 ≤ a.toInt := Int32.le_toInt a
theorem zhi (a : Int32) : a.toInt < 2147483648 := Int32.toInt_lt a
theorem zadd {a b : Int32} (h1 : -2147483648 ≤ a.toInt + b.toInt) (h2 : a.toInt + b.toInt < 2147483648) : (a + b).toInt = a.toInt + b.toInt := by
  rw [Int32.toInt_add]; exact Int.bmod_eq_of_le (by simpa using h1) (by omega)
theorem zsub {a b : Int32} (h1 : -2147483648 ≤ a.toInt - b.toInt) (h2 : a.toInt - b.toInt < 2147483648) : (a - b).toInt = a.toInt - b.toInt := by
  rw [Int32.toInt_sub]; exact Int.bmod_eq_of_le (by simpa using h1) (by omega)
theorem zmul {a b : Int32} (h1 : -2147483648 ≤ a.toInt * b.toInt) (h2 : a.toInt * b.toInt < 2147483648) : (a * b).toInt = a.toInt * b.toInt := by
  rw [Int32.toInt_mul]; exact Int.bmod_eq_of_le (by simpa using h1) (by omega)
theorem zneg {a : Int32} (h : -2147483648 < a.toInt) : (-a).toInt = -a.toInt := by
  rw [Int32.toInt_neg]; have := zhi a; exact Int.bmod_eq_of_le (by omega) (by omega)
theorem j0 : (0 : Int32).toInt = 0 := by decide +kernel
theorem i4 : (4 : Int32).toInt = 4 := by decide +kernel
theorem i5 : (5 : Int32).toInt = 5 := by decide +kernel
theorem i6 : (6 : Int32).toInt = 6 := by decide +kernel
theorem i7 : (7 : Int32).toInt = 7 := by decide +kernel
theorem i200 : (200 : Int32).toInt = 200 := by decide +kernel
theorem zp0 {x : Int32} (h : 0 ≤ x) : 0 ≤ x.toInt := by
  rw [zle, j0] at h
  exact h
theorem znI {n : Nat} (h : n < 2147483648) : (nI n).toInt = (n : Int) := nI_toInt h
theorem zof {x : Int32} (h : 0 ≤ x.toInt) : x = nI x.toInt.toNat := by
  rw [zeq, znI (by have := zhi x; omega)]; omega
theorem nI_add' (a b : Nat) : nI a + nI b = nI (a + b) := nI_add a b
theorem nI_lit (n : Nat) : (OfNat.ofNat n : Int32) = nI n := rfl
def IX (i : Int32) (k n : Nat) : Prop := vp_in i n ∧ i.toNatClampNeg = k
theorem IX.lit {i : Int32} {k n : Nat} (h : (decide (0 ≤ i.toInt) && decide (i.toInt < (n : Int)) && decide (i.toNatClampNeg = k)) = true) : IX i k n := by
  simp only [Bool.and_eq_true, decide_eq_true_eq] at h
  exact ⟨vp_in_iff.mpr ⟨h.1.1, h.1.2⟩, h.2⟩
theorem IX.of {i : Int32} {k n : Nat} (e : i = nI k) (h : k < n) (hn : n < 2147483648) : IX i k n := by
  subst e
  exact ⟨vp_in_nI h hn, nI_clamp (Nat.lt_trans h hn)⟩
theorem IX.z {i : Int32} {n : Nat} (h0 : 0 ≤ i.toInt) (h : i.toInt < n) : IX i i.toInt.toNat n := ⟨vp_in_iff.mpr ⟨h0, h⟩, rfl⟩
section ZARR
variable {p : Program} {l : Launch} {e : Env} {R : Room} {s : State} {m : MethodId} {args : Array Value} {below : List Frame} {meth : Method} {c : Code} {H H0 : Heap} {locs : List Loc} {cells slots : Nat} {Q : State → Prop} {cc : ByteArray} {pc : Nat} {ls : Array Slot} {rest : List Value} {D : va_G} {cl : List vw_C} {tys : List (ClassId × FieldType)} {ws : va_W} {A : Nat → Prop} {a : Nat}
theorem zald (k : Nat) (hexec : p.tables.exec = Jvm.exec) (hb : c.code = cc) (hK : va_K D cl tys s) (hP : va_P D cl ws H) (q0 t0 : Nat) {cA : ClassId} {n : Nat} {f : Nat → Int32} (ha : ws[q0]? = some (a, .inl (cA, n, .inl f))) (ht : tys[t0]? = some (cA, .int)) {i : Int32} (hin : IX i k n) (hdg : decode cc pc = .ok (.iaload, 1))
    (kk : W p l e R s m args below meth c H locs cells slots Q (F0 m (pc + 1) ls (.int (f k) :: rest))) : W p l e R s m args below meth c H locs cells slots Q (F0 m pc ls (.int i :: .ref a :: rest)) := by
  obtain ⟨h1, rfl⟩ := hin
  exact va_iald hexec hb hK hP q0 t0 ha ht h1 hdg kk
theorem zcald (k : Nat) (hexec : p.tables.exec = Jvm.exec) (hb : c.code = cc) (hK : va_K D cl tys s) (hP : va_P D cl ws H) (q0 t0 : Nat) {cA : ClassId} {n : Nat} {f : Nat → Int32} (ha : ws[q0]? = some (a, .inl (cA, n, .inl f))) (ht : tys[t0]? = some (cA, .char)) {i : Int32} (hin : IX i k n) (hdg : decode cc pc = .ok (.caload, 1))
    (kk : W p l e R s m args below meth c H locs cells slots Q (F0 m (pc + 1) ls (.int (f k) :: rest))) : W p l e R s m args below meth c H locs cells slots Q (F0 m pc ls (.int i :: .ref a :: rest)) := by
  obtain ⟨h1, rfl⟩ := hin
  exact va_cald hexec hb hK hP q0 t0 ha ht h1 hdg kk
theorem zaldq (k : Nat) (hexec : p.tables.exec = Jvm.exec) (hb : c.code = cc) (hK : va_K D cl tys s) (hP : va_P D cl ws H) (q0 t0 : Nat) {cA : ClassId} {C : String} {n : Nat} {f : Nat → Option Nat} (ha : ws[q0]? = some (a, .inl (cA, n, .inr (.inr (.inr (.inr f)))))) (ht : tys[t0]? = some (cA, .object C)) {i : Int32} (hin : IX i k n) (hdg : decode cc pc = .ok (.aaload, 1))
    (kk : W p l e R s m args below meth c H locs cells slots Q (F0 m (pc + 1) ls (va_rf (f k) :: rest))) : W p l e R s m args below meth c H locs cells slots Q (F0 m pc ls (.int i :: .ref a :: rest)) := by
  obtain ⟨h1, rfl⟩ := hin
  exact va_aldq hexec hb hK hP q0 t0 ha ht h1 hdg kk
theorem zast (k : Nat) (hexec : p.tables.exec = Jvm.exec) (hb : c.code = cc) (hK : va_K D cl tys s) (hP : va_P D cl ws H) (hD : va_D A ws) (hS : va_S A H0 H locs) (q0 t0 : Nat) {cA : ClassId} {n : Nat} {f : Nat → Int32} (ha : ws[q0]? = some (a, .inl (cA, n, .inl f))) (ht : tys[t0]? = some (cA, .int)) {i : Int32} {x : Int32} (hin : IX i k n) (hdg : decode cc pc = .ok (.iastore, 1))
    (kk : ∀ (H1 : Heap) (locs1 : List Loc), va_P D cl (ws.set q0 (a, .inl (cA, n, .inl (upd f k x)))) H1 → va_D A (ws.set q0 (a, .inl (cA, n, .inl (upd f k x)))) → va_S A H0 H1 locs1 → W p l e R s m args below meth c H1 locs1 cells slots Q (F0 m (pc + 1) ls rest)) : W p l e R s m args below meth c H locs cells slots Q (F0 m pc ls (.int x :: .int i :: .ref a :: rest)) := by
  obtain ⟨h1, rfl⟩ := hin
  exact va_iast hexec hb hK hP hD hS q0 t0 ha ht h1 hdg kk
theorem zcast (k : Nat) (hexec : p.tables.exec = Jvm.exec) (hb : c.code = cc) (hK : va_K D cl tys s) (hP : va_P D cl ws H) (hD : va_D A ws) (hS : va_S A H0 H locs) (q0 t0 : Nat) {cA : ClassId} {n : Nat} {f : Nat → Int32} (ha : ws[q0]? = some (a, .inl (cA, n, .inl f))) (ht : tys[t0]? = some (cA, .char)) {i : Int32} {x : Int32} (hin : IX i k n) (hx : vp_nar .char x = x) (hdg : decode cc pc = .ok (.castore, 1))
    (kk : ∀ (H1 : Heap) (locs1 : List Loc), va_P D cl (ws.set q0 (a, .inl (cA, n, .inl (upd f k x)))) H1 → va_D A (ws.set q0 (a, .inl (cA, n, .inl (upd f k x)))) → va_S A H0 H1 locs1 → W p l e R s m args below meth c H1 locs1 cells slots Q (F0 m (pc + 1) ls rest)) : W p l e R s m args below meth c H locs cells slots Q (F0 m pc ls (.int x :: .int i :: .ref a :: rest)) := by
  obtain ⟨h1, rfl⟩ := hin
  refine va_cast hexec hb hK hP hD hS q0 t0 ha ht h1 hdg ?_
  rw [hx]
  exact kk
theorem zti (k : Nat) (hexec : p.tables.exec = Jvm.exec) (hb : c.code = cc) {t N : Nat} {f : Nat → Int32} (hT : va_T .int t N (fun j => .int (f j)) A s s.heap) (hS : va_S A s.heap H locs) {i : Int32} (hin : IX i k N) (hdg : decode cc pc = .ok (.iaload, 1))
    (kk : W p l e R s m args below meth c H locs cells slots Q (F0 m (pc + 1) ls (.int (f k) :: rest))) : W p l e R s m args below meth c H locs cells slots Q (F0 m pc ls (.int i :: .ref t :: rest)) := by
  obtain ⟨h1, rfl⟩ := hin
  exact va_ti hexec hb hT hS h1 rfl hdg kk
end ZARR
/-- which way a switch over 0 .. n - 1 goes when none of them is met -/
theorem sw_out {x : Int32} {n : Nat} (hn : n < 2147483648) (h : ∀ k : Nat, k < n → x ≠ nI k) : x.toInt < 0 ∨ ((n : Int) - 1) < x.toInt := by
  rcases Int.lt_or_le x.toInt 0 with h0 | h0
  · exact Or.inl h0
  · refine Or.inr ?_
    rcases Int.lt_or_le ((n : Int) - 1) x.toInt with h1 | h1
    · exact h1
    · exact absurd (zof h0) (h x.toInt.toNat (by omega))
section ZTOP
variable {p : Program} {l : Launch} {e : Env} {R : Room} {s : State} {m : MethodId} {args : Array Value} {below : List Frame} {meth : Method} {c : Code} {H : Heap} {locs : List Loc} {cells slots : Nat} {Q : State → Prop} {pc : Nat} {ls : Array Slot} {rest : List Value}
theorem zTop {x y : Int32} (h : x = y) (k : W p l e R s m args below meth c H locs cells slots Q (F0 m pc ls (.int y :: rest))) : W p l e R s m args below meth c H locs cells slots Q (F0 m pc ls (.int x :: rest)) := by
  subst h
  exact k
end ZTOP
/-! a row's contents count below its length alone -/
theorem arrV_cg {cA : ClassId} {n : Nat} {f f' : Nat → Value} (h : ∀ k, k < n → f k = f' k) : arrV cA n f = arrV cA n f' := by
  unfold arrV
  have e : (fun j : Fin n => f j.val) = fun j : Fin n => f' j.val := by funext j; exact h j.val j.isLt
  rw [e]
theorem zP_arr {D : va_G} {cl : List vw_C} {ws : va_W} {H : Heap} {a n : Nat} {cA : ClassId} {f f' : Nat → Int32} (q : Nat) (ha : ws[q]? = some (a, .inl (cA, n, .inl f))) (h : ∀ k, k < n → f k = f' k) (hP : va_P D cl ws H) : va_P D cl (ws.set q (a, .inl (cA, n, .inl f'))) H := by
  intro k p hk
  by_cases e : k = q
  · subst e
    have hl := (List.getElem?_eq_some_iff.mp ha).1
    rw [List.getElem?_set_self hl] at hk
    cases hk
    have h1 := hP k _ ha
    show H[a]? = some (vp_cell cA (n, .inl f'))
    have h2 : H[a]? = some (vp_cell cA (n, .inl f)) := h1
    rw [h2, vp_cell_i, vp_cell_i, arrV_cg (fun k hk => by rw [h k hk])]
  · rw [List.getElem?_set_ne (fun z => e z.symm)] at hk
    exact hP k p hk
theorem zP_arq {D : va_G} {cl : List vw_C} {ws : va_W} {H : Heap} {a n : Nat} {cA : ClassId} {f f' : Nat → Option Nat} (q : Nat) (ha : ws[q]? = some (a, .inl (cA, n, .inr (.inr (.inr (.inr f)))))) (h : ∀ k, k < n → f k = f' k) (hP : va_P D cl ws H) : va_P D cl (ws.set q (a, .inl (cA, n, .inr (.inr (.inr (.inr f')))))) H := by
  intro k p hk
  by_cases e : k = q
  · subst e
    have hl := (List.getElem?_eq_some_iff.mp ha).1
    rw [List.getElem?_set_self hl] at hk
    cases hk
    have h1 := hP k _ ha
    show H[a]? = some (vp_cell cA (n, .inr (.inr (.inr (.inr f')))))
    have h2 : H[a]? = some (vp_cell cA (n, .inr (.inr (.inr (.inr f))))) := h1
    rw [h2, vp_cell_q, vp_cell_q, arrV_cg (fun k hk => by rw [h k hk])]
  · rw [List.getElem?_set_ne (fun z => e z.symm)] at hk
    exact hP k p hk
