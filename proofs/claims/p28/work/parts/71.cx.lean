/-! class: changes, the history behind them, and what tells a refusal -/
def kpAd (ps : Nat) (ad : Nat → Nat) : Nat → Nat := if ps = 4 then (fun k => ad ((k + 8) % 32)) else ad
def kpR (ps : Nat) (R : Nat → Nat → Int32) (S : Nat → Int32) : Nat → Nat → Int32 := fun k => if ps = 4 then (if k = 3 then S else R (k + 1)) else if k = ps then S else R k
def kpn (ps : Nat) : Nat := if ps = 4 then 4 else ps + 1
/-- the weights of the loads -/
def Wt (S : Nat → Int32) : Prop := ∀ k, k < (S 18).toInt.toNat → 1 ≤ (wtS S k).toInt
def Kv (S : Nat → Int32) : Prop := Jv S ∧ Wt S
theorem Wt_of {S f : Nat → Int32} (h : Wt S) (h6 : (S 18).toInt ≤ 6) (e : ∀ k, 18 ≤ k → k < 37 → f k = S k) : Wt f := by
  intro k hk
  rw [e 18 (by omega) (by omega)] at hk
  unfold wtS
  rw [e _ (by omega) (by omega)]
  exact h k hk
theorem goF_mid {S : Nat → Int32} {tg : Int32} {k : Nat} (h : 18 ≤ k) (h2 : k < 37) : goF S tg k = S k := by
  unfold goF
  by_cases q : rfR S tg = 0
  · rw [if_pos q]; exact goS_mid S tg h h2
  · rw [if_neg q]
theorem gbF_mid {S : Nat → Int32} {n : Int32} {k : Nat} (h : 18 ≤ k) (h2 : k < 37) : gbF S n k = S k := by
  unfold gbF
  by_cases q : gbC S n = 0
  · rw [if_pos q]; exact goS_mid S _ h h2
  · rw [if_neg q]
theorem hm_mid {S : Nat → Int32} {k : Nat} (h : 18 ≤ k) : (if hPP S then hmF S else S) k = S k := by
  by_cases q : hPP S
  · rw [if_pos q, show hmF S = hmS S from if_pos q]
    exact hmX_mid S _ h
  · rw [if_neg q]
theorem Kv_goF {S : Nat → Int32} {tg : Int32} (h : Kv S) : Kv (goF S tg) := ⟨Jv_goF h.1, Wt_of h.2 h.1.1.2.1.2 (fun _ a b => goF_mid a b)⟩
theorem Kv_gbF {S : Nat → Int32} {n : Int32} (h : Kv S) : Kv (gbF S n) := ⟨Jv_gbF h.1, Wt_of h.2 h.1.1.2.1.2 (fun _ a b => gbF_mid a b)⟩
theorem Kv_hm {S : Nat → Int32} (h : Kv S) : Kv (if hPP S then hmF S else S) := ⟨Jv_hm h.1, Wt_of h.2 h.1.1.2.1.2 (fun _ a _ => hm_mid a)⟩
theorem Kv_set {S : Nat → Int32} {w v : Int32} (h : Kv S) (hp : stP w v) : Kv (upd S w.toInt.toNat v) := ⟨Jv_set h.1 hp, Wt_of h.2 h.1.1.2.1.2 (fun k a _ => upd_ne (by have := w7 hp.1; omega))⟩
theorem Kv_lim {S : Nat → Int32} {p q : Int32} (h : Kv S) : Kv (upd (upd S 8 p) 9 q) := ⟨Jv_lim h.1, Wt_of h.2 h.1.1.2.1.2 (fun k a _ => by rw [upd_ne (by omega), upd_ne (by omega)])⟩
theorem Kv_forget {S : Nat → Int32} (h : Kv S) : Kv (upd S 37 0) := ⟨Jv_forget h.1, Wt_of h.2 h.1.1.2.1.2 (fun k _ b => upd_ne (by omega))⟩
theorem Kv_of {S f : Nat → Int32} (h : Kv S) (e : ∀ k, k < 63 → f k = S k) : Kv f := ⟨Jv_of h.1 e, Wt_of h.2 h.1.1.2.1.2 (fun k _ b => e k (by omega))⟩
theorem i1 : (1 : Int32).toInt = 1 := by decide +kernel
theorem ad_lt {S : Nat → Int32} {p q w : Int32} (h : Kv S) (ha : adP (S 18) p q w) : (S 18).toInt < 6 := by
  have h2 := h.1.1.2.1.2
  have h3 : ¬ (S 18).toInt = 6 := fun e => ha.2 (by rw [zeq, e, i6])
  omega
theorem adS_18' {S : Nat → Int32} {p q w : Int32} : adS S p q w 18 = S 18 + 1 := rfl
theorem Kv_ad {S : Nat → Int32} {p q w : Int32} (h : Kv S) (ha : adP (S 18) p q w) : Kv (adS S p q w) := by
  refine ⟨Jv_ad h.1 ha, fun k hk => ?_⟩
  have h6 := ad_lt h ha
  have h0 := h.1.1.2.1.1
  rw [adS_18', zadd (by rw [i1]; omega) (by rw [i1]; omega), i1] at hk
  unfold wtS adS
  rw [upd_ne (by omega)]
  by_cases e : k = (S 18).toInt.toNat
  · rw [e]
    have hw := ha.1.2.2.1
    rw [zle, i1] at hw
    show 1 ≤ (if _ then w else _ : Int32).toInt
    rw [if_pos rfl]
    exact hw
  · rw [upd_ne (by omega), upd_ne (by omega), upd_ne (by omega)]
    exact h.2 k (by omega)
theorem Kv_dr {S : Nat → Int32} {j : Int32} (h : Kv S) (hd : drP (S 18) j) : Kv (drS S j.toInt.toNat) := by
  refine ⟨Jv_dr h.1 hd, fun k hk => ?_⟩
  have hl := h.1.1.2.1
  have hj := hd.1
  have hjn := hd.2
  rw [zle, i0] at hj
  rw [zlt] at hjn
  have e18 : drS S j.toInt.toNat 18 = S 18 - 1 := rfl
  rw [e18, zsub (by rw [i1]; omega) (by rw [i1]; omega), i1] at hk
  unfold wtS drS drL
  rw [if_neg (by omega)]
  by_cases q : 19 + 3 * j.toInt.toNat ≤ 19 + 3 * k + 2 ∧ 19 + 3 * k + 2 < 19 + 3 * ((S 18).toInt.toNat - 1)
  · rw [if_pos q]
    exact h.2 (k + 1) (by omega)
  · rw [if_neg q]
    exact h.2 k (by omega)
/-! which answers are refusals -/
theorem ier : (-1000001 : Int32).toInt = -1000001 := by decide +kernel
theorem nn_ok {c : Nat} (h : c ≤ 100000) : ¬ nI c ≤ -1000001 := by
  rw [zle, znI (by omega), ier]
  omega
theorem gm_nn {S : Nat → Int32} {t D : Nat} {dir : Int32} : ∀ n, ∃ c, gmis S t D dir n = nI c ∧ c ≤ n
  | 0 => ⟨0, rfl, Nat.le_refl 0⟩
  | n + 1 => by
    obtain ⟨c, e, h⟩ := gm_nn (S := S) (t := t) (D := D) (dir := dir) n
    by_cases q : gMs S t D dir n
    · exact ⟨c + 1, by rw [gmis, if_pos q, e, nI_1], by omega⟩
    · exact ⟨c, by rw [gmis, if_neg q, e], by omega⟩
theorem st_in {S : Nat → Int32} (h : setOk S) {j : Nat} (hj : j < 8) : -2900 ≤ (S j).toInt := by
  obtain ⟨h0, h1, h2, h3, h4, h5, h6, h7⟩ := h
  match j, hj with
  | 0, _ => omega
  | 1, _ => omega
  | 2, _ => omega
  | 3, _ => omega
  | 4, _ => omega
  | 5, _ => omega
  | 6, _ => omega
  | 7, _ => omega
theorem st_ok {S : Nat → Int32} {w v : Int32} (h : Kv S) : ¬ stR S w v ≤ -1000001 ↔ stP w v := by
  unfold stR
  constructor
  · intro q
    exact Classical.byContradiction (fun z => q (by rw [if_neg z]; decide))
  · intro q
    rw [if_pos q, zle, ier]
    have := st_in h.1.1.1 (w7 q.1)
    omega
theorem lm_ok {t p q : Int32} : ¬ lmR t p q ≤ -1000001 ↔ lmP p q := by
  unfold lmR
  constructor
  · intro z
    exact Classical.byContradiction (fun y => z (by rw [if_neg y]; decide))
  · intro z
    rw [if_pos z]
    unfold b01
    split <;> decide
theorem ad_ok {S : Nat → Int32} {p q w : Int32} (h : Kv S) : ¬ adR (S 18) p q w ≤ -1000001 ↔ adP (S 18) p q w := by
  unfold adR
  by_cases z : okL p q w
  · rw [if_pos z]
    by_cases y : S 18 = 6
    · rw [if_pos y]
      exact ⟨fun x => absurd (by decide) x, fun x => absurd y x.2⟩
    · rw [if_neg y]
      refine ⟨fun _ => ⟨z, y⟩, fun _ => ?_⟩
      rw [zle, ier]
      have := h.1.1.2.1.1
      omega
  · rw [if_neg z]
    exact ⟨fun x => absurd (by decide) x, fun x => absurd x.1 z⟩
theorem dr_ok {S : Nat → Int32} {j : Int32} (h : Kv S) : ¬ drR (wtS S) (S 18) j ≤ -1000001 ↔ drP (S 18) j := by
  unfold drR
  by_cases z : j < 0
  · rw [if_pos z]
    exact ⟨fun x => absurd (by decide) x, fun x => absurd x.1 (znlt z)⟩
  · rw [if_neg z]
    by_cases y : j < S 18
    · rw [if_pos y]
      refine ⟨fun _ => ⟨zge z, y⟩, fun _ => ?_⟩
      have hz := zp0 (zge z)
      rw [zlt] at y
      have := h.2 j.toInt.toNat (by omega)
      rw [zle, ier]
      omega
    · rw [if_neg y]
      exact ⟨fun x => absurd (by decide) x, fun x => absurd x.2 y⟩
theorem rf_er {S : Nat → Int32} {tg : Int32} (h : ¬ rfR S tg = 0) : rfR S tg ≤ -1000001 := by
  by_cases q : okQ tg
  · rw [rf_np q h]; decide
  · rw [show rfR S tg = -1000001 from if_neg q]; decide
theorem go_ok {S : Nat → Int32} {tg : Int32} (h : Kv S) : ¬ goR S tg ≤ -1000001 ↔ rfR S tg = 0 := by
  unfold goR
  by_cases q : rfR S tg = 0
  · rw [if_pos q]
    refine ⟨fun _ => q, fun _ => ?_⟩
    have hD := dist_le h.1.1.2.2.2.1 (okQ_P.mp (rf_ok q))
    obtain ⟨c, e, hc⟩ := gm_nn (S := S) (t := topS S) (D := gD S tg) (dir := gDir S tg) (gD S tg)
    have e2 : goM S tg = nI c := e
    rw [e2]
    exact nn_ok (by have : gD S tg ≤ 8000 := hD; omega)
  · rw [if_neg q]
    exact ⟨fun x => absurd (rf_er q) x, fun x => absurd x q⟩
theorem gb_ok {S : Nat → Int32} {n : Int32} (h : Kv S) : ¬ gbR S n ≤ -1000001 ↔ gbC S n = 0 := by
  unfold gbR gbC
  by_cases q : okQ n
  · rw [if_pos q, if_pos q]
    by_cases z : okQ (S 10 + n)
    · rw [if_pos z, if_pos z]
      exact go_ok h
    · rw [if_neg z, if_neg z]
      exact ⟨fun x => absurd (by decide) x, fun x => absurd x (by decide)⟩
  · rw [if_neg q, if_neg q]
    exact ⟨fun x => absurd (by decide) x, fun x => absurd x (by decide)⟩
theorem hm_ok {S : Nat → Int32} (h : Kv S) : ¬ hmR S ≤ -1000001 ↔ hPP S := by
  unfold hmR
  by_cases q : hPP S
  · rw [if_pos q]
    refine ⟨fun _ => q, fun _ => nn_ok ?_⟩
    have a1 := h1_le S
    have a2 := h2_le S
    have a3 := h3_le S
    have a4 := kSl_le h.1.1.1
    omega
  · rw [if_neg q]
    exact ⟨fun x => absurd (by decide) x, fun x => absurd x q⟩
theorem fg_ok {S : Nat → Int32} (h : Kv S) : ¬ S 37 ≤ -1000001 := by
  rw [zle, ier]
  have := h.1.1.2.2.1.1
  omega
/-! the rows that the changes make -/
def lmX (S : Nat → Int32) (p q : Int32) : Nat → Int32 := if lmP p q then upd (upd S 8 p) 9 q else S
def adX (S : Nat → Int32) (p q w : Int32) : Nat → Int32 := if adP (S 18) p q w then adS S p q w else S
def drX (S : Nat → Int32) (j : Int32) : Nat → Int32 := if drP (S 18) j then drS S j.toInt.toNat else S
theorem lmX_8 (S : Nat → Int32) (p q : Int32) : lmX S p q 8 = if lmP p q then p else S 8 := by
  unfold lmX
  by_cases h : lmP p q
  · rw [if_pos h, if_pos h]; rfl
  · rw [if_neg h, if_neg h]
theorem lmX_9 (S : Nat → Int32) (p q : Int32) : lmX S p q 9 = if lmP p q then q else S 9 := by
  unfold lmX
  by_cases h : lmP p q
  · rw [if_pos h, if_pos h]; rfl
  · rw [if_neg h, if_neg h]
theorem lmX_o (S : Nat → Int32) (p q : Int32) {k : Nat} (h8 : ¬ k = 8) (h9 : ¬ k = 9) : lmX S p q k = S k := by
  unfold lmX
  by_cases h : lmP p q
  · rw [if_pos h, upd_ne h9, upd_ne h8]
  · rw [if_neg h]
theorem lmX_fr (S : Nat → Int32) (p q : Int32) : frS (lmX S p q) = frS S := by funext k; exact lmX_o S p q (by omega) (by omega)
theorem lmX_to (S : Nat → Int32) (p q : Int32) : toS (lmX S p q) = toS S := by funext k; exact lmX_o S p q (by omega) (by omega)
theorem lmX_wt (S : Nat → Int32) (p q : Int32) : wtS (lmX S p q) = wtS S := by funext k; exact lmX_o S p q (by omega) (by omega)
theorem lmX_mv (S : Nat → Int32) (p q : Int32) : mvS (lmX S p q) = mvS S := by funext k; exact lmX_o S p q (by omega) (by omega)
theorem adX_lo (S : Nat → Int32) (p q w : Int32) {k : Nat} (hk : k < 18) : adX S p q w k = S k := by
  unfold adX
  by_cases h : adP (S 18) p q w
  · rw [if_pos h]; exact adS_lo hk
  · rw [if_neg h]
theorem adX_18 (S : Nat → Int32) (p q w : Int32) : adX S p q w 18 = if adP (S 18) p q w then S 18 + 1 else S 18 := by
  unfold adX
  by_cases h : adP (S 18) p q w
  · rw [if_pos h, if_pos h]; rfl
  · rw [if_neg h, if_neg h]
theorem adX_hi {S : Nat → Int32} (hv : Kv S) (p q w : Int32) {k : Nat} (hk : 37 ≤ k) : adX S p q w k = S k := by
  unfold adX
  by_cases h : adP (S 18) p q w
  · rw [if_pos h]; exact adS_hi (ad_lt hv h) hk
  · rw [if_neg h]
theorem adX_mv {S : Nat → Int32} (hv : Kv S) (p q w : Int32) : mvS (adX S p q w) = mvS S := by funext k; exact adX_hi hv p q w (by omega)
theorem adX_fr (S : Nat → Int32) (p q w : Int32) (k : Nat) : (if adP (S 18) p q w then upd (frS S) (S 18).toInt.toNat p else frS S) k = frS (adX S p q w) k := by
  unfold adX
  by_cases h : adP (S 18) p q w
  · rw [if_pos h, if_pos h]
    unfold frS adS
    rw [upd_ne (show ¬ 19 + 3 * k = 18 by omega), upd_ne (show ¬ 19 + 3 * k = 19 + 3 * (S 18).toInt.toNat + 2 by omega), upd_ne (show ¬ 19 + 3 * k = 19 + 3 * (S 18).toInt.toNat + 1 by omega)]
    by_cases e : k = (S 18).toInt.toNat
    · rw [e]; unfold upd; rw [if_pos rfl, if_pos rfl]
    · rw [upd_ne e, upd_ne (by omega)]
  · rw [if_neg h, if_neg h]
theorem adX_to (S : Nat → Int32) (p q w : Int32) (k : Nat) : (if adP (S 18) p q w then upd (toS S) (S 18).toInt.toNat q else toS S) k = toS (adX S p q w) k := by
  unfold adX
  by_cases h : adP (S 18) p q w
  · rw [if_pos h, if_pos h]
    unfold toS adS
    rw [upd_ne (show ¬ 19 + 3 * k + 1 = 18 by omega), upd_ne (show ¬ 19 + 3 * k + 1 = 19 + 3 * (S 18).toInt.toNat + 2 by omega)]
    by_cases e : k = (S 18).toInt.toNat
    · rw [e]; unfold upd; rw [if_pos rfl, if_pos rfl]
    · rw [upd_ne e, upd_ne (by omega), upd_ne (by omega)]
  · rw [if_neg h, if_neg h]
theorem adX_wt (S : Nat → Int32) (p q w : Int32) (k : Nat) : (if adP (S 18) p q w then upd (wtS S) (S 18).toInt.toNat w else wtS S) k = wtS (adX S p q w) k := by
  unfold adX
  by_cases h : adP (S 18) p q w
  · rw [if_pos h, if_pos h]
    unfold wtS adS
    rw [upd_ne (show ¬ 19 + 3 * k + 2 = 18 by omega)]
    by_cases e : k = (S 18).toInt.toNat
    · rw [e]; unfold upd; rw [if_pos rfl, if_pos rfl]
    · rw [upd_ne e, upd_ne (by omega), upd_ne (by omega), upd_ne (by omega)]
  · rw [if_neg h, if_neg h]
theorem drX_lo (S : Nat → Int32) (j : Int32) {k : Nat} (hk : k < 18) : drX S j k = S k := by
  unfold drX
  by_cases h : drP (S 18) j
  · rw [if_pos h]; exact drS_lo hk
  · rw [if_neg h]
theorem drX_18 (S : Nat → Int32) (j : Int32) : drX S j 18 = if drP (S 18) j then S 18 - 1 else S 18 := by
  unfold drX
  by_cases h : drP (S 18) j
  · rw [if_pos h, if_pos h]; rfl
  · rw [if_neg h, if_neg h]
theorem drX_hi {S : Nat → Int32} (hv : Kv S) (j : Int32) {k : Nat} (hk : 37 ≤ k) : drX S j k = S k := by
  unfold drX
  by_cases h : drP (S 18) j
  · rw [if_pos h]; exact drS_hi hv.1.1.2.1.2 hk
  · rw [if_neg h]
theorem drX_mv {S : Nat → Int32} (hv : Kv S) (j : Int32) : mvS (drX S j) = mvS S := by funext k; exact drX_hi hv j (by omega)
theorem drX_c {S : Nat → Int32} {j : Int32} (h : drP (S 18) j) {k r : Nat} (hr : r < 3) : (if j.toInt.toNat ≤ k ∧ k + 1 < (S 18).toInt.toNat then S (19 + 3 * (k + 1) + r) else S (19 + 3 * k + r)) = drS S j.toInt.toNat (19 + 3 * k + r) := by
  unfold drS drL
  rw [if_neg (show ¬ 19 + 3 * k + r = 18 by omega)]
  by_cases q : j.toInt.toNat ≤ k ∧ k + 1 < (S 18).toInt.toNat
  · rw [if_pos q, if_pos (by omega)]
    exact congrArg S (by omega)
  · rw [if_neg q, if_neg (by omega)]
theorem drX_fr (S : Nat → Int32) (j : Int32) (k : Nat) : (if drP (S 18) j then drF (frS S) j.toInt.toNat (S 18).toInt.toNat else frS S) k = frS (drX S j) k := by
  unfold drX
  by_cases h : drP (S 18) j
  · rw [if_pos h, if_pos h]
    exact drX_c h (r := 0) (by decide)
  · rw [if_neg h, if_neg h]
theorem drX_to (S : Nat → Int32) (j : Int32) (k : Nat) : (if drP (S 18) j then drF (toS S) j.toInt.toNat (S 18).toInt.toNat else toS S) k = toS (drX S j) k := by
  unfold drX
  by_cases h : drP (S 18) j
  · rw [if_pos h, if_pos h]
    exact drX_c h (r := 1) (by decide)
  · rw [if_neg h, if_neg h]
theorem drX_wt (S : Nat → Int32) (j : Int32) (k : Nat) : (if drP (S 18) j then drF (wtS S) j.toInt.toNat (S 18).toInt.toNat else wtS S) k = wtS (drX S j) k := by
  unfold drX
  by_cases h : drP (S 18) j
  · rw [if_pos h, if_pos h]
    exact drX_c h (r := 2) (by decide)
  · rw [if_neg h, if_neg h]
theorem bt {S : Nat → Int32} (h : Kv S) : bit1 (S 13) ∧ bit1 (S 14) := ⟨h.1.1.2.2.2.2.1, h.1.1.2.2.2.2.2⟩
theorem Kv_stX {S : Nat → Int32} {w v : Int32} (h : Kv S) : Kv (stX S w v) := by
  unfold stX
  by_cases q : stP w v
  · rw [if_pos q]; exact Kv_set h q
  · rw [if_neg q]; exact h
theorem Kv_lmX {S : Nat → Int32} {p q : Int32} (h : Kv S) : Kv (lmX S p q) := by
  unfold lmX
  by_cases z : lmP p q
  · rw [if_pos z]; exact Kv_lim h
  · rw [if_neg z]; exact h
theorem Kv_adX {S : Nat → Int32} {p q w : Int32} (h : Kv S) : Kv (adX S p q w) := by
  unfold adX
  by_cases z : adP (S 18) p q w
  · rw [if_pos z]; exact Kv_ad h z
  · rw [if_neg z]; exact h
theorem Kv_drX {S : Nat → Int32} {j : Int32} (h : Kv S) : Kv (drX S j) := by
  unfold drX
  by_cases z : drP (S 18) j
  · rw [if_pos z]; exact Kv_dr h z
  · rw [if_neg z]; exact h

