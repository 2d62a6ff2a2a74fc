set_option maxHeartbeats 4000000 in
set_option maxRecDepth 100000 in
theorem m_sign (l : Launch) (g : G3) (f0 f1 n p : Nat) (kd se nu : Int32) (tx : Nat → Int32) (hn : n ≤ 60) (hp : p ≤ 100) : MI l yX6_sign wsX6_sign (rk 0 0) g [.ref f0] [(f0, oB 6 [.ref f1, .int (nI n), .int (nI p), .int kd, .int se, .int nu]), (f1, aC g 60 tx)] (sgnT tx n p) [(f0, oB 6 [.ref f1, .int (nI n), .int (nI p), .int kd, .int se, .int nu]), (f1, aC g 60 tx)] := by
  refine zWalk.met (Qc := fun A => zQi g (sgnT tx n p) [(f0, oB 6 [.ref f1, .int (nI n), .int (nI p), .int kd, .int se, .int nu]), (f1, aC g 60 tx)] A) (cc := cX6_sign) (maxL := 1) (ret := (some .int)) ?_ (by decide) rfl (Nat.le_of_ble_eq_true rfl)
  intro pg ev sx mi args below meth cd A H locs ls hx hb hr hml hown hts hlocks hA hE hK hP hD hS hl
  have iX6 : ∀ w ∈ u_ws RX6 TX6 6, w ∈ wsX6_sign := (fun _ h => (List.mem_cons_of_mem _ (List.mem_append_right _ h)))
  have hl : lv_has ls 1 [(0, .ref f0)] := hl
  refine lv_aload_n hx hb dX6_sign_0 rfl (lv_at hl 0 rfl) ?_
  refine va_get (D := g.1) (ci := 6) (v := .int (nI p)) (C := RX6) (T := TX6) (N := 6) hx hb hts iX6 hown hK hP 0 rfl rfl 2 (by decide) (hts (.fieldLink RX6 25 "StepAxis$Script" "position" "I") (List.mem_of_getElem? (i := 1) rfl)) (fun _ h9 => h9) rfl dX6_sign_1 ?_
  refine lv_if_lt (tgt := 39) hx hb dX6_sign_4 (by decide) (fun c4 => ?_) (fun c4 => ?_)
  · exact absurd c4 (nI_pos (by omega))
  · refine lv_aload_n hx hb dX6_sign_7 rfl (lv_at hl 0 rfl) ?_
    refine va_get (D := g.1) (ci := 6) (v := .int (nI p)) (C := RX6) (T := TX6) (N := 6) hx hb hts iX6 hown hK hP 0 rfl rfl 2 (by decide) (hts (.fieldLink RX6 25 "StepAxis$Script" "position" "I") (List.mem_of_getElem? (i := 1) rfl)) (fun _ h9 => h9) rfl dX6_sign_8 ?_
    refine lv_aload_n hx hb dX6_sign_11 rfl (lv_at hl 0 rfl) ?_
    refine va_get (D := g.1) (ci := 6) (v := .int (nI n)) (C := RX6) (T := TX6) (N := 6) hx hb hts iX6 hown hK hP 0 rfl rfl 1 (by decide) (hts (.fieldLink RX6 20 "StepAxis$Script" "length" "I") (List.mem_of_getElem? (i := 2) rfl)) (fun _ h9 => h9) rfl dX6_sign_12 ?_
    refine lv_icmp_ge (tgt := 39) hx hb dX6_sign_15 (by decide) (fun c15 => ?_) (fun c15 => ?_)
    · refine lv_iconst (v := 0) hx hb dX6_sign_39 (by decide +kernel) ?_
      exact zEi (v := 0) (ws' := [(f0, oB 6 [.ref f1, .int (nI n), .int (nI p), .int kd, .int se, .int nu]), (f1, aC g 60 tx)]) hx hb hlocks hr rfl hK hP hD hS [0, 1] rfl rfl (if_neg (by have := nle_of (by omega) (by omega) c15; omega)).symm rfl dX6_sign_40
    · refine lv_aload_n hx hb dX6_sign_18 rfl (lv_at hl 0 rfl) ?_
      refine va_get (D := g.1) (ci := 6) (v := .int (nI p)) (C := RX6) (T := TX6) (N := 6) hx hb hts iX6 hown hK hP 0 rfl rfl 2 (by decide) (hts (.fieldLink RX6 25 "StepAxis$Script" "position" "I") (List.mem_of_getElem? (i := 1) rfl)) (fun _ h9 => h9) rfl dX6_sign_19 ?_
      refine lv_bipush (v := 60) hx hb dX6_sign_22 (by decide +kernel) ?_
      refine lv_icmp_ge (tgt := 39) hx hb dX6_sign_24 (by decide) (fun c24 => ?_) (fun c24 => ?_)
      · exact absurd (nle_of (n := 60) (by decide) (by omega) c24) (by have := nlt_of (by omega) c15; omega)
      · refine lv_aload_n hx hb dX6_sign_27 rfl (lv_at hl 0 rfl) ?_
        refine va_get (D := g.1) (ci := 6) (v := .ref f1) (C := RX6) (T := TX6) (N := 6) hx hb hts iX6 hown hK hP 0 rfl rfl 0 (by decide) (hts (.fieldLink RX6 9 "StepAxis$Script" "signs" "[C") (List.mem_of_getElem? (i := 3) rfl)) (fun _ h9 => h9) rfl dX6_sign_28 ?_
        refine lv_aload_n hx hb dX6_sign_31 rfl (lv_at hl 0 rfl) ?_
        refine va_get (D := g.1) (ci := 6) (v := .int (nI p)) (C := RX6) (T := TX6) (N := 6) hx hb hts iX6 hown hK hP 0 rfl rfl 2 (by decide) (hts (.fieldLink RX6 25 "StepAxis$Script" "position" "I") (List.mem_of_getElem? (i := 1) rfl)) (fun _ h9 => h9) rfl dX6_sign_32 ?_
        refine zcald (k := p) hx hb hK hP 1 1 rfl rfl (IX.of rfl (by have := nlt_of (by omega) c15; omega) (by decide)) dX6_sign_35 ?_
        refine lv_goto (tgt := 40) hx hb dX6_sign_36 (by decide) ?_
        exact zEi (v := tx p) (ws' := [(f0, oB 6 [.ref f1, .int (nI n), .int (nI p), .int kd, .int se, .int nu]), (f1, aC g 60 tx)]) hx hb hlocks hr rfl hK hP hD hS [0, 1] rfl rfl (if_pos (nlt_of (by omega) c15)).symm rfl dX6_sign_40
set_option maxHeartbeats 4000000 in
set_option maxRecDepth 100000 in
theorem m_skip (l : Launch) (g : G3) (f0 f1 n p : Nat) (kd se nu : Int32) (tx : Nat → Int32) (c : Int32) (hn : n ≤ 60) (hp : p ≤ 100) (hc : ¬ c = 0) : MI l yX6_skip wsX6_skip (rk 1 20) g [.ref f0, .int c] [(f0, oB 6 [.ref f1, .int (nI n), .int (nI p), .int kd, .int se, .int nu]), (f1, aC g 60 tx)] (b01 (skP tx n p c)) [(f0, oB 6 [.ref f1, .int (nI n), .int (nI (skN tx n p c)), .int kd, .int se, .int nu]), (f1, aC g 60 tx)] := by
  refine zWalk.met (Qc := fun A => zQi g (b01 (skP tx n p c)) [(f0, oB 6 [.ref f1, .int (nI n), .int (nI (skN tx n p c)), .int kd, .int se, .int nu]), (f1, aC g 60 tx)] A) (cc := cX6_skip) (maxL := 2) (ret := (some .boolean)) ?_ (by decide) rfl (Nat.le_of_ble_eq_true rfl)
  intro pg ev sx mi args below meth cd A H locs ls hx hb hr hml hown hts hlocks hA hE hK hP hD hS hl
  have iX6 : ∀ w ∈ u_ws RX6 TX6 6, w ∈ wsX6_skip := (fun _ h => (List.mem_cons_of_mem _ (List.mem_append_right _ h)))
  have hl : lv_has ls 2 [(0, .ref f0), (1, .int c)] := hl
  refine lv_aload_n hx hb dX6_skip_0 rfl (lv_at hl 0 rfl) ?_
  refine zVI (As := []) (rest := []) (wc := [(f0, oB 6 [.ref f1, .int (nI n), .int (nI p), .int kd, .int se, .int nu]), (f1, aC g 60 tx)]) (wr := []) (wc' := [(f0, oB 6 [.ref f1, .int (nI n), .int (nI p), .int kd, .int se, .int nu]), (f1, aC g 60 tx)]) ⟨hx, hb, hml, hown, hts⟩ (m_sign l g f0 f1 n p kd se nu tx hn hp) (cwV 0 hts gX6_skip_X6_sign rfl rfl rfl (by decide +kernel) ⟨Nat.le_of_ble_eq_true rfl, Nat.le_of_ble_eq_true rfl⟩) hE hK hP hD hS hA 0 6 rfl rfl rfl [0, 1] [] rfl rfl rfl rfl (by decide) rfl hl.1 rfl (lv_room (Nat.le_of_ble_eq_true rfl)) ⟨Nat.zero_le _, Nat.zero_le _⟩ dX6_skip_1 (fun H locs hP hD hS => ?_)
  have hP : va_P g.1 vwCl [(f0, oB 6 [.ref f1, .int (nI n), .int (nI p), .int kd, .int se, .int nu]), (f1, aC g 60 tx)] H := hP
  have hD : va_D A [(f0, oB 6 [.ref f1, .int (nI n), .int (nI p), .int kd, .int se, .int nu]), (f1, aC g 60 tx)] := hD
  refine lv_iload_n hx hb dX6_skip_4 rfl (lv_at hl 1 rfl) ?_
  refine lv_icmp_eq (tgt := 10) hx hb dX6_skip_5 (by decide) (fun c5 => ?_) (fun c5 => ?_)
  · refine lv_aload_n hx hb dX6_skip_10 rfl (lv_at hl 0 rfl) ?_
    refine lv_dup hx hb dX6_skip_11 rfl ?_
    refine va_get (D := g.1) (ci := 6) (v := .int (nI p)) (C := RX6) (T := TX6) (N := 6) hx hb hts iX6 hown hK hP 0 rfl rfl 2 (by decide) (hts (.fieldLink RX6 25 "StepAxis$Script" "position" "I") (List.mem_of_getElem? (i := 1) rfl)) (fun _ h9 => h9) rfl dX6_skip_12 ?_
    refine lv_iconst (v := 1) hx hb dX6_skip_15 (by decide +kernel) ?_
    refine lv_iadd hx hb dX6_skip_16 ?_
    refine va_put (D := g.1) (ci := 6) (v := .int ((nI p) + 1)) (ty := .int) (C := RX6) (T := TX6) (N := 6) hx hb hts iX6 tyX6 tyX6_ok nmX6 hown hK hP hD hS 0 rfl rfl 2 (by decide) (hts (.fieldLink RX6 25 "StepAxis$Script" "position" "I") (List.mem_of_getElem? (i := 1) rfl)) (fun _ h9 => h9) rfl (by decide +kernel) rfl rfl (Nat.le_of_ble_eq_true rfl) dX6_skip_17 (fun H locs hP hD hS => ?_)
    have hP : va_P g.1 vwCl [(f0, oB 6 [.ref f1, .int (nI n), .int ((nI p) + 1), .int kd, .int se, .int nu]), (f1, aC g 60 tx)] H := hP
    have hD : va_D A [(f0, oB 6 [.ref f1, .int (nI n), .int ((nI p) + 1), .int kd, .int se, .int nu]), (f1, aC g 60 tx)] := hD
    refine lv_iconst (v := 1) hx hb dX6_skip_20 (by decide +kernel) ?_
    exact zEi (v := 1) (ws' := [(f0, oB 6 [.ref f1, .int (nI n), .int ((nI p) + 1), .int kd, .int se, .int nu]), (f1, aC g 60 tx)]) hx hb hlocks hr rfl hK hP hD hS [0, 1] rfl rfl (b01_1 ((sgn_eq hc).mp c5)).symm (by rw [show skN tx n p c = p + 1 from if_pos ((sgn_eq hc).mp c5), ← nI_1]) dX6_skip_21
  · refine lv_iconst (v := 0) hx hb dX6_skip_8 (by decide +kernel) ?_
    exact zEi (v := 0) (ws' := [(f0, oB 6 [.ref f1, .int (nI n), .int (nI p), .int kd, .int se, .int nu]), (f1, aC g 60 tx)]) hx hb hlocks hr rfl hK hP hD hS [0, 1] rfl rfl (b01_0 (fun h => c5 ((sgn_eq hc).mpr h))).symm (by rw [show skN tx n p c = p from if_neg (fun h => c5 ((sgn_eq hc).mpr h))]) dX6_skip_9
set_option maxHeartbeats 4000000 in
set_option maxRecDepth 100000 in
theorem m_readDigits (l : Launch) (g : G3) (f0 f1 n p : Nat) (kd se nu : Int32) (tx : Nat → Int32) (hn : n ≤ 60) (hp2 : p ≤ 90) : MI l yX6_readDigits wsX6_readDigits (rk 1 22) g [.ref f0] [(f0, oB 6 [.ref f1, .int (nI n), .int (nI p), .int kd, .int se, .int nu]), (f1, aC g 60 tx)] (b01 (dgO tx n p)) [(f0, oB 6 [.ref f1, .int (nI n), .int (nI ((dgt tx n p).2)), .int kd, .int se, .int ((dgt tx n p).1)]), (f1, aC g 60 tx)] := by
  refine zWalk.met (Qc := fun A => zQi g (b01 (dgO tx n p)) [(f0, oB 6 [.ref f1, .int (nI n), .int (nI ((dgt tx n p).2)), .int kd, .int se, .int ((dgt tx n p).1)]), (f1, aC g 60 tx)] A) (cc := cX6_readDigits) (maxL := 2) (ret := (some .boolean)) ?_ (by decide) rfl (Nat.le_of_ble_eq_true rfl)
  intro pg ev sx mi args below meth cd A H locs ls hx hb hr hml hown hts hlocks hA hE hK hP hD hS hl
  have iX6 : ∀ w ∈ u_ws RX6 TX6 6, w ∈ wsX6_readDigits := (fun _ h => (List.mem_cons_of_mem _ (List.mem_append_right _ h)))
  have hl : lv_has ls 2 [(0, .ref f0)] := hl
  refine lv_aload_n hx hb dX6_readDigits_0 rfl (lv_at hl 0 rfl) ?_
  refine lv_iconst (v := 0) hx hb dX6_readDigits_1 (by decide +kernel) ?_
  refine va_put (D := g.1) (ci := 6) (v := .int 0) (ty := .int) (C := RX6) (T := TX6) (N := 6) hx hb hts iX6 tyX6 tyX6_ok nmX6 hown hK hP hD hS 0 rfl rfl 5 (by decide) (hts (.fieldLink RX6 49 "StepAxis$Script" "number" "I") (List.mem_of_getElem? (i := 1) rfl)) (fun _ h9 => h9) rfl (by decide +kernel) rfl rfl (Nat.le_of_ble_eq_true rfl) dX6_readDigits_2 (fun H locs hP hD hS => ?_)
  have hP : va_P g.1 vwCl [(f0, oB 6 [.ref f1, .int (nI n), .int (nI p), .int kd, .int se, .int 0]), (f1, aC g 60 tx)] H := hP
  have hD : va_D A [(f0, oB 6 [.ref f1, .int (nI n), .int (nI p), .int kd, .int se, .int 0]), (f1, aC g 60 tx)] := hD
  refine lv_iconst (v := 0) hx hb dX6_readDigits_5 (by decide +kernel) ?_
  refine lv_istore_n (lv' := [(1, .int 0), (0, .ref f0)]) hx hb dX6_readDigits_6 rfl hl (by decide) rfl (fun ls hl => ?_)
  have lp7 : ∀ (fu : Nat) (k : Nat) (j : Int32) (q : Nat) (v : Int32), (k ≤ 4) → (j = nI k) → (q = p + k) → (dgs tx n (4 - k) q v = dgt tx n p) → (4 - k) < fu → ∀ (H : Heap) (locs : List Loc), va_P g.1 vwCl [(f0, oB 6 [.ref f1, .int (nI n), .int (nI q), .int kd, .int se, .int v]), (f1, aC g 60 tx)] H → va_D A [(f0, oB 6 [.ref f1, .int (nI n), .int (nI q), .int kd, .int se, .int v]), (f1, aC g 60 tx)] → va_S A sx.heap H locs → ∀ (ls : Array Slot), lv_has ls 2 [(1, .int j), (0, .ref f0)] → W pg l ev (rk 1 22) sx mi args below meth cd H locs 0 0 (MQ below (zQi g (b01 (dgO tx n p)) [(f0, oB 6 [.ref f1, .int (nI n), .int (nI ((dgt tx n p).2)), .int kd, .int se, .int ((dgt tx n p).1)]), (f1, aC g 60 tx)] A) args sx 0 0 A) (F0 mi 7 ls []) := by
    intro fu
    induction fu with
    | zero =>
      intro k j q v hk ej eq hd hmu
      exact absurd hmu (Nat.not_lt_zero _)
    | succ fu ih =>
      intro k j q v hk ej eq hd hmu H locs hP hD hS ls hl
      refine lv_iload_n hx hb dX6_readDigits_7 rfl (lv_at hl 0 rfl) ?_
      refine lv_iconst (v := 4) hx hb dX6_readDigits_8 (by decide +kernel) ?_
      refine lv_icmp_ge (tgt := 61) hx hb dX6_readDigits_9 (by decide) (fun c9 => ?_) (fun c9 => ?_)
      · have hkn : k = 4 := Nat.le_antisymm hk (nle_of (by decide) (by omega) (by rw [ej] at c9; exact c9))
        have hd2 : (v, q) = dgt tx n p := by rw [← hd, hkn]; rfl
        refine lv_iload_n hx hb dX6_readDigits_61 rfl (lv_at hl 0 rfl) ?_
        refine lv_if_le (tgt := 69) hx hb dX6_readDigits_62 (by decide) (fun c62 => ?_) (fun c62 => ?_)
        · refine lv_iconst (v := 0) hx hb dX6_readDigits_69 (by decide +kernel) ?_
          exact zEi (v := 0) (ws' := [(f0, oB 6 [.ref f1, .int (nI n), .int (nI q), .int kd, .int se, .int v]), (f1, aC g 60 tx)]) hx hb hlocks hr rfl hK hP hD hS [0, 1] rfl rfl (b01_0 (by show ¬ p < (dgt tx n p).2; rw [← hd2]; show ¬ p < q; have := (nle_of (n := k) (k := 0) (by omega) (by omega) (by rw [ej] at c62; exact c62)); omega)).symm (by rw [← hd2]) dX6_readDigits_70
        · refine lv_iconst (v := 1) hx hb dX6_readDigits_65 (by decide +kernel) ?_
          refine lv_goto (tgt := 70) hx hb dX6_readDigits_66 (by decide) ?_
          exact zEi (v := 1) (ws' := [(f0, oB 6 [.ref f1, .int (nI n), .int (nI q), .int kd, .int se, .int v]), (f1, aC g 60 tx)]) hx hb hlocks hr rfl hK hP hD hS [0, 1] rfl rfl (b01_1 (by show  p < (dgt tx n p).2; rw [← hd2]; show  p < q; have := (nlt_of (n := k) (k := 0) (by omega) (by rw [ej] at c62; exact fun h => c62 h)); omega)).symm (by rw [← hd2]) dX6_readDigits_70
      · have hlt : k + 1 ≤ 4 := nlt_of (n := 4) (by decide) (by rw [ej] at c9; exact c9)
        refine lv_aload_n hx hb dX6_readDigits_12 rfl (lv_at hl 1 rfl) ?_
        refine zVI (As := []) (rest := []) (wc := [(f0, oB 6 [.ref f1, .int (nI n), .int (nI q), .int kd, .int se, .int v]), (f1, aC g 60 tx)]) (wr := []) (wc' := [(f0, oB 6 [.ref f1, .int (nI n), .int (nI q), .int kd, .int se, .int v]), (f1, aC g 60 tx)]) ⟨hx, hb, hml, hown, hts⟩ (m_sign l g f0 f1 n q kd se v tx hn (by omega)) (cwV 0 hts gX6_readDigits_X6_sign rfl rfl rfl (by decide +kernel) ⟨Nat.le_of_ble_eq_true rfl, Nat.le_of_ble_eq_true rfl⟩) hE hK hP hD hS hA 0 6 rfl rfl rfl [0, 1] [] rfl rfl rfl rfl (by decide) rfl hl.1 rfl (lv_room (Nat.le_of_ble_eq_true rfl)) ⟨Nat.zero_le _, Nat.zero_le _⟩ dX6_readDigits_13 (fun H locs hP hD hS => ?_)
        have hP : va_P g.1 vwCl [(f0, oB 6 [.ref f1, .int (nI n), .int (nI q), .int kd, .int se, .int v]), (f1, aC g 60 tx)] H := hP
        have hD : va_D A [(f0, oB 6 [.ref f1, .int (nI n), .int (nI q), .int kd, .int se, .int v]), (f1, aC g 60 tx)] := hD
        refine lv_bipush (v := 48) hx hb dX6_readDigits_16 (by decide +kernel) ?_
        refine lv_bipush (v := 57) hx hb dX6_readDigits_18 (by decide +kernel) ?_
        refine zNI (As := [.int (sgnT tx n q), .int 48, .int 57]) (rest := []) (wc := []) (wr := [(f0, oB 6 [.ref f1, .int (nI n), .int (nI q), .int kd, .int se, .int v]), (f1, aC g 60 tx)]) (wc' := []) ⟨hx, hb, hml, hown, hts⟩ (m_within l g (sgnT tx n q) 48 57) ⟨va_cnB 3 hts gX6_readDigits_X8_within_n15 rfl rfl rfl (nwm_15 hE.1) (hts (.initialized RX8) (List.mem_of_getElem? (i := 11) rfl)) (by decide +kernel) ⟨Nat.le_of_ble_eq_true rfl, Nat.le_of_ble_eq_true rfl⟩, (hts (.static yX8_within) (List.mem_of_getElem? (i := 10) rfl)), trivial⟩ hE hK hP hD hS hA [] [0, 1] rfl rfl rfl rfl (by decide) rfl hl.1 rfl (lv_room (Nat.le_of_ble_eq_true rfl)) ⟨Nat.zero_le _, Nat.zero_le _⟩ dX6_readDigits_20 (fun H locs hP hD hS => ?_)
        have hP : va_P g.1 vwCl [(f0, oB 6 [.ref f1, .int (nI n), .int (nI q), .int kd, .int se, .int v]), (f1, aC g 60 tx)] H := hP
        have hD : va_D A [(f0, oB 6 [.ref f1, .int (nI n), .int (nI q), .int kd, .int se, .int v]), (f1, aC g 60 tx)] := hD
        refine lv_if_eq (tgt := 61) hx hb dX6_readDigits_23 (by decide) (fun c23 => ?_) (fun c23 => ?_)
        · have c23 := b01_f c23
          have hd2 : (v, q) = dgt tx n p := by rw [← hd, dgs_0 (fun h => c23 (sgn_dg.mpr h))]
          refine lv_iload_n hx hb dX6_readDigits_61 rfl (lv_at hl 0 rfl) ?_
          refine lv_if_le (tgt := 69) hx hb dX6_readDigits_62 (by decide) (fun c62 => ?_) (fun c62 => ?_)
          · refine lv_iconst (v := 0) hx hb dX6_readDigits_69 (by decide +kernel) ?_
            exact zEi (v := 0) (ws' := [(f0, oB 6 [.ref f1, .int (nI n), .int (nI q), .int kd, .int se, .int v]), (f1, aC g 60 tx)]) hx hb hlocks hr rfl hK hP hD hS [0, 1] rfl rfl (b01_0 (by show ¬ p < (dgt tx n p).2; rw [← hd2]; show ¬ p < q; have := (nle_of (n := k) (k := 0) (by omega) (by omega) (by rw [ej] at c62; exact c62)); omega)).symm (by rw [← hd2]) dX6_readDigits_70
          · refine lv_iconst (v := 1) hx hb dX6_readDigits_65 (by decide +kernel) ?_
            refine lv_goto (tgt := 70) hx hb dX6_readDigits_66 (by decide) ?_
            exact zEi (v := 1) (ws' := [(f0, oB 6 [.ref f1, .int (nI n), .int (nI q), .int kd, .int se, .int v]), (f1, aC g 60 tx)]) hx hb hlocks hr rfl hK hP hD hS [0, 1] rfl rfl (b01_1 (by show  p < (dgt tx n p).2; rw [← hd2]; show  p < q; have := (nlt_of (n := k) (k := 0) (by omega) (by rw [ej] at c62; exact fun h => c62 h)); omega)).symm (by rw [← hd2]) dX6_readDigits_70
        · have c23 := b01_t c23
          have hdp : dgP tx n q := sgn_dg.mp c23
          refine lv_aload_n hx hb dX6_readDigits_26 rfl (lv_at hl 1 rfl) ?_
          refine lv_bipush (v := 10) hx hb dX6_readDigits_27 (by decide +kernel) ?_
          refine lv_aload_n hx hb dX6_readDigits_29 rfl (lv_at hl 1 rfl) ?_
          refine va_get (D := g.1) (ci := 6) (v := .int v) (C := RX6) (T := TX6) (N := 6) hx hb hts iX6 hown hK hP 0 rfl rfl 5 (by decide) (hts (.fieldLink RX6 49 "StepAxis$Script" "number" "I") (List.mem_of_getElem? (i := 1) rfl)) (fun _ h9 => h9) rfl dX6_readDigits_30 ?_
          refine lv_imul hx hb dX6_readDigits_33 ?_
          refine lv_aload_n hx hb dX6_readDigits_34 rfl (lv_at hl 1 rfl) ?_
          refine zVI (As := []) (rest := [.int (10 * v), .ref f0]) (wc := [(f0, oB 6 [.ref f1, .int (nI n), .int (nI q), .int kd, .int se, .int v]), (f1, aC g 60 tx)]) (wr := []) (wc' := [(f0, oB 6 [.ref f1, .int (nI n), .int (nI q), .int kd, .int se, .int v]), (f1, aC g 60 tx)]) ⟨hx, hb, hml, hown, hts⟩ (m_sign l g f0 f1 n q kd se v tx hn (by omega)) (cwV 0 hts gX6_readDigits_X6_sign rfl rfl rfl (by decide +kernel) ⟨Nat.le_of_ble_eq_true rfl, Nat.le_of_ble_eq_true rfl⟩) hE hK hP hD hS hA 0 6 rfl rfl rfl [0, 1] [] rfl rfl rfl rfl (by decide) rfl hl.1 rfl (lv_room (Nat.le_of_ble_eq_true rfl)) ⟨Nat.zero_le _, Nat.zero_le _⟩ dX6_readDigits_35 (fun H locs hP hD hS => ?_)
          have hP : va_P g.1 vwCl [(f0, oB 6 [.ref f1, .int (nI n), .int (nI q), .int kd, .int se, .int v]), (f1, aC g 60 tx)] H := hP
          have hD : va_D A [(f0, oB 6 [.ref f1, .int (nI n), .int (nI q), .int kd, .int se, .int v]), (f1, aC g 60 tx)] := hD
          refine zTop (y := tx q) (if_pos hdp.1) ?_
          refine lv_bipush (v := 48) hx hb dX6_readDigits_38 (by decide +kernel) ?_
          refine lv_isub hx hb dX6_readDigits_40 ?_
          refine lv_iadd hx hb dX6_readDigits_41 ?_
          refine va_put (D := g.1) (ci := 6) (v := .int ((10 * v) + ((tx q) - 48))) (ty := .int) (C := RX6) (T := TX6) (N := 6) hx hb hts iX6 tyX6 tyX6_ok nmX6 hown hK hP hD hS 0 rfl rfl 5 (by decide) (hts (.fieldLink RX6 49 "StepAxis$Script" "number" "I") (List.mem_of_getElem? (i := 1) rfl)) (fun _ h9 => h9) rfl (by decide +kernel) rfl rfl (Nat.le_of_ble_eq_true rfl) dX6_readDigits_42 (fun H locs hP hD hS => ?_)
          have hP : va_P g.1 vwCl [(f0, oB 6 [.ref f1, .int (nI n), .int (nI q), .int kd, .int se, .int ((10 * v) + ((tx q) - 48))]), (f1, aC g 60 tx)] H := hP
          have hD : va_D A [(f0, oB 6 [.ref f1, .int (nI n), .int (nI q), .int kd, .int se, .int ((10 * v) + ((tx q) - 48))]), (f1, aC g 60 tx)] := hD
          refine lv_aload_n hx hb dX6_readDigits_45 rfl (lv_at hl 1 rfl) ?_
          refine lv_dup hx hb dX6_readDigits_46 rfl ?_
          refine va_get (D := g.1) (ci := 6) (v := .int (nI q)) (C := RX6) (T := TX6) (N := 6) hx hb hts iX6 hown hK hP 0 rfl rfl 2 (by decide) (hts (.fieldLink RX6 25 "StepAxis$Script" "position" "I") (List.mem_of_getElem? (i := 2) rfl)) (fun _ h9 => h9) rfl dX6_readDigits_47 ?_
          refine lv_iconst (v := 1) hx hb dX6_readDigits_50 (by decide +kernel) ?_
          refine lv_iadd hx hb dX6_readDigits_51 ?_
          refine va_put (D := g.1) (ci := 6) (v := .int ((nI q) + 1)) (ty := .int) (C := RX6) (T := TX6) (N := 6) hx hb hts iX6 tyX6 tyX6_ok nmX6 hown hK hP hD hS 0 rfl rfl 2 (by decide) (hts (.fieldLink RX6 25 "StepAxis$Script" "position" "I") (List.mem_of_getElem? (i := 2) rfl)) (fun _ h9 => h9) rfl (by decide +kernel) rfl rfl (Nat.le_of_ble_eq_true rfl) dX6_readDigits_52 (fun H locs hP hD hS => ?_)
          have hP : va_P g.1 vwCl [(f0, oB 6 [.ref f1, .int (nI n), .int ((nI q) + 1), .int kd, .int se, .int ((10 * v) + ((tx q) - 48))]), (f1, aC g 60 tx)] H := hP
          have hD : va_D A [(f0, oB 6 [.ref f1, .int (nI n), .int ((nI q) + 1), .int kd, .int se, .int ((10 * v) + ((tx q) - 48))]), (f1, aC g 60 tx)] := hD
          have eF : (nI q) + 1 = nI (q + 1) := (nI_1 q)
          rw [eF] at hP hD
          have hP : va_P g.1 vwCl [(f0, oB 6 [.ref f1, .int (nI n), .int (nI (q + 1)), .int kd, .int se, .int ((10 * v) + ((tx q) - 48))]), (f1, aC g 60 tx)] H := hP
          have hD : va_D A [(f0, oB 6 [.ref f1, .int (nI n), .int (nI (q + 1)), .int kd, .int se, .int ((10 * v) + ((tx q) - 48))]), (f1, aC g 60 tx)] := hD
          refine lv_iinc (v := j + 1) (lv' := [(1, .int (j + 1)), (0, .ref f0)]) hx hb dX6_readDigits_55 hl (k := 0) rfl (by rfl) (by decide) rfl (fun ls hl => ?_)
          refine lv_goto (tgt := 7) hx hb dX6_readDigits_58 (by decide) ?_
          exact ih (k + 1) (j + 1) (q + 1) (10 * v + (tx q - 48)) hlt (by rw [ej]; exact nI_1 k) (by omega) (by rw [← hd, show 4 - k = (4 - (k + 1)) + 1 by omega, dgs_1 hdp]) (by omega) _ _ (zP_sub hP [0, 1] rfl) (hD.sub [0, 1] rfl rfl) hS ls (lv_sub hl [0, 1] rfl)
  exact lp7 ((4 - 0) + 1) 0 0 p 0 (by decide) rfl rfl rfl (Nat.lt_succ_self _) _ _ (zP_sub hP [0, 1] rfl) (hD.sub [0, 1] rfl rfl) hS ls (lv_sub hl [0, 1] rfl)
set_option maxHeartbeats 4000000 in
set_option maxRecDepth 100000 in
theorem m_readSetting (l : Launch) (g : G3) (f0 f1 n p : Nat) (kd se nu : Int32) (tx : Nat → Int32) (hn : n ≤ 60) (hp2 : p ≤ 90) : MI l yX6_readSetting wsX6_readSetting (rk 2 43) g [.ref f0] [(f0, oB 6 [.ref f1, .int (nI n), .int (nI p), .int kd, .int se, .int nu]), (f1, aC g 60 tx)] (b01 (dgO tx n p)) [(f0, oB 6 [.ref f1, .int (nI n), .int (nI ((dgt tx n p).2)), .int kd, .int ((dgt tx n p).1), .int ((dgt tx n p).1)]), (f1, aC g 60 tx)] := by
  refine zWalk.met (Qc := fun A => zQi g (b01 (dgO tx n p)) [(f0, oB 6 [.ref f1, .int (nI n), .int (nI ((dgt tx n p).2)), .int kd, .int ((dgt tx n p).1), .int ((dgt tx n p).1)]), (f1, aC g 60 tx)] A) (cc := cX6_readSetting) (maxL := 2) (ret := (some .boolean)) ?_ (by decide) rfl (Nat.le_of_ble_eq_true rfl)
  intro pg ev sx mi args below meth cd A H locs ls hx hb hr hml hown hts hlocks hA hE hK hP hD hS hl
  have iX6 : ∀ w ∈ u_ws RX6 TX6 6, w ∈ wsX6_readSetting := (fun _ h => (List.mem_cons_of_mem _ (List.mem_append_right _ h)))
  have hl : lv_has ls 2 [(0, .ref f0)] := hl
  refine lv_aload_n hx hb dX6_readSetting_0 rfl (lv_at hl 0 rfl) ?_
  refine zVI (As := []) (rest := []) (wc := [(f0, oB 6 [.ref f1, .int (nI n), .int (nI p), .int kd, .int se, .int nu]), (f1, aC g 60 tx)]) (wr := []) (wc' := [(f0, oB 6 [.ref f1, .int (nI n), .int (nI ((dgt tx n p).2)), .int kd, .int se, .int ((dgt tx n p).1)]), (f1, aC g 60 tx)]) ⟨hx, hb, hml, hown, hts⟩ (m_readDigits l g f0 f1 n p kd se nu tx hn hp2) (cwV 0 hts gX6_readSetting_X6_readDigits rfl rfl rfl (by decide +kernel) ⟨Nat.le_of_ble_eq_true rfl, Nat.le_of_ble_eq_true rfl⟩) hE hK hP hD hS hA 0 6 rfl rfl rfl [0, 1] [] rfl rfl rfl rfl (by decide) rfl hl.1 rfl (lv_room (Nat.le_of_ble_eq_true rfl)) ⟨Nat.zero_le _, Nat.zero_le _⟩ dX6_readSetting_1 (fun H locs hP hD hS => ?_)
  have hP : va_P g.1 vwCl [(f0, oB 6 [.ref f1, .int (nI n), .int (nI ((dgt tx n p).2)), .int kd, .int se, .int ((dgt tx n p).1)]), (f1, aC g 60 tx)] H := hP
  have hD : va_D A [(f0, oB 6 [.ref f1, .int (nI n), .int (nI ((dgt tx n p).2)), .int kd, .int se, .int ((dgt tx n p).1)]), (f1, aC g 60 tx)] := hD
  refine lv_istore_n (lv' := [(1, .int (b01 (dgO tx n p))), (0, .ref f0)]) hx hb dX6_readSetting_4 rfl hl (by decide) rfl (fun ls hl => ?_)
  refine lv_aload_n hx hb dX6_readSetting_5 rfl (lv_at hl 1 rfl) ?_
  refine lv_aload_n hx hb dX6_readSetting_6 rfl (lv_at hl 1 rfl) ?_
  refine va_get (D := g.1) (ci := 6) (v := .int ((dgt tx n p).1)) (C := RX6) (T := TX6) (N := 6) hx hb hts iX6 hown hK hP 0 rfl rfl 5 (by decide) (hts (.fieldLink RX6 49 "StepAxis$Script" "number" "I") (List.mem_of_getElem? (i := 1) rfl)) (fun _ h9 => h9) rfl dX6_readSetting_7 ?_
  refine va_put (D := g.1) (ci := 6) (v := .int ((dgt tx n p).1)) (ty := .int) (C := RX6) (T := TX6) (N := 6) hx hb hts iX6 tyX6 tyX6_ok nmX6 hown hK hP hD hS 0 rfl rfl 4 (by decide) (hts (.fieldLink RX6 52 "StepAxis$Script" "setting" "I") (List.mem_of_getElem? (i := 2) rfl)) (fun _ h9 => h9) rfl (by decide +kernel) rfl rfl (Nat.le_of_ble_eq_true rfl) dX6_readSetting_10 (fun H locs hP hD hS => ?_)
  have hP : va_P g.1 vwCl [(f0, oB 6 [.ref f1, .int (nI n), .int (nI ((dgt tx n p).2)), .int kd, .int ((dgt tx n p).1), .int ((dgt tx n p).1)]), (f1, aC g 60 tx)] H := hP
  have hD : va_D A [(f0, oB 6 [.ref f1, .int (nI n), .int (nI ((dgt tx n p).2)), .int kd, .int ((dgt tx n p).1), .int ((dgt tx n p).1)]), (f1, aC g 60 tx)] := hD
  refine lv_iload_n hx hb dX6_readSetting_13 rfl (lv_at hl 0 rfl) ?_
  exact zEi (v := b01 (dgO tx n p)) (ws' := [(f0, oB 6 [.ref f1, .int (nI n), .int (nI ((dgt tx n p).2)), .int kd, .int ((dgt tx n p).1), .int ((dgt tx n p).1)]), (f1, aC g 60 tx)]) hx hb hlocks hr b01_nar hK hP hD hS [0, 1] rfl rfl rfl rfl dX6_readSetting_14
set_option maxHeartbeats 4000000 in
set_option maxRecDepth 100000 in
theorem m_readSigned (l : Launch) (g : G3) (f0 f1 n p : Nat) (kd se nu : Int32) (tx : Nat → Int32) (hn : n ≤ 60) (hp3 : p ≤ 80) : MI l yX6_readSigned wsX6_readSigned (rk 2 43) g [.ref f0] [(f0, oB 6 [.ref f1, .int (nI n), .int (nI p), .int kd, .int se, .int nu]), (f1, aC g 60 tx)] (b01 (sgO tx n p)) [(f0, oB 6 [.ref f1, .int (nI n), .int (nI ((sgt tx n p).2)), .int kd, .int se, .int ((sgt tx n p).1)]), (f1, aC g 60 tx)] := by
  refine zWalk.met (Qc := fun A => zQi g (b01 (sgO tx n p)) [(f0, oB 6 [.ref f1, .int (nI n), .int (nI ((sgt tx n p).2)), .int kd, .int se, .int ((sgt tx n p).1)]), (f1, aC g 60 tx)] A) (cc := cX6_readSigned) (maxL := 3) (ret := (some .boolean)) ?_ (by decide) rfl (Nat.le_of_ble_eq_true rfl)
  intro pg ev sx mi args below meth cd A H locs ls hx hb hr hml hown hts hlocks hA hE hK hP hD hS hl
  have iX6 : ∀ w ∈ u_ws RX6 TX6 6, w ∈ wsX6_readSigned := (fun _ h => (List.mem_cons_of_mem _ (List.mem_append_right _ h)))
  have hl : lv_has ls 3 [(0, .ref f0)] := hl
  refine lv_aload_n hx hb dX6_readSigned_0 rfl (lv_at hl 0 rfl) ?_
  refine lv_bipush (v := 45) hx hb dX6_readSigned_1 (by decide +kernel) ?_
  refine zVI (As := [.int 45]) (rest := []) (wc := [(f0, oB 6 [.ref f1, .int (nI n), .int (nI p), .int kd, .int se, .int nu]), (f1, aC g 60 tx)]) (wr := []) (wc' := [(f0, oB 6 [.ref f1, .int (nI n), .int (nI (skN tx n p 45)), .int kd, .int se, .int nu]), (f1, aC g 60 tx)]) ⟨hx, hb, hml, hown, hts⟩ (m_skip l g f0 f1 n p kd se nu tx 45 hn (by omega) (by decide)) (cwV 1 hts gX6_readSigned_X6_skip rfl rfl rfl (by decide +kernel) ⟨Nat.le_of_ble_eq_true rfl, Nat.le_of_ble_eq_true rfl⟩) hE hK hP hD hS hA 0 6 rfl rfl rfl [0, 1] [] rfl rfl rfl rfl (by decide) rfl hl.1 rfl (lv_room (Nat.le_of_ble_eq_true rfl)) ⟨Nat.zero_le _, Nat.zero_le _⟩ dX6_readSigned_3 (fun H locs hP hD hS => ?_)
  have hP : va_P g.1 vwCl [(f0, oB 6 [.ref f1, .int (nI n), .int (nI (skN tx n p 45)), .int kd, .int se, .int nu]), (f1, aC g 60 tx)] H := hP
  have hD : va_D A [(f0, oB 6 [.ref f1, .int (nI n), .int (nI (skN tx n p 45)), .int kd, .int se, .int nu]), (f1, aC g 60 tx)] := hD
  refine lv_istore_n (lv' := [(1, .int (b01 (skP tx n p 45))), (0, .ref f0)]) hx hb dX6_readSigned_6 rfl hl (by decide) rfl (fun ls hl => ?_)
  refine lv_aload_n hx hb dX6_readSigned_7 rfl (lv_at hl 1 rfl) ?_
  refine zVI (As := []) (rest := []) (wc := [(f0, oB 6 [.ref f1, .int (nI n), .int (nI (skN tx n p 45)), .int kd, .int se, .int nu]), (f1, aC g 60 tx)]) (wr := []) (wc' := [(f0, oB 6 [.ref f1, .int (nI n), .int (nI ((dgt tx n (skN tx n p 45)).2)), .int kd, .int se, .int ((dgt tx n (skN tx n p 45)).1)]), (f1, aC g 60 tx)]) ⟨hx, hb, hml, hown, hts⟩ (m_readDigits l g f0 f1 n (skN tx n p 45) kd se nu tx hn (by have := skN_le1 (tx := tx) (n := n) (p := p) (c := 45); omega)) (cwV 0 hts gX6_readSigned_X6_readDigits rfl rfl rfl (by decide +kernel) ⟨Nat.le_of_ble_eq_true rfl, Nat.le_of_ble_eq_true rfl⟩) hE hK hP hD hS hA 0 6 rfl rfl rfl [0, 1] [] rfl rfl rfl rfl (by decide) rfl hl.1 rfl (lv_room (Nat.le_of_ble_eq_true rfl)) ⟨Nat.zero_le _, Nat.zero_le _⟩ dX6_readSigned_8 (fun H locs hP hD hS => ?_)
  have hP : va_P g.1 vwCl [(f0, oB 6 [.ref f1, .int (nI n), .int (nI ((dgt tx n (skN tx n p 45)).2)), .int kd, .int se, .int ((dgt tx n (skN tx n p 45)).1)]), (f1, aC g 60 tx)] H := hP
  have hD : va_D A [(f0, oB 6 [.ref f1, .int (nI n), .int (nI ((dgt tx n (skN tx n p 45)).2)), .int kd, .int se, .int ((dgt tx n (skN tx n p 45)).1)]), (f1, aC g 60 tx)] := hD
  refine lv_istore_n (lv' := [(2, .int (b01 (dgO tx n (skN tx n p 45)))), (1, .int (b01 (skP tx n p 45))), (0, .ref f0)]) hx hb dX6_readSigned_11 rfl hl (by decide) rfl (fun ls hl => ?_)
  refine lv_iload_n hx hb dX6_readSigned_12 rfl (lv_at hl 1 rfl) ?_
  refine lv_if_eq (tgt := 25) hx hb dX6_readSigned_13 (by decide) (fun c13 => ?_) (fun c13 => ?_)
  · have c13 := b01_f c13
    refine lv_iload_n hx hb dX6_readSigned_25 rfl (lv_at hl 0 rfl) ?_
    exact zEi (v := b01 (dgO tx n (skN tx n p 45))) (ws' := [(f0, oB 6 [.ref f1, .int (nI n), .int (nI ((dgt tx n (skN tx n p 45)).2)), .int kd, .int se, .int ((dgt tx n (skN tx n p 45)).1)]), (f1, aC g 60 tx)]) hx hb hlocks hr b01_nar hK hP hD hS [0, 1] rfl rfl rfl (by rw [show (sgt tx n p).1 = _ from if_neg c13]; rfl) dX6_readSigned_26
  · have c13 := b01_t c13
    refine lv_aload_n hx hb dX6_readSigned_16 rfl (lv_at hl 2 rfl) ?_
    refine lv_aload_n hx hb dX6_readSigned_17 rfl (lv_at hl 2 rfl) ?_
    refine va_get (D := g.1) (ci := 6) (v := .int ((dgt tx n (skN tx n p 45)).1)) (C := RX6) (T := TX6) (N := 6) hx hb hts iX6 hown hK hP 0 rfl rfl 5 (by decide) (hts (.fieldLink RX6 49 "StepAxis$Script" "number" "I") (List.mem_of_getElem? (i := 1) rfl)) (fun _ h9 => h9) rfl dX6_readSigned_18 ?_
    refine lv_ineg hx hb dX6_readSigned_21 ?_
    refine va_put (D := g.1) (ci := 6) (v := .int (-((dgt tx n (skN tx n p 45)).1))) (ty := .int) (C := RX6) (T := TX6) (N := 6) hx hb hts iX6 tyX6 tyX6_ok nmX6 hown hK hP hD hS 0 rfl rfl 5 (by decide) (hts (.fieldLink RX6 49 "StepAxis$Script" "number" "I") (List.mem_of_getElem? (i := 1) rfl)) (fun _ h9 => h9) rfl (by decide +kernel) rfl rfl (Nat.le_of_ble_eq_true rfl) dX6_readSigned_22 (fun H locs hP hD hS => ?_)
    have hP : va_P g.1 vwCl [(f0, oB 6 [.ref f1, .int (nI n), .int (nI ((dgt tx n (skN tx n p 45)).2)), .int kd, .int se, .int (-((dgt tx n (skN tx n p 45)).1))]), (f1, aC g 60 tx)] H := hP
    have hD : va_D A [(f0, oB 6 [.ref f1, .int (nI n), .int (nI ((dgt tx n (skN tx n p 45)).2)), .int kd, .int se, .int (-((dgt tx n (skN tx n p 45)).1))]), (f1, aC g 60 tx)] := hD
    refine lv_iload_n hx hb dX6_readSigned_25 rfl (lv_at hl 0 rfl) ?_
    exact zEi (v := b01 (dgO tx n (skN tx n p 45))) (ws' := [(f0, oB 6 [.ref f1, .int (nI n), .int (nI ((dgt tx n (skN tx n p 45)).2)), .int kd, .int se, .int (-((dgt tx n (skN tx n p 45)).1))]), (f1, aC g 60 tx)]) hx hb hlocks hr b01_nar hK hP hD hS [0, 1] rfl rfl rfl (by rw [show (sgt tx n p).1 = _ from if_pos c13]; rfl) dX6_readSigned_26
set_option maxHeartbeats 4000000 in
set_option maxRecDepth 100000 in
theorem m_startReading (l : Launch) (g : G3) (f0 f1 n p : Nat) (kd se nu : Int32) : MV l yX6_startReading wsX6_startReading (rk 0 0) g [.ref f0] [(f0, oB 6 [.ref f1, .int (nI n), .int (nI p), .int kd, .int se, .int nu])] [(f0, oB 6 [.ref f1, .int (nI n), .int (nI 0), .int kd, .int se, .int nu])] := by
  refine zWalk.met (Qc := fun A => zQv g [(f0, oB 6 [.ref f1, .int (nI n), .int (nI 0), .int kd, .int se, .int nu])] A) (cc := cX6_startReading) (maxL := 1) (ret := none) ?_ (by decide) rfl (Nat.le_of_ble_eq_true rfl)
  intro pg ev sx mi args below meth cd A H locs ls hx hb hr hml hown hts hlocks hA hE hK hP hD hS hl
  have iX6 : ∀ w ∈ u_ws RX6 TX6 6, w ∈ wsX6_startReading := (fun _ h => (List.mem_cons_of_mem _ (List.mem_append_right _ h)))
  have hl : lv_has ls 1 [(0, .ref f0)] := hl
  refine lv_aload_n hx hb dX6_startReading_0 rfl (lv_at hl 0 rfl) ?_
  refine lv_iconst (v := 0) hx hb dX6_startReading_1 (by decide +kernel) ?_
  refine va_put (D := g.1) (ci := 6) (v := .int 0) (ty := .int) (C := RX6) (T := TX6) (N := 6) hx hb hts iX6 tyX6 tyX6_ok nmX6 hown hK hP hD hS 0 rfl rfl 2 (by decide) (hts (.fieldLink RX6 25 "StepAxis$Script" "position" "I") (List.mem_of_getElem? (i := 1) rfl)) (fun _ h9 => h9) rfl (by decide +kernel) rfl rfl (Nat.le_of_ble_eq_true rfl) dX6_startReading_2 (fun H locs hP hD hS => ?_)
  have hP : va_P g.1 vwCl [(f0, oB 6 [.ref f1, .int (nI n), .int 0, .int kd, .int se, .int nu])] H := hP
  have hD : va_D A [(f0, oB 6 [.ref f1, .int (nI n), .int 0, .int kd, .int se, .int nu])] := hD
  exact zEv (ws' := [(f0, oB 6 [.ref f1, .int (nI n), .int 0, .int kd, .int se, .int nu])]) hx hb hlocks hr hK hP hD hS [0] rfl rfl rfl dX6_startReading_5
set_option maxHeartbeats 4000000 in
set_option maxRecDepth 100000 in
theorem m_isRead (l : Launch) (g : G3) (f0 f1 n p : Nat) (kd se nu : Int32) (hn : n ≤ 60) (hp : p ≤ 100) : MI l yX6_isRead wsX6_isRead (rk 0 0) g [.ref f0] [(f0, oB 6 [.ref f1, .int (nI n), .int (nI p), .int kd, .int se, .int nu])] (b01 (n ≤ p)) [(f0, oB 6 [.ref f1, .int (nI n), .int (nI p), .int kd, .int se, .int nu])] := by
  refine zWalk.met (Qc := fun A => zQi g (b01 (n ≤ p)) [(f0, oB 6 [.ref f1, .int (nI n), .int (nI p), .int kd, .int se, .int nu])] A) (cc := cX6_isRead) (maxL := 1) (ret := (some .boolean)) ?_ (by decide) rfl (Nat.le_of_ble_eq_true rfl)
  intro pg ev sx mi args below meth cd A H locs ls hx hb hr hml hown hts hlocks hA hE hK hP hD hS hl
  have iX6 : ∀ w ∈ u_ws RX6 TX6 6, w ∈ wsX6_isRead := (fun _ h => (List.mem_cons_of_mem _ (List.mem_append_right _ h)))
  have hl : lv_has ls 1 [(0, .ref f0)] := hl
  refine lv_aload_n hx hb dX6_isRead_0 rfl (lv_at hl 0 rfl) ?_
  refine va_get (D := g.1) (ci := 6) (v := .int (nI p)) (C := RX6) (T := TX6) (N := 6) hx hb hts iX6 hown hK hP 0 rfl rfl 2 (by decide) (hts (.fieldLink RX6 25 "StepAxis$Script" "position" "I") (List.mem_of_getElem? (i := 1) rfl)) (fun _ h9 => h9) rfl dX6_isRead_1 ?_
  refine lv_aload_n hx hb dX6_isRead_4 rfl (lv_at hl 0 rfl) ?_
  refine va_get (D := g.1) (ci := 6) (v := .int (nI n)) (C := RX6) (T := TX6) (N := 6) hx hb hts iX6 hown hK hP 0 rfl rfl 1 (by decide) (hts (.fieldLink RX6 20 "StepAxis$Script" "length" "I") (List.mem_of_getElem? (i := 2) rfl)) (fun _ h9 => h9) rfl dX6_isRead_5 ?_
  refine lv_icmp_lt (tgt := 15) hx hb dX6_isRead_8 (by decide) (fun c8 => ?_) (fun c8 => ?_)
  · refine lv_iconst (v := 0) hx hb dX6_isRead_15 (by decide +kernel) ?_
    exact zEi (v := 0) (ws' := [(f0, oB 6 [.ref f1, .int (nI n), .int (nI p), .int kd, .int se, .int nu])]) hx hb hlocks hr rfl hK hP hD hS [0] rfl rfl (b01_0 (by have := (nI_ltI (by omega) (by omega)).mp c8; omega)).symm rfl dX6_isRead_16
  · refine lv_iconst (v := 1) hx hb dX6_isRead_11 (by decide +kernel) ?_
    refine lv_goto (tgt := 16) hx hb dX6_isRead_12 (by decide) ?_
    exact zEi (v := 1) (ws' := [(f0, oB 6 [.ref f1, .int (nI n), .int (nI p), .int kd, .int se, .int nu])]) hx hb hlocks hr rfl hK hP hD hS [0] rfl rfl (b01_1 (Nat.not_lt.mp (fun h => c8 ((nI_ltI (by omega) (by omega)).mpr h)))).symm rfl dX6_isRead_16
set_option maxHeartbeats 4000000 in
set_option maxRecDepth 100000 in
theorem m_sempty (l : Launch) (g : G3) (f0 f1 n p : Nat) (kd se nu : Int32) : MI l yX6_empty wsX6_empty (rk 0 0) g [.ref f0] [(f0, oB 6 [.ref f1, .int (nI n), .int (nI p), .int kd, .int se, .int nu])] (nI n) [(f0, oB 6 [.ref f1, .int (nI 0), .int (nI p), .int kd, .int se, .int nu])] := by
  refine zWalk.met (Qc := fun A => zQi g (nI n) [(f0, oB 6 [.ref f1, .int (nI 0), .int (nI p), .int kd, .int se, .int nu])] A) (cc := cX6_empty) (maxL := 2) (ret := (some .int)) ?_ (by decide) rfl (Nat.le_of_ble_eq_true rfl)
  intro pg ev sx mi args below meth cd A H locs ls hx hb hr hml hown hts hlocks hA hE hK hP hD hS hl
  have iX6 : ∀ w ∈ u_ws RX6 TX6 6, w ∈ wsX6_empty := (fun _ h => (List.mem_cons_of_mem _ (List.mem_append_right _ h)))
  have hl : lv_has ls 2 [(0, .ref f0)] := hl
  refine lv_aload_n hx hb dX6_empty_0 rfl (lv_at hl 0 rfl) ?_
  refine va_get (D := g.1) (ci := 6) (v := .int (nI n)) (C := RX6) (T := TX6) (N := 6) hx hb hts iX6 hown hK hP 0 rfl rfl 1 (by decide) (hts (.fieldLink RX6 20 "StepAxis$Script" "length" "I") (List.mem_of_getElem? (i := 1) rfl)) (fun _ h9 => h9) rfl dX6_empty_1 ?_
  refine lv_istore_n (lv' := [(1, .int (nI n)), (0, .ref f0)]) hx hb dX6_empty_4 rfl hl (by decide) rfl (fun ls hl => ?_)
  refine lv_aload_n hx hb dX6_empty_5 rfl (lv_at hl 1 rfl) ?_
  refine lv_iconst (v := 0) hx hb dX6_empty_6 (by decide +kernel) ?_
  refine va_put (D := g.1) (ci := 6) (v := .int 0) (ty := .int) (C := RX6) (T := TX6) (N := 6) hx hb hts iX6 tyX6 tyX6_ok nmX6 hown hK hP hD hS 0 rfl rfl 1 (by decide) (hts (.fieldLink RX6 20 "StepAxis$Script" "length" "I") (List.mem_of_getElem? (i := 1) rfl)) (fun _ h9 => h9) rfl (by decide +kernel) rfl rfl (Nat.le_of_ble_eq_true rfl) dX6_empty_7 (fun H locs hP hD hS => ?_)
  have hP : va_P g.1 vwCl [(f0, oB 6 [.ref f1, .int 0, .int (nI p), .int kd, .int se, .int nu])] H := hP
  have hD : va_D A [(f0, oB 6 [.ref f1, .int 0, .int (nI p), .int kd, .int se, .int nu])] := hD
  refine lv_iload_n hx hb dX6_empty_10 rfl (lv_at hl 0 rfl) ?_
  exact zEi (v := nI n) (ws' := [(f0, oB 6 [.ref f1, .int 0, .int (nI p), .int kd, .int se, .int nu])]) hx hb hlocks hr rfl hK hP hD hS [0] rfl rfl rfl rfl dX6_empty_11
set_option maxHeartbeats 4000000 in
set_option maxRecDepth 100000 in
theorem m_append (l : Launch) (g : G3) (f0 f1 n p : Nat) (kd se nu : Int32) (tx : Nat → Int32) (c : Int32) (hn : n ≤ 60) : MI l yX6_append wsX6_append (rk 1 22) g [.ref f0, .int c] [(f0, oB 6 [.ref f1, .int (nI n), .int (nI p), .int kd, .int se, .int nu]), (f1, aC g 60 tx)] (apR n c) [(f0, oB 6 [.ref f1, .int (nI (if apP n c then n + 1 else n)), .int (nI p), .int kd, .int se, .int nu]), (f1, aC g 60 (if apP n c then upd tx n c else tx))] := by
  refine zWalk.met (Qc := fun A => zQi g (apR n c) [(f0, oB 6 [.ref f1, .int (nI (if apP n c then n + 1 else n)), .int (nI p), .int kd, .int se, .int nu]), (f1, aC g 60 (if apP n c then upd tx n c else tx))] A) (cc := cX6_append) (maxL := 2) (ret := (some .int)) ?_ (by decide) rfl (Nat.le_of_ble_eq_true rfl)
  intro pg ev sx mi args below meth cd A H locs ls hx hb hr hml hown hts hlocks hA hE hK hP hD hS hl
  have iX6 : ∀ w ∈ u_ws RX6 TX6 6, w ∈ wsX6_append := (fun _ h => (List.mem_cons_of_mem _ (List.mem_append_right _ h)))
  have hl : lv_has ls 2 [(0, .ref f0), (1, .int c)] := hl
  refine lv_iload_n hx hb dX6_append_0 rfl (lv_at hl 1 rfl) ?_
  refine lv_bipush (v := 32) hx hb dX6_append_1 (by decide +kernel) ?_
  refine lv_bipush (v := 126) hx hb dX6_append_3 (by decide +kernel) ?_
  refine zNI (As := [.int c, .int 32, .int 126]) (rest := []) (wc := []) (wr := [(f0, oB 6 [.ref f1, .int (nI n), .int (nI p), .int kd, .int se, .int nu]), (f1, aC g 60 tx)]) (wc' := []) ⟨hx, hb, hml, hown, hts⟩ (m_within l g c 32 126) ⟨va_cnB 3 hts gX6_append_X8_within_n15 rfl rfl rfl (nwm_15 hE.1) (hts (.initialized RX8) (List.mem_of_getElem? (i := 6) rfl)) (by decide +kernel) ⟨Nat.le_of_ble_eq_true rfl, Nat.le_of_ble_eq_true rfl⟩, (hts (.static yX8_within) (List.mem_of_getElem? (i := 5) rfl)), trivial⟩ hE hK hP hD hS hA [] [0, 1] rfl rfl rfl rfl (by decide) rfl hl.1 rfl (lv_room (Nat.le_of_ble_eq_true rfl)) ⟨Nat.zero_le _, Nat.zero_le _⟩ dX6_append_5 (fun H locs hP hD hS => ?_)
  have hP : va_P g.1 vwCl [(f0, oB 6 [.ref f1, .int (nI n), .int (nI p), .int kd, .int se, .int nu]), (f1, aC g 60 tx)] H := hP
  have hD : va_D A [(f0, oB 6 [.ref f1, .int (nI n), .int (nI p), .int kd, .int se, .int nu]), (f1, aC g 60 tx)] := hD
  refine lv_if_ne (tgt := 14) hx hb dX6_append_8 (by decide) (fun c8 => ?_) (fun c8 => ?_)
  · have c8 := b01_t c8
    refine lv_aload_n hx hb dX6_append_14 rfl (lv_at hl 0 rfl) ?_
    refine va_get (D := g.1) (ci := 6) (v := .int (nI n)) (C := RX6) (T := TX6) (N := 6) hx hb hts iX6 hown hK hP 0 rfl rfl 1 (by decide) (hts (.fieldLink RX6 20 "StepAxis$Script" "length" "I") (List.mem_of_getElem? (i := 2) rfl)) (fun _ h9 => h9) rfl dX6_append_15 ?_
    refine lv_bipush (v := 60) hx hb dX6_append_18 (by decide +kernel) ?_
    refine lv_icmp_lt (tgt := 26) hx hb dX6_append_20 (by decide) (fun c20 => ?_) (fun c20 => ?_)
    · have hlt : n < 60 := (nI_ltI (by omega) (by decide)).mp c20
      refine lv_aload_n hx hb dX6_append_26 rfl (lv_at hl 0 rfl) ?_
      refine va_get (D := g.1) (ci := 6) (v := .ref f1) (C := RX6) (T := TX6) (N := 6) hx hb hts iX6 hown hK hP 0 rfl rfl 0 (by decide) (hts (.fieldLink RX6 9 "StepAxis$Script" "signs" "[C") (List.mem_of_getElem? (i := 4) rfl)) (fun _ h9 => h9) rfl dX6_append_27 ?_
      refine lv_aload_n hx hb dX6_append_30 rfl (lv_at hl 0 rfl) ?_
      refine va_get (D := g.1) (ci := 6) (v := .int (nI n)) (C := RX6) (T := TX6) (N := 6) hx hb hts iX6 hown hK hP 0 rfl rfl 1 (by decide) (hts (.fieldLink RX6 20 "StepAxis$Script" "length" "I") (List.mem_of_getElem? (i := 2) rfl)) (fun _ h9 => h9) rfl dX6_append_31 ?_
      refine lv_iload_n hx hb dX6_append_34 rfl (lv_at hl 1 rfl) ?_
      refine lv_i2c (v := c) hx hb dX6_append_35 (ch_nar c8).1 ?_
      refine zcast (k := n) hx hb hK hP hD hS 1 1 rfl rfl (IX.of rfl hlt (by decide)) (ch_nar c8).2 dX6_append_36 (fun H locs hP hD hS => ?_)
      have hP : va_P g.1 vwCl [(f0, oB 6 [.ref f1, .int (nI n), .int (nI p), .int kd, .int se, .int nu]), (f1, aC g 60 (upd tx n c))] H := hP
      have hD : va_D A [(f0, oB 6 [.ref f1, .int (nI n), .int (nI p), .int kd, .int se, .int nu]), (f1, aC g 60 (upd tx n c))] := hD
      refine lv_aload_n hx hb dX6_append_37 rfl (lv_at hl 0 rfl) ?_
      refine lv_dup hx hb dX6_append_38 rfl ?_
      refine va_get (D := g.1) (ci := 6) (v := .int (nI n)) (C := RX6) (T := TX6) (N := 6) hx hb hts iX6 hown hK hP 0 rfl rfl 1 (by decide) (hts (.fieldLink RX6 20 "StepAxis$Script" "length" "I") (List.mem_of_getElem? (i := 2) rfl)) (fun _ h9 => h9) rfl dX6_append_39 ?_
      refine lv_iconst (v := 1) hx hb dX6_append_42 (by decide +kernel) ?_
      refine lv_iadd hx hb dX6_append_43 ?_
      refine zTop (y := nI (n + 1)) (nI_1 n) ?_
      refine va_put (D := g.1) (ci := 6) (v := .int (nI (n + 1))) (ty := .int) (C := RX6) (T := TX6) (N := 6) hx hb hts iX6 tyX6 tyX6_ok nmX6 hown hK hP hD hS 0 rfl rfl 1 (by decide) (hts (.fieldLink RX6 20 "StepAxis$Script" "length" "I") (List.mem_of_getElem? (i := 2) rfl)) (fun _ h9 => h9) rfl (by decide +kernel) rfl rfl (Nat.le_of_ble_eq_true rfl) dX6_append_44 (fun H locs hP hD hS => ?_)
      have hP : va_P g.1 vwCl [(f0, oB 6 [.ref f1, .int (nI (n + 1)), .int (nI p), .int kd, .int se, .int nu]), (f1, aC g 60 (upd tx n c))] H := hP
      have hD : va_D A [(f0, oB 6 [.ref f1, .int (nI (n + 1)), .int (nI p), .int kd, .int se, .int nu]), (f1, aC g 60 (upd tx n c))] := hD
      refine lv_aload_n hx hb dX6_append_47 rfl (lv_at hl 0 rfl) ?_
      refine va_get (D := g.1) (ci := 6) (v := .int (nI (n + 1))) (C := RX6) (T := TX6) (N := 6) hx hb hts iX6 hown hK hP 0 rfl rfl 1 (by decide) (hts (.fieldLink RX6 20 "StepAxis$Script" "length" "I") (List.mem_of_getElem? (i := 2) rfl)) (fun _ h9 => h9) rfl dX6_append_48 ?_
      exact zEi (v := nI (n + 1)) (ws' := [(f0, oB 6 [.ref f1, .int (nI (n + 1)), .int (nI p), .int kd, .int se, .int nu]), (f1, aC g 60 (upd tx n c))]) hx hb hlocks hr rfl hK hP hD hS [0, 1] rfl rfl (by unfold apR; rw [if_pos c8, if_pos hlt]) (by simp only [if_pos (show apP n c from ⟨c8, hlt⟩)]) dX6_append_51
    · have hlt : ¬ n < 60 := fun h => c20 ((nI_ltI (by omega) (by decide)).mpr h)
      refine lv_ldc hx hb hown (hts (.constant RX6 24 (-1000003)) (List.mem_of_getElem? (i := 3) rfl)) dX6_append_23 ?_
      exact zEi (v := (-1000003)) (ws' := [(f0, oB 6 [.ref f1, .int (nI n), .int (nI p), .int kd, .int se, .int nu]), (f1, aC g 60 tx)]) hx hb hlocks hr rfl hK hP hD hS [0, 1] rfl rfl (by unfold apR; rw [if_pos c8, if_neg hlt]) (by simp only [if_neg (show ¬ apP n c from fun h => hlt h.2)]) dX6_append_25
  · have c8 := b01_f c8
    refine lv_ldc hx hb hown (hts (.constant RX6 19 (-1000001)) (List.mem_of_getElem? (i := 1) rfl)) dX6_append_11 ?_
    exact zEi (v := (-1000001)) (ws' := [(f0, oB 6 [.ref f1, .int (nI n), .int (nI p), .int kd, .int se, .int nu]), (f1, aC g 60 tx)]) hx hb hlocks hr rfl hK hP hD hS [0, 1] rfl rfl (by unfold apR; rw [if_neg c8]) (by simp only [if_neg (show ¬ apP n c from fun h => c8 h.1)]) dX6_append_13
set_option maxHeartbeats 4000000 in
set_option maxRecDepth 100000 in
theorem m_readCommand (l : Launch) (g : G3) (f0 f1 n p : Nat) (kd se nu : Int32) (tx : Nat → Int32) (hn : n ≤ 60) (hpn : p < n) : MI l yX6_readCommand wsX6_readCommand (rk 3 65) g [.ref f0] [(f0, oB 6 [.ref f1, .int (nI n), .int (nI p), .int kd, .int se, .int nu]), (f1, aC g 60 tx)] (rcB tx n p) [(f0, oB 6 [.ref f1, .int (nI n), .int (nI (rcN tx n p)), .int (tx p), .int (rcS tx n p se), .int (rcV tx n p nu)]), (f1, aC g 60 tx)] := by
  refine zWalk.met (Qc := fun A => zQi g (rcB tx n p) [(f0, oB 6 [.ref f1, .int (nI n), .int (nI (rcN tx n p)), .int (tx p), .int (rcS tx n p se), .int (rcV tx n p nu)]), (f1, aC g 60 tx)] A) (cc := cX6_readCommand) (maxL := 1) (ret := (some .boolean)) ?_ (by decide) rfl (Nat.le_of_ble_eq_true rfl)
  intro pg ev sx mi args below meth cd A H locs ls hx hb hr hml hown hts hlocks hA hE hK hP hD hS hl
  have iX6 : ∀ w ∈ u_ws RX6 TX6 6, w ∈ wsX6_readCommand := (fun _ h => (List.mem_cons_of_mem _ (List.mem_append_right _ h)))
  have hl : lv_has ls 1 [(0, .ref f0)] := hl
  refine lv_aload_n hx hb dX6_readCommand_0 rfl (lv_at hl 0 rfl) ?_
  refine lv_aload_n hx hb dX6_readCommand_1 rfl (lv_at hl 0 rfl) ?_
  refine zVI (As := []) (rest := [.ref f0]) (wc := [(f0, oB 6 [.ref f1, .int (nI n), .int (nI p), .int kd, .int se, .int nu]), (f1, aC g 60 tx)]) (wr := []) (wc' := [(f0, oB 6 [.ref f1, .int (nI n), .int (nI p), .int kd, .int se, .int nu]), (f1, aC g 60 tx)]) ⟨hx, hb, hml, hown, hts⟩ (m_sign l g f0 f1 n p kd se nu tx hn (by omega)) (cwV 0 hts gX6_readCommand_X6_sign rfl rfl rfl (by decide +kernel) ⟨Nat.le_of_ble_eq_true rfl, Nat.le_of_ble_eq_true rfl⟩) hE hK hP hD hS hA 0 6 rfl rfl rfl [0, 1] [] rfl rfl rfl rfl (by decide) rfl hl.1 rfl (lv_room (Nat.le_of_ble_eq_true rfl)) ⟨Nat.zero_le _, Nat.zero_le _⟩ dX6_readCommand_2 (fun H locs hP hD hS => ?_)
  have hP : va_P g.1 vwCl [(f0, oB 6 [.ref f1, .int (nI n), .int (nI p), .int kd, .int se, .int nu]), (f1, aC g 60 tx)] H := hP
  have hD : va_D A [(f0, oB 6 [.ref f1, .int (nI n), .int (nI p), .int kd, .int se, .int nu]), (f1, aC g 60 tx)] := hD
  refine zTop (y := tx p) (if_pos hpn) ?_
  refine va_put (D := g.1) (ci := 6) (v := .int (tx p)) (ty := .int) (C := RX6) (T := TX6) (N := 6) hx hb hts iX6 tyX6 tyX6_ok nmX6 hown hK hP hD hS 0 rfl rfl 3 (by decide) (hts (.fieldLink RX6 32 "StepAxis$Script" "kind" "I") (List.mem_of_getElem? (i := 1) rfl)) (fun _ h9 => h9) rfl (by decide +kernel) rfl rfl (Nat.le_of_ble_eq_true rfl) dX6_readCommand_5 (fun H locs hP hD hS => ?_)
  have hP : va_P g.1 vwCl [(f0, oB 6 [.ref f1, .int (nI n), .int (nI p), .int (tx p), .int se, .int nu]), (f1, aC g 60 tx)] H := hP
  have hD : va_D A [(f0, oB 6 [.ref f1, .int (nI n), .int (nI p), .int (tx p), .int se, .int nu]), (f1, aC g 60 tx)] := hD
  refine lv_aload_n hx hb dX6_readCommand_8 rfl (lv_at hl 0 rfl) ?_
  refine lv_dup hx hb dX6_readCommand_9 rfl ?_
  refine va_get (D := g.1) (ci := 6) (v := .int (nI p)) (C := RX6) (T := TX6) (N := 6) hx hb hts iX6 hown hK hP 0 rfl rfl 2 (by decide) (hts (.fieldLink RX6 25 "StepAxis$Script" "position" "I") (List.mem_of_getElem? (i := 2) rfl)) (fun _ h9 => h9) rfl dX6_readCommand_10 ?_
  refine lv_iconst (v := 1) hx hb dX6_readCommand_13 (by decide +kernel) ?_
  refine lv_iadd hx hb dX6_readCommand_14 ?_
  refine va_put (D := g.1) (ci := 6) (v := .int ((nI p) + 1)) (ty := .int) (C := RX6) (T := TX6) (N := 6) hx hb hts iX6 tyX6 tyX6_ok nmX6 hown hK hP hD hS 0 rfl rfl 2 (by decide) (hts (.fieldLink RX6 25 "StepAxis$Script" "position" "I") (List.mem_of_getElem? (i := 2) rfl)) (fun _ h9 => h9) rfl (by decide +kernel) rfl rfl (Nat.le_of_ble_eq_true rfl) dX6_readCommand_15 (fun H locs hP hD hS => ?_)
  have hP : va_P g.1 vwCl [(f0, oB 6 [.ref f1, .int (nI n), .int ((nI p) + 1), .int (tx p), .int se, .int nu]), (f1, aC g 60 tx)] H := hP
  have hD : va_D A [(f0, oB 6 [.ref f1, .int (nI n), .int ((nI p) + 1), .int (tx p), .int se, .int nu]), (f1, aC g 60 tx)] := hD
  have eF : (nI p) + 1 = nI (p + 1) := (nI_1 p)
  rw [eF] at hP hD
  have hP : va_P g.1 vwCl [(f0, oB 6 [.ref f1, .int (nI n), .int (nI (p + 1)), .int (tx p), .int se, .int nu]), (f1, aC g 60 tx)] H := hP
  have hD : va_D A [(f0, oB 6 [.ref f1, .int (nI n), .int (nI (p + 1)), .int (tx p), .int se, .int nu]), (f1, aC g 60 tx)] := hD
  refine lv_aload_n hx hb dX6_readCommand_18 rfl (lv_at hl 0 rfl) ?_
  refine va_get (D := g.1) (ci := 6) (v := .int (tx p)) (C := RX6) (T := TX6) (N := 6) hx hb hts iX6 hown hK hP 0 rfl rfl 3 (by decide) (hts (.fieldLink RX6 32 "StepAxis$Script" "kind" "I") (List.mem_of_getElem? (i := 1) rfl)) (fun _ h9 => h9) rfl dX6_readCommand_19 ?_
  by_cases k103 : tx p = 103
  · refine lv_lookup (off := 50) (tgt := 72) hx hb dX6_readCommand_22 (by decide +kernel) (by rw [k103]; decide +kernel) (by decide) ?_
    refine lv_aload_n hx hb dX6_readCommand_72 rfl (lv_at hl 0 rfl) ?_
    refine zVI (As := []) (rest := []) (wc := [(f0, oB 6 [.ref f1, .int (nI n), .int (nI (p + 1)), .int (tx p), .int se, .int nu]), (f1, aC g 60 tx)]) (wr := []) (wc' := [(f0, oB 6 [.ref f1, .int (nI n), .int (nI ((sgt tx n (p + 1)).2)), .int (tx p), .int se, .int ((sgt tx n (p + 1)).1)]), (f1, aC g 60 tx)]) ⟨hx, hb, hml, hown, hts⟩ (m_readSigned l g f0 f1 n (p + 1) (tx p) se nu tx hn (by omega)) (cwV 0 hts gX6_readCommand_X6_readSigned rfl rfl rfl (by decide +kernel) ⟨Nat.le_of_ble_eq_true rfl, Nat.le_of_ble_eq_true rfl⟩) hE hK hP hD hS hA 0 6 rfl rfl rfl [0, 1] [] rfl rfl rfl rfl (by decide) rfl hl.1 rfl (lv_room (Nat.le_of_ble_eq_true rfl)) ⟨Nat.zero_le _, Nat.zero_le _⟩ dX6_readCommand_73 (fun H locs hP hD hS => ?_)
    have hP : va_P g.1 vwCl [(f0, oB 6 [.ref f1, .int (nI n), .int (nI ((sgt tx n (p + 1)).2)), .int (tx p), .int se, .int ((sgt tx n (p + 1)).1)]), (f1, aC g 60 tx)] H := hP
    have hD : va_D A [(f0, oB 6 [.ref f1, .int (nI n), .int (nI ((sgt tx n (p + 1)).2)), .int (tx p), .int se, .int ((sgt tx n (p + 1)).1)]), (f1, aC g 60 tx)] := hD
    refine lv_if_eq (tgt := 92) hx hb dX6_readCommand_76 (by decide) (fun c76 => ?_) (fun c76 => ?_)
    · have c76 := b01_f c76
      refine lv_iconst (v := 0) hx hb dX6_readCommand_92 (by decide +kernel) ?_
      exact zEi (v := 0) (ws' := [(f0, oB 6 [.ref f1, .int (nI n), .int (nI ((sgt tx n (p + 1)).2)), .int (tx p), .int se, .int ((sgt tx n (p + 1)).1)]), (f1, aC g 60 tx)]) hx hb hlocks hr rfl hK hP hD hS [0, 1] rfl rfl (by unfold rcB; rw [if_pos (show isGR (tx p) from Or.inl k103)]; exact (b01_0 (fun h => c76 h.1)).symm) (by unfold rcN rcS rcV; rw [if_pos (show isGR (tx p) from Or.inl k103), if_neg c76, if_pos (show isGR (tx p) from Or.inl k103), if_pos (show isGR (tx p) from Or.inl k103)]) dX6_readCommand_93
    · have c76 := b01_t c76
      refine lv_aload_n hx hb dX6_readCommand_79 rfl (lv_at hl 0 rfl) ?_
      refine lv_bipush (v := 59) hx hb dX6_readCommand_80 (by decide +kernel) ?_
      refine zVI (As := [.int 59]) (rest := []) (wc := [(f0, oB 6 [.ref f1, .int (nI n), .int (nI ((sgt tx n (p + 1)).2)), .int (tx p), .int se, .int ((sgt tx n (p + 1)).1)]), (f1, aC g 60 tx)]) (wr := []) (wc' := [(f0, oB 6 [.ref f1, .int (nI n), .int (nI (skN tx n ((sgt tx n (p + 1)).2) 59)), .int (tx p), .int se, .int ((sgt tx n (p + 1)).1)]), (f1, aC g 60 tx)]) ⟨hx, hb, hml, hown, hts⟩ (m_skip l g f0 f1 n ((sgt tx n (p + 1)).2) (tx p) se ((sgt tx n (p + 1)).1) tx 59 hn (by have := sgt_le (tx := tx) (n := n) (p := p + 1); omega) (by decide)) (cwV 1 hts gX6_readCommand_X6_skip rfl rfl rfl (by decide +kernel) ⟨Nat.le_of_ble_eq_true rfl, Nat.le_of_ble_eq_true rfl⟩) hE hK hP hD hS hA 0 6 rfl rfl rfl [0, 1] [] rfl rfl rfl rfl (by decide) rfl hl.1 rfl (lv_room (Nat.le_of_ble_eq_true rfl)) ⟨Nat.zero_le _, Nat.zero_le _⟩ dX6_readCommand_82 (fun H locs hP hD hS => ?_)
      have hP : va_P g.1 vwCl [(f0, oB 6 [.ref f1, .int (nI n), .int (nI (skN tx n ((sgt tx n (p + 1)).2) 59)), .int (tx p), .int se, .int ((sgt tx n (p + 1)).1)]), (f1, aC g 60 tx)] H := hP
      have hD : va_D A [(f0, oB 6 [.ref f1, .int (nI n), .int (nI (skN tx n ((sgt tx n (p + 1)).2) 59)), .int (tx p), .int se, .int ((sgt tx n (p + 1)).1)]), (f1, aC g 60 tx)] := hD
      refine lv_if_eq (tgt := 92) hx hb dX6_readCommand_85 (by decide) (fun c85 => ?_) (fun c85 => ?_)
      · have c85 := b01_f c85
        refine lv_iconst (v := 0) hx hb dX6_readCommand_92 (by decide +kernel) ?_
        exact zEi (v := 0) (ws' := [(f0, oB 6 [.ref f1, .int (nI n), .int (nI (skN tx n ((sgt tx n (p + 1)).2) 59)), .int (tx p), .int se, .int ((sgt tx n (p + 1)).1)]), (f1, aC g 60 tx)]) hx hb hlocks hr rfl hK hP hD hS [0, 1] rfl rfl (by unfold rcB; rw [if_pos (show isGR (tx p) from Or.inl k103)]; exact (b01_0 (fun h => c85 h.2)).symm) (by unfold rcN rcS rcV; rw [if_pos (show isGR (tx p) from Or.inl k103), if_pos c76, if_pos (show isGR (tx p) from Or.inl k103), if_pos (show isGR (tx p) from Or.inl k103)]) dX6_readCommand_93
      · have c85 := b01_t c85
        refine lv_iconst (v := 1) hx hb dX6_readCommand_88 (by decide +kernel) ?_
        refine lv_goto (tgt := 93) hx hb dX6_readCommand_89 (by decide) ?_
        exact zEi (v := 1) (ws' := [(f0, oB 6 [.ref f1, .int (nI n), .int (nI (skN tx n ((sgt tx n (p + 1)).2) 59)), .int (tx p), .int se, .int ((sgt tx n (p + 1)).1)]), (f1, aC g 60 tx)]) hx hb hlocks hr rfl hK hP hD hS [0, 1] rfl rfl (by unfold rcB; rw [if_pos (show isGR (tx p) from Or.inl k103)]; exact (b01_1 ⟨c76, c85⟩).symm) (by unfold rcN rcS rcV; rw [if_pos (show isGR (tx p) from Or.inl k103), if_pos c76, if_pos (show isGR (tx p) from Or.inl k103), if_pos (show isGR (tx p) from Or.inl k103)]) dX6_readCommand_93
  by_cases k104 : tx p = 104
  · refine lv_lookup (off := 110) (tgt := 132) hx hb dX6_readCommand_22 (by decide +kernel) (by rw [k104]; decide +kernel) (by decide) ?_
    refine lv_aload_n hx hb dX6_readCommand_132 rfl (lv_at hl 0 rfl) ?_
    refine lv_bipush (v := 59) hx hb dX6_readCommand_133 (by decide +kernel) ?_
    refine zVI (As := [.int 59]) (rest := []) (wc := [(f0, oB 6 [.ref f1, .int (nI n), .int (nI (p + 1)), .int (tx p), .int se, .int nu]), (f1, aC g 60 tx)]) (wr := []) (wc' := [(f0, oB 6 [.ref f1, .int (nI n), .int (nI (skN tx n (p + 1) 59)), .int (tx p), .int se, .int nu]), (f1, aC g 60 tx)]) ⟨hx, hb, hml, hown, hts⟩ (m_skip l g f0 f1 n (p + 1) (tx p) se nu tx 59 hn (by omega) (by decide)) (cwV 1 hts gX6_readCommand_X6_skip rfl rfl rfl (by decide +kernel) ⟨Nat.le_of_ble_eq_true rfl, Nat.le_of_ble_eq_true rfl⟩) hE hK hP hD hS hA 0 6 rfl rfl rfl [0, 1] [] rfl rfl rfl rfl (by decide) rfl hl.1 rfl (lv_room (Nat.le_of_ble_eq_true rfl)) ⟨Nat.zero_le _, Nat.zero_le _⟩ dX6_readCommand_135 (fun H locs hP hD hS => ?_)
    have hP : va_P g.1 vwCl [(f0, oB 6 [.ref f1, .int (nI n), .int (nI (skN tx n (p + 1) 59)), .int (tx p), .int se, .int nu]), (f1, aC g 60 tx)] H := hP
    have hD : va_D A [(f0, oB 6 [.ref f1, .int (nI n), .int (nI (skN tx n (p + 1) 59)), .int (tx p), .int se, .int nu]), (f1, aC g 60 tx)] := hD
    exact zEi (v := b01 (skP tx n (p + 1) 59)) (ws' := [(f0, oB 6 [.ref f1, .int (nI n), .int (nI (skN tx n (p + 1) 59)), .int (tx p), .int se, .int nu]), (f1, aC g 60 tx)]) hx hb hlocks hr b01_nar hK hP hD hS [0, 1] rfl rfl (by unfold rcB; rw [if_neg (show ¬ isGR (tx p) from by rw [k104]; decide), if_neg (show ¬ tx p = 115 from by rw [k104]; decide), if_pos (show isHZ (tx p) from Or.inl k104)]) (by unfold rcN rcS rcV; rw [if_neg (show ¬ isGR (tx p) from by rw [k104]; decide), if_neg (show ¬ tx p = 115 from by rw [k104]; decide), if_pos (show isHZ (tx p) from Or.inl k104), if_neg (show ¬ isGR (tx p) from by rw [k104]; decide), if_neg (show ¬ tx p = 115 from by rw [k104]; decide), if_neg (show ¬ isGR (tx p) from by rw [k104]; decide), if_neg (show ¬ tx p = 115 from by rw [k104]; decide)]) dX6_readCommand_138
  by_cases k114 : tx p = 114
  · refine lv_lookup (off := 50) (tgt := 72) hx hb dX6_readCommand_22 (by decide +kernel) (by rw [k114]; decide +kernel) (by decide) ?_
    refine lv_aload_n hx hb dX6_readCommand_72 rfl (lv_at hl 0 rfl) ?_
    refine zVI (As := []) (rest := []) (wc := [(f0, oB 6 [.ref f1, .int (nI n), .int (nI (p + 1)), .int (tx p), .int se, .int nu]), (f1, aC g 60 tx)]) (wr := []) (wc' := [(f0, oB 6 [.ref f1, .int (nI n), .int (nI ((sgt tx n (p + 1)).2)), .int (tx p), .int se, .int ((sgt tx n (p + 1)).1)]), (f1, aC g 60 tx)]) ⟨hx, hb, hml, hown, hts⟩ (m_readSigned l g f0 f1 n (p + 1) (tx p) se nu tx hn (by omega)) (cwV 0 hts gX6_readCommand_X6_readSigned rfl rfl rfl (by decide +kernel) ⟨Nat.le_of_ble_eq_true rfl, Nat.le_of_ble_eq_true rfl⟩) hE hK hP hD hS hA 0 6 rfl rfl rfl [0, 1] [] rfl rfl rfl rfl (by decide) rfl hl.1 rfl (lv_room (Nat.le_of_ble_eq_true rfl)) ⟨Nat.zero_le _, Nat.zero_le _⟩ dX6_readCommand_73 (fun H locs hP hD hS => ?_)
    have hP : va_P g.1 vwCl [(f0, oB 6 [.ref f1, .int (nI n), .int (nI ((sgt tx n (p + 1)).2)), .int (tx p), .int se, .int ((sgt tx n (p + 1)).1)]), (f1, aC g 60 tx)] H := hP
    have hD : va_D A [(f0, oB 6 [.ref f1, .int (nI n), .int (nI ((sgt tx n (p + 1)).2)), .int (tx p), .int se, .int ((sgt tx n (p + 1)).1)]), (f1, aC g 60 tx)] := hD
    refine lv_if_eq (tgt := 92) hx hb dX6_readCommand_76 (by decide) (fun c76 => ?_) (fun c76 => ?_)
    · have c76 := b01_f c76
      refine lv_iconst (v := 0) hx hb dX6_readCommand_92 (by decide +kernel) ?_
      exact zEi (v := 0) (ws' := [(f0, oB 6 [.ref f1, .int (nI n), .int (nI ((sgt tx n (p + 1)).2)), .int (tx p), .int se, .int ((sgt tx n (p + 1)).1)]), (f1, aC g 60 tx)]) hx hb hlocks hr rfl hK hP hD hS [0, 1] rfl rfl (by unfold rcB; rw [if_pos (show isGR (tx p) from Or.inr k114)]; exact (b01_0 (fun h => c76 h.1)).symm) (by unfold rcN rcS rcV; rw [if_pos (show isGR (tx p) from Or.inr k114), if_neg c76, if_pos (show isGR (tx p) from Or.inr k114), if_pos (show isGR (tx p) from Or.inr k114)]) dX6_readCommand_93
    · have c76 := b01_t c76
      refine lv_aload_n hx hb dX6_readCommand_79 rfl (lv_at hl 0 rfl) ?_
      refine lv_bipush (v := 59) hx hb dX6_readCommand_80 (by decide +kernel) ?_
      refine zVI (As := [.int 59]) (rest := []) (wc := [(f0, oB 6 [.ref f1, .int (nI n), .int (nI ((sgt tx n (p + 1)).2)), .int (tx p), .int se, .int ((sgt tx n (p + 1)).1)]), (f1, aC g 60 tx)]) (wr := []) (wc' := [(f0, oB 6 [.ref f1, .int (nI n), .int (nI (skN tx n ((sgt tx n (p + 1)).2) 59)), .int (tx p), .int se, .int ((sgt tx n (p + 1)).1)]), (f1, aC g 60 tx)]) ⟨hx, hb, hml, hown, hts⟩ (m_skip l g f0 f1 n ((sgt tx n (p + 1)).2) (tx p) se ((sgt tx n (p + 1)).1) tx 59 hn (by have := sgt_le (tx := tx) (n := n) (p := p + 1); omega) (by decide)) (cwV 1 hts gX6_readCommand_X6_skip rfl rfl rfl (by decide +kernel) ⟨Nat.le_of_ble_eq_true rfl, Nat.le_of_ble_eq_true rfl⟩) hE hK hP hD hS hA 0 6 rfl rfl rfl [0, 1] [] rfl rfl rfl rfl (by decide) rfl hl.1 rfl (lv_room (Nat.le_of_ble_eq_true rfl)) ⟨Nat.zero_le _, Nat.zero_le _⟩ dX6_readCommand_82 (fun H locs hP hD hS => ?_)
      have hP : va_P g.1 vwCl [(f0, oB 6 [.ref f1, .int (nI n), .int (nI (skN tx n ((sgt tx n (p + 1)).2) 59)), .int (tx p), .int se, .int ((sgt tx n (p + 1)).1)]), (f1, aC g 60 tx)] H := hP
      have hD : va_D A [(f0, oB 6 [.ref f1, .int (nI n), .int (nI (skN tx n ((sgt tx n (p + 1)).2) 59)), .int (tx p), .int se, .int ((sgt tx n (p + 1)).1)]), (f1, aC g 60 tx)] := hD
      refine lv_if_eq (tgt := 92) hx hb dX6_readCommand_85 (by decide) (fun c85 => ?_) (fun c85 => ?_)
      · have c85 := b01_f c85
        refine lv_iconst (v := 0) hx hb dX6_readCommand_92 (by decide +kernel) ?_
        exact zEi (v := 0) (ws' := [(f0, oB 6 [.ref f1, .int (nI n), .int (nI (skN tx n ((sgt tx n (p + 1)).2) 59)), .int (tx p), .int se, .int ((sgt tx n (p + 1)).1)]), (f1, aC g 60 tx)]) hx hb hlocks hr rfl hK hP hD hS [0, 1] rfl rfl (by unfold rcB; rw [if_pos (show isGR (tx p) from Or.inr k114)]; exact (b01_0 (fun h => c85 h.2)).symm) (by unfold rcN rcS rcV; rw [if_pos (show isGR (tx p) from Or.inr k114), if_pos c76, if_pos (show isGR (tx p) from Or.inr k114), if_pos (show isGR (tx p) from Or.inr k114)]) dX6_readCommand_93
      · have c85 := b01_t c85
        refine lv_iconst (v := 1) hx hb dX6_readCommand_88 (by decide +kernel) ?_
        refine lv_goto (tgt := 93) hx hb dX6_readCommand_89 (by decide) ?_
        exact zEi (v := 1) (ws' := [(f0, oB 6 [.ref f1, .int (nI n), .int (nI (skN tx n ((sgt tx n (p + 1)).2) 59)), .int (tx p), .int se, .int ((sgt tx n (p + 1)).1)]), (f1, aC g 60 tx)]) hx hb hlocks hr rfl hK hP hD hS [0, 1] rfl rfl (by unfold rcB; rw [if_pos (show isGR (tx p) from Or.inr k114)]; exact (b01_1 ⟨c76, c85⟩).symm) (by unfold rcN rcS rcV; rw [if_pos (show isGR (tx p) from Or.inr k114), if_pos c76, if_pos (show isGR (tx p) from Or.inr k114), if_pos (show isGR (tx p) from Or.inr k114)]) dX6_readCommand_93
  by_cases k115 : tx p = 115
  · refine lv_lookup (off := 72) (tgt := 94) hx hb dX6_readCommand_22 (by decide +kernel) (by rw [k115]; decide +kernel) (by decide) ?_
    refine lv_aload_n hx hb dX6_readCommand_94 rfl (lv_at hl 0 rfl) ?_
    refine zVI (As := []) (rest := []) (wc := [(f0, oB 6 [.ref f1, .int (nI n), .int (nI (p + 1)), .int (tx p), .int se, .int nu]), (f1, aC g 60 tx)]) (wr := []) (wc' := [(f0, oB 6 [.ref f1, .int (nI n), .int (nI ((dgt tx n (p + 1)).2)), .int (tx p), .int ((dgt tx n (p + 1)).1), .int ((dgt tx n (p + 1)).1)]), (f1, aC g 60 tx)]) ⟨hx, hb, hml, hown, hts⟩ (m_readSetting l g f0 f1 n (p + 1) (tx p) se nu tx hn (by omega)) (cwV 0 hts gX6_readCommand_X6_readSetting rfl rfl rfl (by decide +kernel) ⟨Nat.le_of_ble_eq_true rfl, Nat.le_of_ble_eq_true rfl⟩) hE hK hP hD hS hA 0 6 rfl rfl rfl [0, 1] [] rfl rfl rfl rfl (by decide) rfl hl.1 rfl (lv_room (Nat.le_of_ble_eq_true rfl)) ⟨Nat.zero_le _, Nat.zero_le _⟩ dX6_readCommand_95 (fun H locs hP hD hS => ?_)
    have hP : va_P g.1 vwCl [(f0, oB 6 [.ref f1, .int (nI n), .int (nI ((dgt tx n (p + 1)).2)), .int (tx p), .int ((dgt tx n (p + 1)).1), .int ((dgt tx n (p + 1)).1)]), (f1, aC g 60 tx)] H := hP
    have hD : va_D A [(f0, oB 6 [.ref f1, .int (nI n), .int (nI ((dgt tx n (p + 1)).2)), .int (tx p), .int ((dgt tx n (p + 1)).1), .int ((dgt tx n (p + 1)).1)]), (f1, aC g 60 tx)] := hD
    refine lv_if_eq (tgt := 130) hx hb dX6_readCommand_98 (by decide) (fun c98 => ?_) (fun c98 => ?_)
    · have c98 := b01_f c98
      refine lv_iconst (v := 0) hx hb dX6_readCommand_130 (by decide +kernel) ?_
      exact zEi (v := 0) (ws' := [(f0, oB 6 [.ref f1, .int (nI n), .int (nI ((dgt tx n (p + 1)).2)), .int (tx p), .int ((dgt tx n (p + 1)).1), .int ((dgt tx n (p + 1)).1)]), (f1, aC g 60 tx)]) hx hb hlocks hr rfl hK hP hD hS [0, 1] rfl rfl (by unfold rcB; rw [if_neg (show ¬ isGR (tx p) from by rw [k115]; decide), if_pos k115]; exact (b01_0 (fun h => c98 h.1)).symm) (by unfold rcN rcS rcV; rw [if_neg (show ¬ isGR (tx p) from by rw [k115]; decide), if_pos k115, if_neg c98, if_neg (show ¬ isGR (tx p) from by rw [k115]; decide), if_pos k115, if_neg (show ¬ isGR (tx p) from by rw [k115]; decide), if_pos k115, if_neg (fun h => c98 h.1)]) dX6_readCommand_131
    · have c98 := b01_t c98
      refine lv_aload_n hx hb dX6_readCommand_101 rfl (lv_at hl 0 rfl) ?_
      refine lv_bipush (v := 44) hx hb dX6_readCommand_102 (by decide +kernel) ?_
      refine zVI (As := [.int 44]) (rest := []) (wc := [(f0, oB 6 [.ref f1, .int (nI n), .int (nI ((dgt tx n (p + 1)).2)), .int (tx p), .int ((dgt tx n (p + 1)).1), .int ((dgt tx n (p + 1)).1)]), (f1, aC g 60 tx)]) (wr := []) (wc' := [(f0, oB 6 [.ref f1, .int (nI n), .int (nI (skN tx n ((dgt tx n (p + 1)).2) 44)), .int (tx p), .int ((dgt tx n (p + 1)).1), .int ((dgt tx n (p + 1)).1)]), (f1, aC g 60 tx)]) ⟨hx, hb, hml, hown, hts⟩ (m_skip l g f0 f1 n ((dgt tx n (p + 1)).2) (tx p) ((dgt tx n (p + 1)).1) ((dgt tx n (p + 1)).1) tx 44 hn (by have := dgt_le (tx := tx) (n := n) (p := p + 1); omega) (by decide)) (cwV 1 hts gX6_readCommand_X6_skip rfl rfl rfl (by decide +kernel) ⟨Nat.le_of_ble_eq_true rfl, Nat.le_of_ble_eq_true rfl⟩) hE hK hP hD hS hA 0 6 rfl rfl rfl [0, 1] [] rfl rfl rfl rfl (by decide) rfl hl.1 rfl (lv_room (Nat.le_of_ble_eq_true rfl)) ⟨Nat.zero_le _, Nat.zero_le _⟩ dX6_readCommand_104 (fun H locs hP hD hS => ?_)
      have hP : va_P g.1 vwCl [(f0, oB 6 [.ref f1, .int (nI n), .int (nI (skN tx n ((dgt tx n (p + 1)).2) 44)), .int (tx p), .int ((dgt tx n (p + 1)).1), .int ((dgt tx n (p + 1)).1)]), (f1, aC g 60 tx)] H := hP
      have hD : va_D A [(f0, oB 6 [.ref f1, .int (nI n), .int (nI (skN tx n ((dgt tx n (p + 1)).2) 44)), .int (tx p), .int ((dgt tx n (p + 1)).1), .int ((dgt tx n (p + 1)).1)]), (f1, aC g 60 tx)] := hD
      rw [show skN tx n (dgt tx n (p + 1)).2 44 = rcQ tx n p from rfl] at hP hD
      refine lv_if_eq (tgt := 130) hx hb dX6_readCommand_107 (by decide) (fun c107 => ?_) (fun c107 => ?_)
      · have c107 := b01_f c107
        refine lv_iconst (v := 0) hx hb dX6_readCommand_130 (by decide +kernel) ?_
        exact zEi (v := 0) (ws' := [(f0, oB 6 [.ref f1, .int (nI n), .int (nI (rcQ tx n p)), .int (tx p), .int ((dgt tx n (p + 1)).1), .int ((dgt tx n (p + 1)).1)]), (f1, aC g 60 tx)]) hx hb hlocks hr rfl hK hP hD hS [0, 1] rfl rfl (by unfold rcB; rw [if_neg (show ¬ isGR (tx p) from by rw [k115]; decide), if_pos k115]; exact (b01_0 (fun h => c107 h.2.1)).symm) (by unfold rcN rcS rcV; rw [if_neg (show ¬ isGR (tx p) from by rw [k115]; decide), if_pos k115, if_pos c98, if_neg c107, if_neg (show ¬ isGR (tx p) from by rw [k115]; decide), if_pos k115, if_neg (show ¬ isGR (tx p) from by rw [k115]; decide), if_pos k115, if_neg (fun h => c107 h.2)]) dX6_readCommand_131
      · have c107 := b01_t c107
        refine lv_aload_n hx hb dX6_readCommand_110 rfl (lv_at hl 0 rfl) ?_
        refine zVI (As := []) (rest := []) (wc := [(f0, oB 6 [.ref f1, .int (nI n), .int (nI (rcQ tx n p)), .int (tx p), .int ((dgt tx n (p + 1)).1), .int ((dgt tx n (p + 1)).1)]), (f1, aC g 60 tx)]) (wr := []) (wc' := [(f0, oB 6 [.ref f1, .int (nI n), .int (nI ((sgt tx n (rcQ tx n p)).2)), .int (tx p), .int ((dgt tx n (p + 1)).1), .int ((sgt tx n (rcQ tx n p)).1)]), (f1, aC g 60 tx)]) ⟨hx, hb, hml, hown, hts⟩ (m_readSigned l g f0 f1 n (rcQ tx n p) (tx p) ((dgt tx n (p + 1)).1) ((dgt tx n (p + 1)).1) tx hn (by have := rcQ_le (tx := tx) (n := n) (p := p); omega)) (cwV 0 hts gX6_readCommand_X6_readSigned rfl rfl rfl (by decide +kernel) ⟨Nat.le_of_ble_eq_true rfl, Nat.le_of_ble_eq_true rfl⟩) hE hK hP hD hS hA 0 6 rfl rfl rfl [0, 1] [] rfl rfl rfl rfl (by decide) rfl hl.1 rfl (lv_room (Nat.le_of_ble_eq_true rfl)) ⟨Nat.zero_le _, Nat.zero_le _⟩ dX6_readCommand_111 (fun H locs hP hD hS => ?_)
        have hP : va_P g.1 vwCl [(f0, oB 6 [.ref f1, .int (nI n), .int (nI ((sgt tx n (rcQ tx n p)).2)), .int (tx p), .int ((dgt tx n (p + 1)).1), .int ((sgt tx n (rcQ tx n p)).1)]), (f1, aC g 60 tx)] H := hP
        have hD : va_D A [(f0, oB 6 [.ref f1, .int (nI n), .int (nI ((sgt tx n (rcQ tx n p)).2)), .int (tx p), .int ((dgt tx n (p + 1)).1), .int ((sgt tx n (rcQ tx n p)).1)]), (f1, aC g 60 tx)] := hD
        refine lv_if_eq (tgt := 130) hx hb dX6_readCommand_114 (by decide) (fun c114 => ?_) (fun c114 => ?_)
        · have c114 := b01_f c114
          refine lv_iconst (v := 0) hx hb dX6_readCommand_130 (by decide +kernel) ?_
          exact zEi (v := 0) (ws' := [(f0, oB 6 [.ref f1, .int (nI n), .int (nI ((sgt tx n (rcQ tx n p)).2)), .int (tx p), .int ((dgt tx n (p + 1)).1), .int ((sgt tx n (rcQ tx n p)).1)]), (f1, aC g 60 tx)]) hx hb hlocks hr rfl hK hP hD hS [0, 1] rfl rfl (by unfold rcB; rw [if_neg (show ¬ isGR (tx p) from by rw [k115]; decide), if_pos k115]; exact (b01_0 (fun h => c114 h.2.2.1)).symm) (by unfold rcN rcS rcV; rw [if_neg (show ¬ isGR (tx p) from by rw [k115]; decide), if_pos k115, if_pos c98, if_pos c107, if_neg c114, if_neg (show ¬ isGR (tx p) from by rw [k115]; decide), if_pos k115, if_neg (show ¬ isGR (tx p) from by rw [k115]; decide), if_pos k115, if_pos ⟨c98, c107⟩]) dX6_readCommand_131
        · have c114 := b01_t c114
          refine lv_aload_n hx hb dX6_readCommand_117 rfl (lv_at hl 0 rfl) ?_
          refine lv_bipush (v := 59) hx hb dX6_readCommand_118 (by decide +kernel) ?_
          refine zVI (As := [.int 59]) (rest := []) (wc := [(f0, oB 6 [.ref f1, .int (nI n), .int (nI ((sgt tx n (rcQ tx n p)).2)), .int (tx p), .int ((dgt tx n (p + 1)).1), .int ((sgt tx n (rcQ tx n p)).1)]), (f1, aC g 60 tx)]) (wr := []) (wc' := [(f0, oB 6 [.ref f1, .int (nI n), .int (nI (skN tx n ((sgt tx n (rcQ tx n p)).2) 59)), .int (tx p), .int ((dgt tx n (p + 1)).1), .int ((sgt tx n (rcQ tx n p)).1)]), (f1, aC g 60 tx)]) ⟨hx, hb, hml, hown, hts⟩ (m_skip l g f0 f1 n ((sgt tx n (rcQ tx n p)).2) (tx p) ((dgt tx n (p + 1)).1) ((sgt tx n (rcQ tx n p)).1) tx 59 hn (by have := rcQ_le (tx := tx) (n := n) (p := p); have := sgt_le (tx := tx) (n := n) (p := rcQ tx n p); omega) (by decide)) (cwV 1 hts gX6_readCommand_X6_skip rfl rfl rfl (by decide +kernel) ⟨Nat.le_of_ble_eq_true rfl, Nat.le_of_ble_eq_true rfl⟩) hE hK hP hD hS hA 0 6 rfl rfl rfl [0, 1] [] rfl rfl rfl rfl (by decide) rfl hl.1 rfl (lv_room (Nat.le_of_ble_eq_true rfl)) ⟨Nat.zero_le _, Nat.zero_le _⟩ dX6_readCommand_120 (fun H locs hP hD hS => ?_)
          have hP : va_P g.1 vwCl [(f0, oB 6 [.ref f1, .int (nI n), .int (nI (skN tx n ((sgt tx n (rcQ tx n p)).2) 59)), .int (tx p), .int ((dgt tx n (p + 1)).1), .int ((sgt tx n (rcQ tx n p)).1)]), (f1, aC g 60 tx)] H := hP
          have hD : va_D A [(f0, oB 6 [.ref f1, .int (nI n), .int (nI (skN tx n ((sgt tx n (rcQ tx n p)).2) 59)), .int (tx p), .int ((dgt tx n (p + 1)).1), .int ((sgt tx n (rcQ tx n p)).1)]), (f1, aC g 60 tx)] := hD
          refine lv_if_eq (tgt := 130) hx hb dX6_readCommand_123 (by decide) (fun c123 => ?_) (fun c123 => ?_)
          · have c123 := b01_f c123
            refine lv_iconst (v := 0) hx hb dX6_readCommand_130 (by decide +kernel) ?_
            exact zEi (v := 0) (ws' := [(f0, oB 6 [.ref f1, .int (nI n), .int (nI (skN tx n ((sgt tx n (rcQ tx n p)).2) 59)), .int (tx p), .int ((dgt tx n (p + 1)).1), .int ((sgt tx n (rcQ tx n p)).1)]), (f1, aC g 60 tx)]) hx hb hlocks hr rfl hK hP hD hS [0, 1] rfl rfl (by unfold rcB; rw [if_neg (show ¬ isGR (tx p) from by rw [k115]; decide), if_pos k115]; exact (b01_0 (fun h => c123 h.2.2.2)).symm) (by unfold rcN rcS rcV; rw [if_neg (show ¬ isGR (tx p) from by rw [k115]; decide), if_pos k115, if_pos c98, if_pos c107, if_pos c114, if_neg (show ¬ isGR (tx p) from by rw [k115]; decide), if_pos k115, if_neg (show ¬ isGR (tx p) from by rw [k115]; decide), if_pos k115, if_pos ⟨c98, c107⟩]) dX6_readCommand_131
          · have c123 := b01_t c123
            refine lv_iconst (v := 1) hx hb dX6_readCommand_126 (by decide +kernel) ?_
            refine lv_goto (tgt := 131) hx hb dX6_readCommand_127 (by decide) ?_
            exact zEi (v := 1) (ws' := [(f0, oB 6 [.ref f1, .int (nI n), .int (nI (skN tx n ((sgt tx n (rcQ tx n p)).2) 59)), .int (tx p), .int ((dgt tx n (p + 1)).1), .int ((sgt tx n (rcQ tx n p)).1)]), (f1, aC g 60 tx)]) hx hb hlocks hr rfl hK hP hD hS [0, 1] rfl rfl (by unfold rcB; rw [if_neg (show ¬ isGR (tx p) from by rw [k115]; decide), if_pos k115]; exact (b01_1 ⟨c98, c107, c114, c123⟩).symm) (by unfold rcN rcS rcV; rw [if_neg (show ¬ isGR (tx p) from by rw [k115]; decide), if_pos k115, if_pos c98, if_pos c107, if_pos c114, if_neg (show ¬ isGR (tx p) from by rw [k115]; decide), if_pos k115, if_neg (show ¬ isGR (tx p) from by rw [k115]; decide), if_pos k115, if_pos ⟨c98, c107⟩]) dX6_readCommand_131
  by_cases k122 : tx p = 122
  · refine lv_lookup (off := 110) (tgt := 132) hx hb dX6_readCommand_22 (by decide +kernel) (by rw [k122]; decide +kernel) (by decide) ?_
    refine lv_aload_n hx hb dX6_readCommand_132 rfl (lv_at hl 0 rfl) ?_
    refine lv_bipush (v := 59) hx hb dX6_readCommand_133 (by decide +kernel) ?_
    refine zVI (As := [.int 59]) (rest := []) (wc := [(f0, oB 6 [.ref f1, .int (nI n), .int (nI (p + 1)), .int (tx p), .int se, .int nu]), (f1, aC g 60 tx)]) (wr := []) (wc' := [(f0, oB 6 [.ref f1, .int (nI n), .int (nI (skN tx n (p + 1) 59)), .int (tx p), .int se, .int nu]), (f1, aC g 60 tx)]) ⟨hx, hb, hml, hown, hts⟩ (m_skip l g f0 f1 n (p + 1) (tx p) se nu tx 59 hn (by omega) (by decide)) (cwV 1 hts gX6_readCommand_X6_skip rfl rfl rfl (by decide +kernel) ⟨Nat.le_of_ble_eq_true rfl, Nat.le_of_ble_eq_true rfl⟩) hE hK hP hD hS hA 0 6 rfl rfl rfl [0, 1] [] rfl rfl rfl rfl (by decide) rfl hl.1 rfl (lv_room (Nat.le_of_ble_eq_true rfl)) ⟨Nat.zero_le _, Nat.zero_le _⟩ dX6_readCommand_135 (fun H locs hP hD hS => ?_)
    have hP : va_P g.1 vwCl [(f0, oB 6 [.ref f1, .int (nI n), .int (nI (skN tx n (p + 1) 59)), .int (tx p), .int se, .int nu]), (f1, aC g 60 tx)] H := hP
    have hD : va_D A [(f0, oB 6 [.ref f1, .int (nI n), .int (nI (skN tx n (p + 1) 59)), .int (tx p), .int se, .int nu]), (f1, aC g 60 tx)] := hD
    exact zEi (v := b01 (skP tx n (p + 1) 59)) (ws' := [(f0, oB 6 [.ref f1, .int (nI n), .int (nI (skN tx n (p + 1) 59)), .int (tx p), .int se, .int nu]), (f1, aC g 60 tx)]) hx hb hlocks hr b01_nar hK hP hD hS [0, 1] rfl rfl (by unfold rcB; rw [if_neg (show ¬ isGR (tx p) from by rw [k122]; decide), if_neg (show ¬ tx p = 115 from by rw [k122]; decide), if_pos (show isHZ (tx p) from Or.inr k122)]) (by unfold rcN rcS rcV; rw [if_neg (show ¬ isGR (tx p) from by rw [k122]; decide), if_neg (show ¬ tx p = 115 from by rw [k122]; decide), if_pos (show isHZ (tx p) from Or.inr k122), if_neg (show ¬ isGR (tx p) from by rw [k122]; decide), if_neg (show ¬ tx p = 115 from by rw [k122]; decide), if_neg (show ¬ isGR (tx p) from by rw [k122]; decide), if_neg (show ¬ tx p = 115 from by rw [k122]; decide)]) dX6_readCommand_138
  refine lv_lookup (off := 117) (tgt := 139) hx hb dX6_readCommand_22 (by decide +kernel) (by rw [lv_osw (k := 103) k103 (by decide)]; rw [lv_osw (k := 104) k104 (by decide)]; rw [lv_osw (k := 114) k114 (by decide)]; rw [lv_osw (k := 115) k115 (by decide)]; rw [lv_osw (k := 122) k122 (by decide)]; rfl) (by decide) ?_
  refine lv_iconst (v := 0) hx hb dX6_readCommand_139 (by decide +kernel) ?_
  exact zEi (v := 0) (ws' := [(f0, oB 6 [.ref f1, .int (nI n), .int (nI (p + 1)), .int (tx p), .int se, .int nu]), (f1, aC g 60 tx)]) hx hb hlocks hr rfl hK hP hD hS [0, 1] rfl rfl (by unfold rcB; rw [if_neg (fun h => h.elim k103 k114), if_neg k115, if_neg (fun h => h.elim k104 k122)]) (by unfold rcN rcS rcV; rw [if_neg (fun h => h.elim k103 k114), if_neg k115, if_neg (fun h => h.elim k104 k122), if_neg (fun h => h.elim k103 k114), if_neg k115, if_neg (fun h => h.elim k103 k114), if_neg k115]) dX6_readCommand_140
