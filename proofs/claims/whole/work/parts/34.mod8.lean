set_option maxHeartbeats 4000000 in
set_option maxRecDepth 100000 in
theorem r_isAt (l : Launch) (g : G3) (m0 m1 m2 m3 m4 m5 m6 m7 m8 : Nat) (ps rn la mn ma sn ca cm kd : Int32) (n p : Nat) (tx : Nat → Int32) (lo hi : Int32) (hn : n ≤ 60) (hp : p ≤ 100) : MI l yX9_isAt wsX9_isAt (rk 1 22) g [.ref m0, .int lo, .int hi] [(m0, oB 9 [.ref m1, .ref m2, .ref m3, .ref m4, .int ps, .int rn, .ref m5, .int (nI n), .ref m6, .ref m7, .int la, .int mn, .int ma, .int sn, .int (nI p), .int ca, .int cm, .int kd, .ref m8]), (m5, aI g 60 tx)] (b01 (p < n ∧ lo ≤ tx p ∧ tx p ≤ hi)) [(m0, oB 9 [.ref m1, .ref m2, .ref m3, .ref m4, .int ps, .int rn, .ref m5, .int (nI n), .ref m6, .ref m7, .int la, .int mn, .int ma, .int sn, .int (nI p), .int ca, .int cm, .int kd, .ref m8]), (m5, aI g 60 tx)] := by
  refine zWalk.met (Qc := fun A => zQi g (b01 (p < n ∧ lo ≤ tx p ∧ tx p ≤ hi)) [(m0, oB 9 [.ref m1, .ref m2, .ref m3, .ref m4, .int ps, .int rn, .ref m5, .int (nI n), .ref m6, .ref m7, .int la, .int mn, .int ma, .int sn, .int (nI p), .int ca, .int cm, .int kd, .ref m8]), (m5, aI g 60 tx)] A) (cc := cX9_isAt) (maxL := 3) (ret := (some .boolean)) ?_ (by decide) rfl (Nat.le_of_ble_eq_true rfl)
  intro pg ev sx mi args below meth cd A H locs ls hx hb hr hml hown hts hlocks hA hE hK hP hD hS hl
  have iX9 : ∀ w ∈ u_ws RX9 TX9 19, w ∈ wsX9_isAt := (fun _ h => (List.mem_cons_of_mem _ (List.mem_append_right _ h)))
  have hl : lv_has ls 3 [(0, .ref m0), (1, .int lo), (2, .int hi)] := hl
  refine lv_aload_n hx hb dX9_isAt_0 rfl (lv_at hl 0 rfl) ?_
  refine va_get (D := g.1) (ci := 9) (v := .int (nI p)) (C := RX9) (T := TX9) (N := 19) hx hb hts iX9 hown hK hP 0 rfl rfl 14 (by decide) (hts (.fieldLink RX9 129 "StepAxisModel" "spot" "I") (List.mem_of_getElem? (i := 1) rfl)) (fun _ h9 => h9) rfl dX9_isAt_1 ?_
  refine lv_aload_n hx hb dX9_isAt_4 rfl (lv_at hl 0 rfl) ?_
  refine va_get (D := g.1) (ci := 9) (v := .int (nI n)) (C := RX9) (T := TX9) (N := 19) hx hb hts iX9 hown hK hP 0 rfl rfl 7 (by decide) (hts (.fieldLink RX9 117 "StepAxisModel" "typed" "I") (List.mem_of_getElem? (i := 2) rfl)) (fun _ h9 => h9) rfl dX9_isAt_5 ?_
  refine lv_icmp_ge (tgt := 32) hx hb dX9_isAt_8 (by decide) (fun c8 => ?_) (fun c8 => ?_)
  · refine lv_iconst (v := 0) hx hb dX9_isAt_32 (by decide +kernel) ?_
    exact zEi (v := 0) (ws' := [(m0, oB 9 [.ref m1, .ref m2, .ref m3, .ref m4, .int ps, .int rn, .ref m5, .int (nI n), .ref m6, .ref m7, .int la, .int mn, .int ma, .int sn, .int (nI p), .int ca, .int cm, .int kd, .ref m8]), (m5, aI g 60 tx)]) hx hb hlocks hr rfl hK hP hD hS [0, 1] rfl rfl (b01_0 (fun h => absurd (nle_of (by omega) (by omega) c8) (by omega))).symm rfl dX9_isAt_33
  · have hlt : p < n := nlt_of (by omega) c8
    refine lv_aload_n hx hb dX9_isAt_11 rfl (lv_at hl 0 rfl) ?_
    refine va_get (D := g.1) (ci := 9) (v := .ref m5) (C := RX9) (T := TX9) (N := 19) hx hb hts iX9 hown hK hP 0 rfl rfl 6 (by decide) (hts (.fieldLink RX9 22 "StepAxisModel" "text" "[I") (List.mem_of_getElem? (i := 3) rfl)) (fun _ h9 => h9) rfl dX9_isAt_12 ?_
    refine lv_aload_n hx hb dX9_isAt_15 rfl (lv_at hl 0 rfl) ?_
    refine va_get (D := g.1) (ci := 9) (v := .int (nI p)) (C := RX9) (T := TX9) (N := 19) hx hb hts iX9 hown hK hP 0 rfl rfl 14 (by decide) (hts (.fieldLink RX9 129 "StepAxisModel" "spot" "I") (List.mem_of_getElem? (i := 1) rfl)) (fun _ h9 => h9) rfl dX9_isAt_16 ?_
    refine zald (k := p) hx hb hK hP 1 0 rfl rfl (IX.of rfl (by omega) (by decide)) dX9_isAt_19 ?_
    refine lv_iload_n hx hb dX9_isAt_20 rfl (lv_at hl 1 rfl) ?_
    refine lv_iload_n hx hb dX9_isAt_21 rfl (lv_at hl 2 rfl) ?_
    refine zSI (As := [.int (tx p), .int lo, .int hi]) (rest := []) (wc := []) (wr := [(m0, oB 9 [.ref m1, .ref m2, .ref m3, .ref m4, .int ps, .int rn, .ref m5, .int (nI n), .ref m6, .ref m7, .int la, .int mn, .int ma, .int sn, .int (nI p), .int ca, .int cm, .int kd, .ref m8]), (m5, aI g 60 tx)]) (wc' := []) ⟨hx, hb, hml, hown, hts⟩ (r_in l g (tx p) lo hi) (va_cwS 3 hts gX9_isAt_X9_in rfl rfl rfl (by decide +kernel) ⟨Nat.le_of_ble_eq_true rfl, Nat.le_of_ble_eq_true rfl⟩) hE hK hP hD hS hA [] [0, 1] rfl rfl rfl rfl (by decide) rfl hl.1 rfl (lv_room (Nat.le_of_ble_eq_true rfl)) ⟨Nat.zero_le _, Nat.zero_le _⟩ dX9_isAt_22 (fun H locs hP hD hS => ?_)
    have hP : va_P g.1 vwCl [(m0, oB 9 [.ref m1, .ref m2, .ref m3, .ref m4, .int ps, .int rn, .ref m5, .int (nI n), .ref m6, .ref m7, .int la, .int mn, .int ma, .int sn, .int (nI p), .int ca, .int cm, .int kd, .ref m8]), (m5, aI g 60 tx)] H := hP
    have hD : va_D A [(m0, oB 9 [.ref m1, .ref m2, .ref m3, .ref m4, .int ps, .int rn, .ref m5, .int (nI n), .ref m6, .ref m7, .int la, .int mn, .int ma, .int sn, .int (nI p), .int ca, .int cm, .int kd, .ref m8]), (m5, aI g 60 tx)] := hD
    refine lv_if_eq (tgt := 32) hx hb dX9_isAt_25 (by decide) (fun c25 => ?_) (fun c25 => ?_)
    · have c25 := b01_f c25
      refine lv_iconst (v := 0) hx hb dX9_isAt_32 (by decide +kernel) ?_
      exact zEi (v := 0) (ws' := [(m0, oB 9 [.ref m1, .ref m2, .ref m3, .ref m4, .int ps, .int rn, .ref m5, .int (nI n), .ref m6, .ref m7, .int la, .int mn, .int ma, .int sn, .int (nI p), .int ca, .int cm, .int kd, .ref m8]), (m5, aI g 60 tx)]) hx hb hlocks hr rfl hK hP hD hS [0, 1] rfl rfl (b01_0 (fun h => c25 h.2)).symm rfl dX9_isAt_33
    · have c25 := b01_t c25
      refine lv_iconst (v := 1) hx hb dX9_isAt_28 (by decide +kernel) ?_
      refine lv_goto (tgt := 33) hx hb dX9_isAt_29 (by decide) ?_
      exact zEi (v := 1) (ws' := [(m0, oB 9 [.ref m1, .ref m2, .ref m3, .ref m4, .int ps, .int rn, .ref m5, .int (nI n), .ref m6, .ref m7, .int la, .int mn, .int ma, .int sn, .int (nI p), .int ca, .int cm, .int kd, .ref m8]), (m5, aI g 60 tx)]) hx hb hlocks hr rfl hK hP hD hS [0, 1] rfl rfl (b01_1 ⟨hlt, c25⟩).symm rfl dX9_isAt_33
set_option maxHeartbeats 4000000 in
set_option maxRecDepth 100000 in
theorem r_passes (l : Launch) (g : G3) (m0 m1 m2 m3 m4 m5 m6 m7 m8 : Nat) (ps rn la mn ma sn ca cm kd : Int32) (n p : Nat) (tx : Nat → Int32) (c : Int32) (hn : n ≤ 60) (hp : p ≤ 100) : MI l yX9_passes wsX9_passes (rk 2 44) g [.ref m0, .int c] [(m0, oB 9 [.ref m1, .ref m2, .ref m3, .ref m4, .int ps, .int rn, .ref m5, .int (nI n), .ref m6, .ref m7, .int la, .int mn, .int ma, .int sn, .int (nI p), .int ca, .int cm, .int kd, .ref m8]), (m5, aI g 60 tx)] (b01 (skP tx n p c)) [(m0, oB 9 [.ref m1, .ref m2, .ref m3, .ref m4, .int ps, .int rn, .ref m5, .int (nI n), .ref m6, .ref m7, .int la, .int mn, .int ma, .int sn, .int (nI (skN tx n p c)), .int ca, .int cm, .int kd, .ref m8]), (m5, aI g 60 tx)] := by
  refine zWalk.met (Qc := fun A => zQi g (b01 (skP tx n p c)) [(m0, oB 9 [.ref m1, .ref m2, .ref m3, .ref m4, .int ps, .int rn, .ref m5, .int (nI n), .ref m6, .ref m7, .int la, .int mn, .int ma, .int sn, .int (nI (skN tx n p c)), .int ca, .int cm, .int kd, .ref m8]), (m5, aI g 60 tx)] A) (cc := cX9_passes) (maxL := 3) (ret := (some .boolean)) ?_ (by decide) rfl (Nat.le_of_ble_eq_true rfl)
  intro pg ev sx mi args below meth cd A H locs ls hx hb hr hml hown hts hlocks hA hE hK hP hD hS hl
  have iX9 : ∀ w ∈ u_ws RX9 TX9 19, w ∈ wsX9_passes := (fun _ h => (List.mem_cons_of_mem _ (List.mem_append_right _ h)))
  have hl : lv_has ls 3 [(0, .ref m0), (1, .int c)] := hl
  refine lv_aload_n hx hb dX9_passes_0 rfl (lv_at hl 0 rfl) ?_
  refine lv_iload_n hx hb dX9_passes_1 rfl (lv_at hl 1 rfl) ?_
  refine lv_iload_n hx hb dX9_passes_2 rfl (lv_at hl 1 rfl) ?_
  refine zVI (As := [.int c, .int c]) (rest := []) (wc := [(m0, oB 9 [.ref m1, .ref m2, .ref m3, .ref m4, .int ps, .int rn, .ref m5, .int (nI n), .ref m6, .ref m7, .int la, .int mn, .int ma, .int sn, .int (nI p), .int ca, .int cm, .int kd, .ref m8]), (m5, aI g 60 tx)]) (wr := []) (wc' := [(m0, oB 9 [.ref m1, .ref m2, .ref m3, .ref m4, .int ps, .int rn, .ref m5, .int (nI n), .ref m6, .ref m7, .int la, .int mn, .int ma, .int sn, .int (nI p), .int ca, .int cm, .int kd, .ref m8]), (m5, aI g 60 tx)]) ⟨hx, hb, hml, hown, hts⟩ (r_isAt l g m0 m1 m2 m3 m4 m5 m6 m7 m8 ps rn la mn ma sn ca cm kd n p tx c c hn hp) (cwV 2 hts gX9_passes_X9_isAt rfl rfl rfl (by decide +kernel) ⟨Nat.le_of_ble_eq_true rfl, Nat.le_of_ble_eq_true rfl⟩) hE hK hP hD hS hA 0 9 rfl rfl rfl [0, 1] [] rfl rfl rfl rfl (by decide) rfl hl.1 rfl (lv_room (Nat.le_of_ble_eq_true rfl)) ⟨Nat.zero_le _, Nat.zero_le _⟩ dX9_passes_3 (fun H locs hP hD hS => ?_)
  have hP : va_P g.1 vwCl [(m0, oB 9 [.ref m1, .ref m2, .ref m3, .ref m4, .int ps, .int rn, .ref m5, .int (nI n), .ref m6, .ref m7, .int la, .int mn, .int ma, .int sn, .int (nI p), .int ca, .int cm, .int kd, .ref m8]), (m5, aI g 60 tx)] H := hP
  have hD : va_D A [(m0, oB 9 [.ref m1, .ref m2, .ref m3, .ref m4, .int ps, .int rn, .ref m5, .int (nI n), .ref m6, .ref m7, .int la, .int mn, .int ma, .int sn, .int (nI p), .int ca, .int cm, .int kd, .ref m8]), (m5, aI g 60 tx)] := hD
  refine zTop (y := b01 (skP tx n p c)) (b01_c skP_iff) ?_
  refine lv_istore_n (lv' := [(2, .int (b01 (skP tx n p c))), (0, .ref m0), (1, .int c)]) hx hb dX9_passes_6 rfl hl (by decide) rfl (fun ls hl => ?_)
  refine lv_aload_n hx hb dX9_passes_7 rfl (lv_at hl 1 rfl) ?_
  refine lv_dup hx hb dX9_passes_8 rfl ?_
  refine va_get (D := g.1) (ci := 9) (v := .int (nI p)) (C := RX9) (T := TX9) (N := 19) hx hb hts iX9 hown hK hP 0 rfl rfl 14 (by decide) (hts (.fieldLink RX9 129 "StepAxisModel" "spot" "I") (List.mem_of_getElem? (i := 1) rfl)) (fun _ h9 => h9) rfl dX9_passes_9 ?_
  refine lv_iload_n hx hb dX9_passes_12 rfl (lv_at hl 0 rfl) ?_
  refine lv_if_eq (tgt := 20) hx hb dX9_passes_13 (by decide) (fun c13 => ?_) (fun c13 => ?_)
  · have c13 := b01_f c13
    refine lv_iconst (v := 0) hx hb dX9_passes_20 (by decide +kernel) ?_
    refine lv_iadd hx hb dX9_passes_21 ?_
    refine va_put (D := g.1) (ci := 9) (v := .int ((nI p) + 0)) (ty := .int) (C := RX9) (T := TX9) (N := 19) hx hb hts iX9 tyX9 tyX9_ok nmX9 hown hK hP hD hS 0 rfl rfl 14 (by decide) (hts (.fieldLink RX9 129 "StepAxisModel" "spot" "I") (List.mem_of_getElem? (i := 1) rfl)) (fun _ h9 => h9) rfl (by decide +kernel) rfl rfl (Nat.le_of_ble_eq_true rfl) dX9_passes_22 (fun H locs hP hD hS => ?_)
    have hP : va_P g.1 vwCl [(m0, oB 9 [.ref m1, .ref m2, .ref m3, .ref m4, .int ps, .int rn, .ref m5, .int (nI n), .ref m6, .ref m7, .int la, .int mn, .int ma, .int sn, .int ((nI p) + 0), .int ca, .int cm, .int kd, .ref m8]), (m5, aI g 60 tx)] H := hP
    have hD : va_D A [(m0, oB 9 [.ref m1, .ref m2, .ref m3, .ref m4, .int ps, .int rn, .ref m5, .int (nI n), .ref m6, .ref m7, .int la, .int mn, .int ma, .int sn, .int ((nI p) + 0), .int ca, .int cm, .int kd, .ref m8]), (m5, aI g 60 tx)] := hD
    refine lv_iload_n hx hb dX9_passes_25 rfl (lv_at hl 0 rfl) ?_
    exact zEi (v := b01 (skP tx n p c)) (ws' := [(m0, oB 9 [.ref m1, .ref m2, .ref m3, .ref m4, .int ps, .int rn, .ref m5, .int (nI n), .ref m6, .ref m7, .int la, .int mn, .int ma, .int sn, .int ((nI p) + 0), .int ca, .int cm, .int kd, .ref m8]), (m5, aI g 60 tx)]) hx hb hlocks hr b01_nar hK hP hD hS [0, 1] rfl rfl rfl (by rw [show skN tx n p c = p from if_neg c13, Int32.add_zero]) dX9_passes_26
  · have c13 := b01_t c13
    refine lv_iconst (v := 1) hx hb dX9_passes_16 (by decide +kernel) ?_
    refine lv_goto (tgt := 21) hx hb dX9_passes_17 (by decide) ?_
    refine lv_iadd hx hb dX9_passes_21 ?_
    refine va_put (D := g.1) (ci := 9) (v := .int ((nI p) + 1)) (ty := .int) (C := RX9) (T := TX9) (N := 19) hx hb hts iX9 tyX9 tyX9_ok nmX9 hown hK hP hD hS 0 rfl rfl 14 (by decide) (hts (.fieldLink RX9 129 "StepAxisModel" "spot" "I") (List.mem_of_getElem? (i := 1) rfl)) (fun _ h9 => h9) rfl (by decide +kernel) rfl rfl (Nat.le_of_ble_eq_true rfl) dX9_passes_22 (fun H locs hP hD hS => ?_)
    have hP : va_P g.1 vwCl [(m0, oB 9 [.ref m1, .ref m2, .ref m3, .ref m4, .int ps, .int rn, .ref m5, .int (nI n), .ref m6, .ref m7, .int la, .int mn, .int ma, .int sn, .int ((nI p) + 1), .int ca, .int cm, .int kd, .ref m8]), (m5, aI g 60 tx)] H := hP
    have hD : va_D A [(m0, oB 9 [.ref m1, .ref m2, .ref m3, .ref m4, .int ps, .int rn, .ref m5, .int (nI n), .ref m6, .ref m7, .int la, .int mn, .int ma, .int sn, .int ((nI p) + 1), .int ca, .int cm, .int kd, .ref m8]), (m5, aI g 60 tx)] := hD
    refine lv_iload_n hx hb dX9_passes_25 rfl (lv_at hl 0 rfl) ?_
    exact zEi (v := b01 (skP tx n p c)) (ws' := [(m0, oB 9 [.ref m1, .ref m2, .ref m3, .ref m4, .int ps, .int rn, .ref m5, .int (nI n), .ref m6, .ref m7, .int la, .int mn, .int ma, .int sn, .int ((nI p) + 1), .int ca, .int cm, .int kd, .ref m8]), (m5, aI g 60 tx)]) hx hb hlocks hr b01_nar hK hP hD hS [0, 1] rfl rfl rfl (by rw [show skN tx n p c = p + 1 from if_pos c13, ← nI_1]) dX9_passes_26
set_option maxHeartbeats 4000000 in
set_option maxRecDepth 100000 in
theorem r_number (l : Launch) (g : G3) (m0 m1 m2 m3 m4 m5 m6 m7 m8 : Nat) (ps rn la mn ma sn ca cm kd : Int32) (n p : Nat) (tx : Nat → Int32) (nf : Nat → Int32) (w : Int32) (kw : Nat) (sg : Int32) (hn : n ≤ 60) (hp3 : p ≤ 80) (ew : w = nI kw) (hkw : kw < 2) : MI l yX9_number wsX9_number (rk 3 66) g [.ref m0, .int w, .int sg] [(m0, oB 9 [.ref m1, .ref m2, .ref m3, .ref m4, .int ps, .int rn, .ref m5, .int (nI n), .ref m6, .ref m7, .int la, .int mn, .int ma, .int sn, .int (nI p), .int ca, .int cm, .int kd, .ref m8]), (m5, aI g 60 tx), (m8, aI g 2 nf)] (b01 (nmq tx n p sg < nmE tx n p sg)) [(m0, oB 9 [.ref m1, .ref m2, .ref m3, .ref m4, .int ps, .int rn, .ref m5, .int (nI n), .ref m6, .ref m7, .int la, .int mn, .int ma, .int sn, .int (nI (nmE tx n p sg)), .int ca, .int cm, .int kd, .ref m8]), (m5, aI g 60 tx), (m8, aI g 2 (upd nf kw (nmV tx n p sg)))] := by
  refine zWalk.met (Qc := fun A => zQi g (b01 (nmq tx n p sg < nmE tx n p sg)) [(m0, oB 9 [.ref m1, .ref m2, .ref m3, .ref m4, .int ps, .int rn, .ref m5, .int (nI n), .ref m6, .ref m7, .int la, .int mn, .int ma, .int sn, .int (nI (nmE tx n p sg)), .int ca, .int cm, .int kd, .ref m8]), (m5, aI g 60 tx), (m8, aI g 2 (upd nf kw (nmV tx n p sg)))] A) (cc := cX9_number) (maxL := 6) (ret := (some .boolean)) ?_ (by decide) rfl (Nat.le_of_ble_eq_true rfl)
  intro pg ev sx mi args below meth cd A H locs ls hx hb hr hml hown hts hlocks hA hE hK hP hD hS hl
  have iX9 : ∀ w ∈ u_ws RX9 TX9 19, w ∈ wsX9_number := (fun _ h => (List.mem_cons_of_mem _ (List.mem_append_right _ h)))
  have hl : lv_has ls 6 [(0, .ref m0), (1, .int w), (2, .int sg)] := hl
  refine lv_iload_n hx hb dX9_number_0 rfl (lv_at hl 2 rfl) ?_
  refine lv_if_eq (tgt := 17) hx hb dX9_number_1 (by decide) (fun c1 => ?_) (fun c1 => ?_)
  · refine lv_iconst (v := 0) hx hb dX9_number_17 (by decide +kernel) ?_
    refine lv_istore_n (lv' := [(3, .int 0), (0, .ref m0), (1, .int w), (2, .int sg)]) hx hb dX9_number_18 rfl hl (by decide) rfl (fun ls hl => ?_)
    obtain ⟨q, hq⟩ : ∃ q, q = p := ⟨_, rfl⟩
    have hQ : nmq tx n p sg = q := by rw [hq]; exact if_pos c1
    have hV : nmV tx n p sg = (dgt tx n q).1 := by rw [hq]; exact if_pos c1
    have hE2 : nmE tx n p sg = (dgt tx n q).2 := by rw [hq]; exact if_pos c1
    have eF : nI p = nI q := (by rw [hq])
    rw [eF] at hP hD
    have hP : va_P g.1 vwCl [(m0, oB 9 [.ref m1, .ref m2, .ref m3, .ref m4, .int ps, .int rn, .ref m5, .int (nI n), .ref m6, .ref m7, .int la, .int mn, .int ma, .int sn, .int (nI q), .int ca, .int cm, .int kd, .ref m8]), (m5, aI g 60 tx), (m8, aI g 2 nf)] H := hP
    have hD : va_D A [(m0, oB 9 [.ref m1, .ref m2, .ref m3, .ref m4, .int ps, .int rn, .ref m5, .int (nI n), .ref m6, .ref m7, .int la, .int mn, .int ma, .int sn, .int (nI q), .int ca, .int cm, .int kd, .ref m8]), (m5, aI g 60 tx), (m8, aI g 2 nf)] := hD
    have hq90 : q ≤ 90 := by omega
    refine lv_aload_n hx hb dX9_number_19 rfl (lv_at hl 1 rfl) ?_
    refine va_get (D := g.1) (ci := 9) (v := .int (nI q)) (C := RX9) (T := TX9) (N := 19) hx hb hts iX9 hown hK hP 0 rfl rfl 14 (by decide) (hts (.fieldLink RX9 129 "StepAxisModel" "spot" "I") (List.mem_of_getElem? (i := 1) rfl)) (fun _ h9 => h9) rfl dX9_number_20 ?_
    refine lv_istore (lv' := [(4, .int (nI q)), (3, .int 0), (0, .ref m0), (1, .int w), (2, .int sg)]) hx hb dX9_number_23 hl (by decide) rfl (fun ls hl => ?_)
    refine lv_iconst (v := 0) hx hb dX9_number_25 (by decide +kernel) ?_
    refine lv_istore (lv' := [(5, .int 0), (4, .int (nI q)), (3, .int 0), (0, .ref m0), (1, .int w), (2, .int sg)]) hx hb dX9_number_26 hl (by decide) rfl (fun ls hl => ?_)
    have lp28 : ∀ (fu : Nat) (k : Nat) (qq : Nat) (v : Int32), (k ≤ 4) → (qq = q + k) → (dgs tx n (4 - k) qq v = dgt tx n q) → (5 - k) < fu → ∀ (H : Heap) (locs : List Loc), va_P g.1 vwCl [(m0, oB 9 [.ref m1, .ref m2, .ref m3, .ref m4, .int ps, .int rn, .ref m5, .int (nI n), .ref m6, .ref m7, .int la, .int mn, .int ma, .int sn, .int (nI qq), .int ca, .int cm, .int kd, .ref m8]), (m5, aI g 60 tx), (m8, aI g 2 nf)] H → va_D A [(m0, oB 9 [.ref m1, .ref m2, .ref m3, .ref m4, .int ps, .int rn, .ref m5, .int (nI n), .ref m6, .ref m7, .int la, .int mn, .int ma, .int sn, .int (nI qq), .int ca, .int cm, .int kd, .ref m8]), (m5, aI g 60 tx), (m8, aI g 2 nf)] → va_S A sx.heap H locs → ∀ (ls : Array Slot), lv_has ls 6 [(5, .int v), (4, .int (nI q)), (3, .int 0), (0, .ref m0), (1, .int w), (2, .int sg)] → W pg l ev (rk 3 66) sx mi args below meth cd H locs 0 0 (MQ below (zQi g (b01 (nmq tx n p sg < nmE tx n p sg)) [(m0, oB 9 [.ref m1, .ref m2, .ref m3, .ref m4, .int ps, .int rn, .ref m5, .int (nI n), .ref m6, .ref m7, .int la, .int mn, .int ma, .int sn, .int (nI (nmE tx n p sg)), .int ca, .int cm, .int kd, .ref m8]), (m5, aI g 60 tx), (m8, aI g 2 (upd nf kw (nmV tx n p sg)))] A) args sx 0 0 A) (F0 mi 28 ls []) := by
      intro fu
      induction fu with
      | zero =>
        intro k qq v hk eq hd hmu
        exact absurd hmu (Nat.not_lt_zero _)
      | succ fu ih =>
        intro k qq v hk eq hd hmu H locs hP hD hS ls hl
        refine lv_aload_n hx hb dX9_number_28 rfl (lv_at hl 3 rfl) ?_
        refine lv_bipush (v := 48) hx hb dX9_number_29 (by decide +kernel) ?_
        refine lv_bipush (v := 57) hx hb dX9_number_31 (by decide +kernel) ?_
        refine zVI (As := [.int 48, .int 57]) (rest := []) (wc := [(m0, oB 9 [.ref m1, .ref m2, .ref m3, .ref m4, .int ps, .int rn, .ref m5, .int (nI n), .ref m6, .ref m7, .int la, .int mn, .int ma, .int sn, .int (nI qq), .int ca, .int cm, .int kd, .ref m8]), (m5, aI g 60 tx)]) (wr := [(m8, aI g 2 nf)]) (wc' := [(m0, oB 9 [.ref m1, .ref m2, .ref m3, .ref m4, .int ps, .int rn, .ref m5, .int (nI n), .ref m6, .ref m7, .int la, .int mn, .int ma, .int sn, .int (nI qq), .int ca, .int cm, .int kd, .ref m8]), (m5, aI g 60 tx)]) ⟨hx, hb, hml, hown, hts⟩ (r_isAt l g m0 m1 m2 m3 m4 m5 m6 m7 m8 ps rn la mn ma sn ca cm kd n qq tx 48 57 hn (by omega)) (cwV 2 hts gX9_number_X9_isAt rfl rfl rfl (by decide +kernel) ⟨Nat.le_of_ble_eq_true rfl, Nat.le_of_ble_eq_true rfl⟩) hE hK hP hD hS hA 0 9 rfl rfl rfl [0, 1] [2] rfl rfl rfl rfl (by decide) rfl hl.1 rfl (lv_room (Nat.le_of_ble_eq_true rfl)) ⟨Nat.zero_le _, Nat.zero_le _⟩ dX9_number_33 (fun H locs hP hD hS => ?_)
        have hP : va_P g.1 vwCl [(m8, aI g 2 nf), (m0, oB 9 [.ref m1, .ref m2, .ref m3, .ref m4, .int ps, .int rn, .ref m5, .int (nI n), .ref m6, .ref m7, .int la, .int mn, .int ma, .int sn, .int (nI qq), .int ca, .int cm, .int kd, .ref m8]), (m5, aI g 60 tx)] H := hP
        have hD : va_D A [(m8, aI g 2 nf), (m0, oB 9 [.ref m1, .ref m2, .ref m3, .ref m4, .int ps, .int rn, .ref m5, .int (nI n), .ref m6, .ref m7, .int la, .int mn, .int ma, .int sn, .int (nI qq), .int ca, .int cm, .int kd, .ref m8]), (m5, aI g 60 tx)] := hD
        refine zTop (y := b01 (dgP tx n qq)) rfl ?_
        refine lv_if_eq (tgt := 83) hx hb dX9_number_36 (by decide) (fun c36 => ?_) (fun c36 => ?_)
        · have c36 := b01_f c36
          have hd2 : (v, qq) = dgt tx n q := by rw [← hd, dgs_0 c36]
          refine lv_aload_n hx hb dX9_number_83 rfl (lv_at hl 3 rfl) ?_
          refine va_get (D := g.1) (ci := 9) (v := .ref m8) (C := RX9) (T := TX9) (N := 19) hx hb hts iX9 hown hK hP 1 rfl rfl 18 (by decide) (hts (.fieldLink RX9 31 "StepAxisModel" "told" "[I") (List.mem_of_getElem? (i := 3) rfl)) (fun _ h9 => h9) rfl dX9_number_84 ?_
          refine lv_iload_n hx hb dX9_number_87 rfl (lv_at hl 4 rfl) ?_
          refine lv_iload_n hx hb dX9_number_88 rfl (lv_at hl 2 rfl) ?_
          refine lv_if_eq (tgt := 98) hx hb dX9_number_89 (by decide) (fun c89 => ?_) (fun c89 => ?_)
          · refine lv_iload hx hb dX9_number_98 (lv_at hl 0 rfl) ?_
            refine zast (k := kw) hx hb hK hP hD hS 0 0 rfl rfl (IX.of ew hkw (by decide)) dX9_number_100 (fun H locs hP hD hS => ?_)
            have hP : va_P g.1 vwCl [(m8, aI g 2 (upd nf kw v)), (m0, oB 9 [.ref m1, .ref m2, .ref m3, .ref m4, .int ps, .int rn, .ref m5, .int (nI n), .ref m6, .ref m7, .int la, .int mn, .int ma, .int sn, .int (nI qq), .int ca, .int cm, .int kd, .ref m8]), (m5, aI g 60 tx)] H := hP
            have hD : va_D A [(m8, aI g 2 (upd nf kw v)), (m0, oB 9 [.ref m1, .ref m2, .ref m3, .ref m4, .int ps, .int rn, .ref m5, .int (nI n), .ref m6, .ref m7, .int la, .int mn, .int ma, .int sn, .int (nI qq), .int ca, .int cm, .int kd, .ref m8]), (m5, aI g 60 tx)] := hD
            refine lv_aload_n hx hb dX9_number_101 rfl (lv_at hl 3 rfl) ?_
            refine va_get (D := g.1) (ci := 9) (v := .int (nI qq)) (C := RX9) (T := TX9) (N := 19) hx hb hts iX9 hown hK hP 1 rfl rfl 14 (by decide) (hts (.fieldLink RX9 129 "StepAxisModel" "spot" "I") (List.mem_of_getElem? (i := 1) rfl)) (fun _ h9 => h9) rfl dX9_number_102 ?_
            refine lv_iload hx hb dX9_number_105 (lv_at hl 1 rfl) ?_
            refine lv_icmp_le (tgt := 114) hx hb dX9_number_107 (by decide) (fun c107 => ?_) (fun c107 => ?_)
            · refine lv_iconst (v := 0) hx hb dX9_number_114 (by decide +kernel) ?_
              exact zEi (v := 0) (ws' := [(m0, oB 9 [.ref m1, .ref m2, .ref m3, .ref m4, .int ps, .int rn, .ref m5, .int (nI n), .ref m6, .ref m7, .int la, .int mn, .int ma, .int sn, .int (nI qq), .int ca, .int cm, .int kd, .ref m8]), (m5, aI g 60 tx), (m8, aI g 2 (upd nf kw v))]) hx hb hlocks hr rfl hK hP hD hS [1, 2, 0] rfl rfl (by rw [hQ, hE2, ← hd2]; exact (b01_0 (by show ¬ q < qq; have := nle_of (n := qq) (k := q) (by omega) (by omega) c107; omega)).symm) (by rw [hE2, hV, ← hd2]) dX9_number_115
            · refine lv_iconst (v := 1) hx hb dX9_number_110 (by decide +kernel) ?_
              refine lv_goto (tgt := 115) hx hb dX9_number_111 (by decide) ?_
              exact zEi (v := 1) (ws' := [(m0, oB 9 [.ref m1, .ref m2, .ref m3, .ref m4, .int ps, .int rn, .ref m5, .int (nI n), .ref m6, .ref m7, .int la, .int mn, .int ma, .int sn, .int (nI qq), .int ca, .int cm, .int kd, .ref m8]), (m5, aI g 60 tx), (m8, aI g 2 (upd nf kw v))]) hx hb hlocks hr rfl hK hP hD hS [1, 2, 0] rfl rfl (by rw [hQ, hE2, ← hd2]; exact (b01_1 (by show q < qq; have := nlt_of (n := qq) (k := q) (by omega) c107; exact this)).symm) (by rw [hE2, hV, ← hd2]) dX9_number_115
          · exact absurd c89 (by decide)
        · have c36 := b01_t c36
          refine lv_aload_n hx hb dX9_number_39 rfl (lv_at hl 3 rfl) ?_
          refine va_get (D := g.1) (ci := 9) (v := .int (nI qq)) (C := RX9) (T := TX9) (N := 19) hx hb hts iX9 hown hK hP 1 rfl rfl 14 (by decide) (hts (.fieldLink RX9 129 "StepAxisModel" "spot" "I") (List.mem_of_getElem? (i := 1) rfl)) (fun _ h9 => h9) rfl dX9_number_40 ?_
          refine lv_iload hx hb dX9_number_43 (lv_at hl 1 rfl) ?_
          refine lv_isub hx hb dX9_number_45 ?_
          refine zTop (y := nI k) (by rw [eq, pk_sub (by omega)]; exact congrArg nI (by omega)) ?_
          refine lv_iconst (v := 4) hx hb dX9_number_46 (by decide +kernel) ?_
          refine lv_icmp_ge (tgt := 83) hx hb dX9_number_47 (by decide) (fun c47 => ?_) (fun c47 => ?_)
          · have hkn : k = 4 := Nat.le_antisymm hk (nle_of (n := 4) (by decide) (by omega) c47)
            have hd2 : (v, qq) = dgt tx n q := by rw [← hd, hkn]; rfl
            refine lv_aload_n hx hb dX9_number_83 rfl (lv_at hl 3 rfl) ?_
            refine va_get (D := g.1) (ci := 9) (v := .ref m8) (C := RX9) (T := TX9) (N := 19) hx hb hts iX9 hown hK hP 1 rfl rfl 18 (by decide) (hts (.fieldLink RX9 31 "StepAxisModel" "told" "[I") (List.mem_of_getElem? (i := 3) rfl)) (fun _ h9 => h9) rfl dX9_number_84 ?_
            refine lv_iload_n hx hb dX9_number_87 rfl (lv_at hl 4 rfl) ?_
            refine lv_iload_n hx hb dX9_number_88 rfl (lv_at hl 2 rfl) ?_
            refine lv_if_eq (tgt := 98) hx hb dX9_number_89 (by decide) (fun c89 => ?_) (fun c89 => ?_)
            · refine lv_iload hx hb dX9_number_98 (lv_at hl 0 rfl) ?_
              refine zast (k := kw) hx hb hK hP hD hS 0 0 rfl rfl (IX.of ew hkw (by decide)) dX9_number_100 (fun H locs hP hD hS => ?_)
              have hP : va_P g.1 vwCl [(m8, aI g 2 (upd nf kw v)), (m0, oB 9 [.ref m1, .ref m2, .ref m3, .ref m4, .int ps, .int rn, .ref m5, .int (nI n), .ref m6, .ref m7, .int la, .int mn, .int ma, .int sn, .int (nI qq), .int ca, .int cm, .int kd, .ref m8]), (m5, aI g 60 tx)] H := hP
              have hD : va_D A [(m8, aI g 2 (upd nf kw v)), (m0, oB 9 [.ref m1, .ref m2, .ref m3, .ref m4, .int ps, .int rn, .ref m5, .int (nI n), .ref m6, .ref m7, .int la, .int mn, .int ma, .int sn, .int (nI qq), .int ca, .int cm, .int kd, .ref m8]), (m5, aI g 60 tx)] := hD
              refine lv_aload_n hx hb dX9_number_101 rfl (lv_at hl 3 rfl) ?_
              refine va_get (D := g.1) (ci := 9) (v := .int (nI qq)) (C := RX9) (T := TX9) (N := 19) hx hb hts iX9 hown hK hP 1 rfl rfl 14 (by decide) (hts (.fieldLink RX9 129 "StepAxisModel" "spot" "I") (List.mem_of_getElem? (i := 1) rfl)) (fun _ h9 => h9) rfl dX9_number_102 ?_
              refine lv_iload hx hb dX9_number_105 (lv_at hl 1 rfl) ?_
              refine lv_icmp_le (tgt := 114) hx hb dX9_number_107 (by decide) (fun c107 => ?_) (fun c107 => ?_)
              · refine lv_iconst (v := 0) hx hb dX9_number_114 (by decide +kernel) ?_
                exact zEi (v := 0) (ws' := [(m0, oB 9 [.ref m1, .ref m2, .ref m3, .ref m4, .int ps, .int rn, .ref m5, .int (nI n), .ref m6, .ref m7, .int la, .int mn, .int ma, .int sn, .int (nI qq), .int ca, .int cm, .int kd, .ref m8]), (m5, aI g 60 tx), (m8, aI g 2 (upd nf kw v))]) hx hb hlocks hr rfl hK hP hD hS [1, 2, 0] rfl rfl (by rw [hQ, hE2, ← hd2]; exact (b01_0 (by show ¬ q < qq; have := nle_of (n := qq) (k := q) (by omega) (by omega) c107; omega)).symm) (by rw [hE2, hV, ← hd2]) dX9_number_115
              · refine lv_iconst (v := 1) hx hb dX9_number_110 (by decide +kernel) ?_
                refine lv_goto (tgt := 115) hx hb dX9_number_111 (by decide) ?_
                exact zEi (v := 1) (ws' := [(m0, oB 9 [.ref m1, .ref m2, .ref m3, .ref m4, .int ps, .int rn, .ref m5, .int (nI n), .ref m6, .ref m7, .int la, .int mn, .int ma, .int sn, .int (nI qq), .int ca, .int cm, .int kd, .ref m8]), (m5, aI g 60 tx), (m8, aI g 2 (upd nf kw v))]) hx hb hlocks hr rfl hK hP hD hS [1, 2, 0] rfl rfl (by rw [hQ, hE2, ← hd2]; exact (b01_1 (by show q < qq; have := nlt_of (n := qq) (k := q) (by omega) c107; exact this)).symm) (by rw [hE2, hV, ← hd2]) dX9_number_115
            · exact absurd c89 (by decide)
          · have hlt : k + 1 ≤ 4 := nlt_of (n := 4) (by decide) c47
            refine lv_bipush (v := 10) hx hb dX9_number_50 (by decide +kernel) ?_
            refine lv_iload hx hb dX9_number_52 (lv_at hl 0 rfl) ?_
            refine lv_imul hx hb dX9_number_54 ?_
            refine lv_aload_n hx hb dX9_number_55 rfl (lv_at hl 3 rfl) ?_
            refine va_get (D := g.1) (ci := 9) (v := .ref m5) (C := RX9) (T := TX9) (N := 19) hx hb hts iX9 hown hK hP 1 rfl rfl 6 (by decide) (hts (.fieldLink RX9 22 "StepAxisModel" "text" "[I") (List.mem_of_getElem? (i := 2) rfl)) (fun _ h9 => h9) rfl dX9_number_56 ?_
            refine lv_aload_n hx hb dX9_number_59 rfl (lv_at hl 3 rfl) ?_
            refine va_get (D := g.1) (ci := 9) (v := .int (nI qq)) (C := RX9) (T := TX9) (N := 19) hx hb hts iX9 hown hK hP 1 rfl rfl 14 (by decide) (hts (.fieldLink RX9 129 "StepAxisModel" "spot" "I") (List.mem_of_getElem? (i := 1) rfl)) (fun _ h9 => h9) rfl dX9_number_60 ?_
            refine zald (k := qq) hx hb hK hP 2 0 rfl rfl (IX.of rfl (by have := c36.1; omega) (by decide)) dX9_number_63 ?_
            refine lv_iadd hx hb dX9_number_64 ?_
            refine lv_bipush (v := 48) hx hb dX9_number_65 (by decide +kernel) ?_
            refine lv_isub hx hb dX9_number_67 ?_
            refine zTop (y := 10 * v + (tx qq - 48)) (add_sub3 _ _ _) ?_
            refine lv_istore (lv' := [(5, .int (10 * v + (tx qq - 48))), (4, .int (nI q)), (3, .int 0), (0, .ref m0), (1, .int w), (2, .int sg)]) hx hb dX9_number_68 hl (by decide) rfl (fun ls hl => ?_)
            refine lv_aload_n hx hb dX9_number_70 rfl (lv_at hl 3 rfl) ?_
            refine lv_dup hx hb dX9_number_71 rfl ?_
            refine va_get (D := g.1) (ci := 9) (v := .int (nI qq)) (C := RX9) (T := TX9) (N := 19) hx hb hts iX9 hown hK hP 1 rfl rfl 14 (by decide) (hts (.fieldLink RX9 129 "StepAxisModel" "spot" "I") (List.mem_of_getElem? (i := 1) rfl)) (fun _ h9 => h9) rfl dX9_number_72 ?_
            refine lv_iconst (v := 1) hx hb dX9_number_75 (by decide +kernel) ?_
            refine lv_iadd hx hb dX9_number_76 ?_
            refine va_put (D := g.1) (ci := 9) (v := .int ((nI qq) + 1)) (ty := .int) (C := RX9) (T := TX9) (N := 19) hx hb hts iX9 tyX9 tyX9_ok nmX9 hown hK hP hD hS 1 rfl rfl 14 (by decide) (hts (.fieldLink RX9 129 "StepAxisModel" "spot" "I") (List.mem_of_getElem? (i := 1) rfl)) (fun _ h9 => h9) rfl (by decide +kernel) rfl rfl (Nat.le_of_ble_eq_true rfl) dX9_number_77 (fun H locs hP hD hS => ?_)
            have hP : va_P g.1 vwCl [(m8, aI g 2 nf), (m0, oB 9 [.ref m1, .ref m2, .ref m3, .ref m4, .int ps, .int rn, .ref m5, .int (nI n), .ref m6, .ref m7, .int la, .int mn, .int ma, .int sn, .int ((nI qq) + 1), .int ca, .int cm, .int kd, .ref m8]), (m5, aI g 60 tx)] H := hP
            have hD : va_D A [(m8, aI g 2 nf), (m0, oB 9 [.ref m1, .ref m2, .ref m3, .ref m4, .int ps, .int rn, .ref m5, .int (nI n), .ref m6, .ref m7, .int la, .int mn, .int ma, .int sn, .int ((nI qq) + 1), .int ca, .int cm, .int kd, .ref m8]), (m5, aI g 60 tx)] := hD
            have eF : (nI qq) + 1 = nI (qq + 1) := (nI_1 qq)
            rw [eF] at hP hD
            have hP : va_P g.1 vwCl [(m8, aI g 2 nf), (m0, oB 9 [.ref m1, .ref m2, .ref m3, .ref m4, .int ps, .int rn, .ref m5, .int (nI n), .ref m6, .ref m7, .int la, .int mn, .int ma, .int sn, .int (nI (qq + 1)), .int ca, .int cm, .int kd, .ref m8]), (m5, aI g 60 tx)] H := hP
            have hD : va_D A [(m8, aI g 2 nf), (m0, oB 9 [.ref m1, .ref m2, .ref m3, .ref m4, .int ps, .int rn, .ref m5, .int (nI n), .ref m6, .ref m7, .int la, .int mn, .int ma, .int sn, .int (nI (qq + 1)), .int ca, .int cm, .int kd, .ref m8]), (m5, aI g 60 tx)] := hD
            refine lv_goto (tgt := 28) hx hb dX9_number_80 (by decide) ?_
            exact ih (k + 1) (qq + 1) (10 * v + (tx qq - 48)) hlt (by omega) (by rw [← hd, show 4 - k = (4 - (k + 1)) + 1 by omega, dgs_1 c36]) (by omega) _ _ (zP_sub hP [1, 2, 0] rfl) (hD.sub [1, 2, 0] rfl rfl) hS ls (lv_sub hl [0, 1, 2, 3, 4, 5] rfl)
    exact lp28 ((5 - 0) + 1) 0 q 0 (by decide) rfl rfl (Nat.lt_succ_self _) _ _ (zP_sub hP [0, 1, 2] rfl) (hD.sub [0, 1, 2] rfl rfl) hS ls (lv_sub hl [0, 1, 2, 3, 4, 5] rfl)
  · refine lv_aload_n hx hb dX9_number_4 rfl (lv_at hl 0 rfl) ?_
    refine lv_bipush (v := 45) hx hb dX9_number_5 (by decide +kernel) ?_
    refine zVI (As := [.int 45]) (rest := []) (wc := [(m0, oB 9 [.ref m1, .ref m2, .ref m3, .ref m4, .int ps, .int rn, .ref m5, .int (nI n), .ref m6, .ref m7, .int la, .int mn, .int ma, .int sn, .int (nI p), .int ca, .int cm, .int kd, .ref m8]), (m5, aI g 60 tx)]) (wr := [(m8, aI g 2 nf)]) (wc' := [(m0, oB 9 [.ref m1, .ref m2, .ref m3, .ref m4, .int ps, .int rn, .ref m5, .int (nI n), .ref m6, .ref m7, .int la, .int mn, .int ma, .int sn, .int (nI (skN tx n p 45)), .int ca, .int cm, .int kd, .ref m8]), (m5, aI g 60 tx)]) ⟨hx, hb, hml, hown, hts⟩ (r_passes l g m0 m1 m2 m3 m4 m5 m6 m7 m8 ps rn la mn ma sn ca cm kd n p tx 45 hn (by omega)) (cwV 1 hts gX9_number_X9_passes rfl rfl rfl (by decide +kernel) ⟨Nat.le_of_ble_eq_true rfl, Nat.le_of_ble_eq_true rfl⟩) hE hK hP hD hS hA 0 9 rfl rfl rfl [0, 1] [2] rfl rfl rfl rfl (by decide) rfl hl.1 rfl (lv_room (Nat.le_of_ble_eq_true rfl)) ⟨Nat.zero_le _, Nat.zero_le _⟩ dX9_number_7 (fun H locs hP hD hS => ?_)
    have hP : va_P g.1 vwCl [(m8, aI g 2 nf), (m0, oB 9 [.ref m1, .ref m2, .ref m3, .ref m4, .int ps, .int rn, .ref m5, .int (nI n), .ref m6, .ref m7, .int la, .int mn, .int ma, .int sn, .int (nI (skN tx n p 45)), .int ca, .int cm, .int kd, .ref m8]), (m5, aI g 60 tx)] H := hP
    have hD : va_D A [(m8, aI g 2 nf), (m0, oB 9 [.ref m1, .ref m2, .ref m3, .ref m4, .int ps, .int rn, .ref m5, .int (nI n), .ref m6, .ref m7, .int la, .int mn, .int ma, .int sn, .int (nI (skN tx n p 45)), .int ca, .int cm, .int kd, .ref m8]), (m5, aI g 60 tx)] := hD
    refine lv_if_eq (tgt := 17) hx hb dX9_number_10 (by decide) (fun c10 => ?_) (fun c10 => ?_)
    · have c10 := b01_f c10
      refine lv_iconst (v := 0) hx hb dX9_number_17 (by decide +kernel) ?_
      refine lv_istore_n (lv' := [(3, .int 0), (0, .ref m0), (1, .int w), (2, .int sg)]) hx hb dX9_number_18 rfl hl (by decide) rfl (fun ls hl => ?_)
      obtain ⟨q, hq⟩ : ∃ q, q = p := ⟨_, rfl⟩
      obtain ⟨g1, g2, g3⟩ := sgt_neg c10
      have hQ : nmq tx n p sg = q := by rw [hq]; exact (if_neg c1).trans g1
      have hV : nmV tx n p sg = (dgt tx n q).1 := by rw [hq]; exact (if_neg c1).trans g2
      have hE2 : nmE tx n p sg = (dgt tx n q).2 := by rw [hq]; exact (if_neg c1).trans g3
      have eF : nI (skN tx n p 45) = nI q := (by rw [hq]; exact congrArg nI (if_neg c10))
      rw [eF] at hP hD
      have hP : va_P g.1 vwCl [(m8, aI g 2 nf), (m0, oB 9 [.ref m1, .ref m2, .ref m3, .ref m4, .int ps, .int rn, .ref m5, .int (nI n), .ref m6, .ref m7, .int la, .int mn, .int ma, .int sn, .int (nI q), .int ca, .int cm, .int kd, .ref m8]), (m5, aI g 60 tx)] H := hP
      have hD : va_D A [(m8, aI g 2 nf), (m0, oB 9 [.ref m1, .ref m2, .ref m3, .ref m4, .int ps, .int rn, .ref m5, .int (nI n), .ref m6, .ref m7, .int la, .int mn, .int ma, .int sn, .int (nI q), .int ca, .int cm, .int kd, .ref m8]), (m5, aI g 60 tx)] := hD
      have hq90 : q ≤ 90 := by omega
      refine lv_aload_n hx hb dX9_number_19 rfl (lv_at hl 1 rfl) ?_
      refine va_get (D := g.1) (ci := 9) (v := .int (nI q)) (C := RX9) (T := TX9) (N := 19) hx hb hts iX9 hown hK hP 1 rfl rfl 14 (by decide) (hts (.fieldLink RX9 129 "StepAxisModel" "spot" "I") (List.mem_of_getElem? (i := 1) rfl)) (fun _ h9 => h9) rfl dX9_number_20 ?_
      refine lv_istore (lv' := [(4, .int (nI q)), (3, .int 0), (0, .ref m0), (1, .int w), (2, .int sg)]) hx hb dX9_number_23 hl (by decide) rfl (fun ls hl => ?_)
      refine lv_iconst (v := 0) hx hb dX9_number_25 (by decide +kernel) ?_
      refine lv_istore (lv' := [(5, .int 0), (4, .int (nI q)), (3, .int 0), (0, .ref m0), (1, .int w), (2, .int sg)]) hx hb dX9_number_26 hl (by decide) rfl (fun ls hl => ?_)
      have lp28 : ∀ (fu : Nat) (k : Nat) (qq : Nat) (v : Int32), (k ≤ 4) → (qq = q + k) → (dgs tx n (4 - k) qq v = dgt tx n q) → (5 - k) < fu → ∀ (H : Heap) (locs : List Loc), va_P g.1 vwCl [(m0, oB 9 [.ref m1, .ref m2, .ref m3, .ref m4, .int ps, .int rn, .ref m5, .int (nI n), .ref m6, .ref m7, .int la, .int mn, .int ma, .int sn, .int (nI qq), .int ca, .int cm, .int kd, .ref m8]), (m5, aI g 60 tx), (m8, aI g 2 nf)] H → va_D A [(m0, oB 9 [.ref m1, .ref m2, .ref m3, .ref m4, .int ps, .int rn, .ref m5, .int (nI n), .ref m6, .ref m7, .int la, .int mn, .int ma, .int sn, .int (nI qq), .int ca, .int cm, .int kd, .ref m8]), (m5, aI g 60 tx), (m8, aI g 2 nf)] → va_S A sx.heap H locs → ∀ (ls : Array Slot), lv_has ls 6 [(5, .int v), (4, .int (nI q)), (3, .int 0), (0, .ref m0), (1, .int w), (2, .int sg)] → W pg l ev (rk 3 66) sx mi args below meth cd H locs 0 0 (MQ below (zQi g (b01 (nmq tx n p sg < nmE tx n p sg)) [(m0, oB 9 [.ref m1, .ref m2, .ref m3, .ref m4, .int ps, .int rn, .ref m5, .int (nI n), .ref m6, .ref m7, .int la, .int mn, .int ma, .int sn, .int (nI (nmE tx n p sg)), .int ca, .int cm, .int kd, .ref m8]), (m5, aI g 60 tx), (m8, aI g 2 (upd nf kw (nmV tx n p sg)))] A) args sx 0 0 A) (F0 mi 28 ls []) := by
        intro fu
        induction fu with
        | zero =>
          intro k qq v hk eq hd hmu
          exact absurd hmu (Nat.not_lt_zero _)
        | succ fu ih =>
          intro k qq v hk eq hd hmu H locs hP hD hS ls hl
          refine lv_aload_n hx hb dX9_number_28 rfl (lv_at hl 3 rfl) ?_
          refine lv_bipush (v := 48) hx hb dX9_number_29 (by decide +kernel) ?_
          refine lv_bipush (v := 57) hx hb dX9_number_31 (by decide +kernel) ?_
          refine zVI (As := [.int 48, .int 57]) (rest := []) (wc := [(m0, oB 9 [.ref m1, .ref m2, .ref m3, .ref m4, .int ps, .int rn, .ref m5, .int (nI n), .ref m6, .ref m7, .int la, .int mn, .int ma, .int sn, .int (nI qq), .int ca, .int cm, .int kd, .ref m8]), (m5, aI g 60 tx)]) (wr := [(m8, aI g 2 nf)]) (wc' := [(m0, oB 9 [.ref m1, .ref m2, .ref m3, .ref m4, .int ps, .int rn, .ref m5, .int (nI n), .ref m6, .ref m7, .int la, .int mn, .int ma, .int sn, .int (nI qq), .int ca, .int cm, .int kd, .ref m8]), (m5, aI g 60 tx)]) ⟨hx, hb, hml, hown, hts⟩ (r_isAt l g m0 m1 m2 m3 m4 m5 m6 m7 m8 ps rn la mn ma sn ca cm kd n qq tx 48 57 hn (by omega)) (cwV 2 hts gX9_number_X9_isAt rfl rfl rfl (by decide +kernel) ⟨Nat.le_of_ble_eq_true rfl, Nat.le_of_ble_eq_true rfl⟩) hE hK hP hD hS hA 0 9 rfl rfl rfl [0, 1] [2] rfl rfl rfl rfl (by decide) rfl hl.1 rfl (lv_room (Nat.le_of_ble_eq_true rfl)) ⟨Nat.zero_le _, Nat.zero_le _⟩ dX9_number_33 (fun H locs hP hD hS => ?_)
          have hP : va_P g.1 vwCl [(m8, aI g 2 nf), (m0, oB 9 [.ref m1, .ref m2, .ref m3, .ref m4, .int ps, .int rn, .ref m5, .int (nI n), .ref m6, .ref m7, .int la, .int mn, .int ma, .int sn, .int (nI qq), .int ca, .int cm, .int kd, .ref m8]), (m5, aI g 60 tx)] H := hP
          have hD : va_D A [(m8, aI g 2 nf), (m0, oB 9 [.ref m1, .ref m2, .ref m3, .ref m4, .int ps, .int rn, .ref m5, .int (nI n), .ref m6, .ref m7, .int la, .int mn, .int ma, .int sn, .int (nI qq), .int ca, .int cm, .int kd, .ref m8]), (m5, aI g 60 tx)] := hD
          refine zTop (y := b01 (dgP tx n qq)) rfl ?_
          refine lv_if_eq (tgt := 83) hx hb dX9_number_36 (by decide) (fun c36 => ?_) (fun c36 => ?_)
          · have c36 := b01_f c36
            have hd2 : (v, qq) = dgt tx n q := by rw [← hd, dgs_0 c36]
            refine lv_aload_n hx hb dX9_number_83 rfl (lv_at hl 3 rfl) ?_
            refine va_get (D := g.1) (ci := 9) (v := .ref m8) (C := RX9) (T := TX9) (N := 19) hx hb hts iX9 hown hK hP 1 rfl rfl 18 (by decide) (hts (.fieldLink RX9 31 "StepAxisModel" "told" "[I") (List.mem_of_getElem? (i := 3) rfl)) (fun _ h9 => h9) rfl dX9_number_84 ?_
            refine lv_iload_n hx hb dX9_number_87 rfl (lv_at hl 4 rfl) ?_
            refine lv_iload_n hx hb dX9_number_88 rfl (lv_at hl 2 rfl) ?_
            refine lv_if_eq (tgt := 98) hx hb dX9_number_89 (by decide) (fun c89 => ?_) (fun c89 => ?_)
            · refine lv_iload hx hb dX9_number_98 (lv_at hl 0 rfl) ?_
              refine zast (k := kw) hx hb hK hP hD hS 0 0 rfl rfl (IX.of ew hkw (by decide)) dX9_number_100 (fun H locs hP hD hS => ?_)
              have hP : va_P g.1 vwCl [(m8, aI g 2 (upd nf kw v)), (m0, oB 9 [.ref m1, .ref m2, .ref m3, .ref m4, .int ps, .int rn, .ref m5, .int (nI n), .ref m6, .ref m7, .int la, .int mn, .int ma, .int sn, .int (nI qq), .int ca, .int cm, .int kd, .ref m8]), (m5, aI g 60 tx)] H := hP
              have hD : va_D A [(m8, aI g 2 (upd nf kw v)), (m0, oB 9 [.ref m1, .ref m2, .ref m3, .ref m4, .int ps, .int rn, .ref m5, .int (nI n), .ref m6, .ref m7, .int la, .int mn, .int ma, .int sn, .int (nI qq), .int ca, .int cm, .int kd, .ref m8]), (m5, aI g 60 tx)] := hD
              refine lv_aload_n hx hb dX9_number_101 rfl (lv_at hl 3 rfl) ?_
              refine va_get (D := g.1) (ci := 9) (v := .int (nI qq)) (C := RX9) (T := TX9) (N := 19) hx hb hts iX9 hown hK hP 1 rfl rfl 14 (by decide) (hts (.fieldLink RX9 129 "StepAxisModel" "spot" "I") (List.mem_of_getElem? (i := 1) rfl)) (fun _ h9 => h9) rfl dX9_number_102 ?_
              refine lv_iload hx hb dX9_number_105 (lv_at hl 1 rfl) ?_
              refine lv_icmp_le (tgt := 114) hx hb dX9_number_107 (by decide) (fun c107 => ?_) (fun c107 => ?_)
              · refine lv_iconst (v := 0) hx hb dX9_number_114 (by decide +kernel) ?_
                exact zEi (v := 0) (ws' := [(m0, oB 9 [.ref m1, .ref m2, .ref m3, .ref m4, .int ps, .int rn, .ref m5, .int (nI n), .ref m6, .ref m7, .int la, .int mn, .int ma, .int sn, .int (nI qq), .int ca, .int cm, .int kd, .ref m8]), (m5, aI g 60 tx), (m8, aI g 2 (upd nf kw v))]) hx hb hlocks hr rfl hK hP hD hS [1, 2, 0] rfl rfl (by rw [hQ, hE2, ← hd2]; exact (b01_0 (by show ¬ q < qq; have := nle_of (n := qq) (k := q) (by omega) (by omega) c107; omega)).symm) (by rw [hE2, hV, ← hd2]) dX9_number_115
              · refine lv_iconst (v := 1) hx hb dX9_number_110 (by decide +kernel) ?_
                refine lv_goto (tgt := 115) hx hb dX9_number_111 (by decide) ?_
                exact zEi (v := 1) (ws' := [(m0, oB 9 [.ref m1, .ref m2, .ref m3, .ref m4, .int ps, .int rn, .ref m5, .int (nI n), .ref m6, .ref m7, .int la, .int mn, .int ma, .int sn, .int (nI qq), .int ca, .int cm, .int kd, .ref m8]), (m5, aI g 60 tx), (m8, aI g 2 (upd nf kw v))]) hx hb hlocks hr rfl hK hP hD hS [1, 2, 0] rfl rfl (by rw [hQ, hE2, ← hd2]; exact (b01_1 (by show q < qq; have := nlt_of (n := qq) (k := q) (by omega) c107; exact this)).symm) (by rw [hE2, hV, ← hd2]) dX9_number_115
            · exact absurd c89 (by decide)
          · have c36 := b01_t c36
            refine lv_aload_n hx hb dX9_number_39 rfl (lv_at hl 3 rfl) ?_
            refine va_get (D := g.1) (ci := 9) (v := .int (nI qq)) (C := RX9) (T := TX9) (N := 19) hx hb hts iX9 hown hK hP 1 rfl rfl 14 (by decide) (hts (.fieldLink RX9 129 "StepAxisModel" "spot" "I") (List.mem_of_getElem? (i := 1) rfl)) (fun _ h9 => h9) rfl dX9_number_40 ?_
            refine lv_iload hx hb dX9_number_43 (lv_at hl 1 rfl) ?_
            refine lv_isub hx hb dX9_number_45 ?_
            refine zTop (y := nI k) (by rw [eq, pk_sub (by omega)]; exact congrArg nI (by omega)) ?_
            refine lv_iconst (v := 4) hx hb dX9_number_46 (by decide +kernel) ?_
            refine lv_icmp_ge (tgt := 83) hx hb dX9_number_47 (by decide) (fun c47 => ?_) (fun c47 => ?_)
            · have hkn : k = 4 := Nat.le_antisymm hk (nle_of (n := 4) (by decide) (by omega) c47)
              have hd2 : (v, qq) = dgt tx n q := by rw [← hd, hkn]; rfl
              refine lv_aload_n hx hb dX9_number_83 rfl (lv_at hl 3 rfl) ?_
              refine va_get (D := g.1) (ci := 9) (v := .ref m8) (C := RX9) (T := TX9) (N := 19) hx hb hts iX9 hown hK hP 1 rfl rfl 18 (by decide) (hts (.fieldLink RX9 31 "StepAxisModel" "told" "[I") (List.mem_of_getElem? (i := 3) rfl)) (fun _ h9 => h9) rfl dX9_number_84 ?_
              refine lv_iload_n hx hb dX9_number_87 rfl (lv_at hl 4 rfl) ?_
              refine lv_iload_n hx hb dX9_number_88 rfl (lv_at hl 2 rfl) ?_
              refine lv_if_eq (tgt := 98) hx hb dX9_number_89 (by decide) (fun c89 => ?_) (fun c89 => ?_)
              · refine lv_iload hx hb dX9_number_98 (lv_at hl 0 rfl) ?_
                refine zast (k := kw) hx hb hK hP hD hS 0 0 rfl rfl (IX.of ew hkw (by decide)) dX9_number_100 (fun H locs hP hD hS => ?_)
                have hP : va_P g.1 vwCl [(m8, aI g 2 (upd nf kw v)), (m0, oB 9 [.ref m1, .ref m2, .ref m3, .ref m4, .int ps, .int rn, .ref m5, .int (nI n), .ref m6, .ref m7, .int la, .int mn, .int ma, .int sn, .int (nI qq), .int ca, .int cm, .int kd, .ref m8]), (m5, aI g 60 tx)] H := hP
                have hD : va_D A [(m8, aI g 2 (upd nf kw v)), (m0, oB 9 [.ref m1, .ref m2, .ref m3, .ref m4, .int ps, .int rn, .ref m5, .int (nI n), .ref m6, .ref m7, .int la, .int mn, .int ma, .int sn, .int (nI qq), .int ca, .int cm, .int kd, .ref m8]), (m5, aI g 60 tx)] := hD
                refine lv_aload_n hx hb dX9_number_101 rfl (lv_at hl 3 rfl) ?_
                refine va_get (D := g.1) (ci := 9) (v := .int (nI qq)) (C := RX9) (T := TX9) (N := 19) hx hb hts iX9 hown hK hP 1 rfl rfl 14 (by decide) (hts (.fieldLink RX9 129 "StepAxisModel" "spot" "I") (List.mem_of_getElem? (i := 1) rfl)) (fun _ h9 => h9) rfl dX9_number_102 ?_
                refine lv_iload hx hb dX9_number_105 (lv_at hl 1 rfl) ?_
                refine lv_icmp_le (tgt := 114) hx hb dX9_number_107 (by decide) (fun c107 => ?_) (fun c107 => ?_)
                · refine lv_iconst (v := 0) hx hb dX9_number_114 (by decide +kernel) ?_
                  exact zEi (v := 0) (ws' := [(m0, oB 9 [.ref m1, .ref m2, .ref m3, .ref m4, .int ps, .int rn, .ref m5, .int (nI n), .ref m6, .ref m7, .int la, .int mn, .int ma, .int sn, .int (nI qq), .int ca, .int cm, .int kd, .ref m8]), (m5, aI g 60 tx), (m8, aI g 2 (upd nf kw v))]) hx hb hlocks hr rfl hK hP hD hS [1, 2, 0] rfl rfl (by rw [hQ, hE2, ← hd2]; exact (b01_0 (by show ¬ q < qq; have := nle_of (n := qq) (k := q) (by omega) (by omega) c107; omega)).symm) (by rw [hE2, hV, ← hd2]) dX9_number_115
                · refine lv_iconst (v := 1) hx hb dX9_number_110 (by decide +kernel) ?_
                  refine lv_goto (tgt := 115) hx hb dX9_number_111 (by decide) ?_
                  exact zEi (v := 1) (ws' := [(m0, oB 9 [.ref m1, .ref m2, .ref m3, .ref m4, .int ps, .int rn, .ref m5, .int (nI n), .ref m6, .ref m7, .int la, .int mn, .int ma, .int sn, .int (nI qq), .int ca, .int cm, .int kd, .ref m8]), (m5, aI g 60 tx), (m8, aI g 2 (upd nf kw v))]) hx hb hlocks hr rfl hK hP hD hS [1, 2, 0] rfl rfl (by rw [hQ, hE2, ← hd2]; exact (b01_1 (by show q < qq; have := nlt_of (n := qq) (k := q) (by omega) c107; exact this)).symm) (by rw [hE2, hV, ← hd2]) dX9_number_115
              · exact absurd c89 (by decide)
            · have hlt : k + 1 ≤ 4 := nlt_of (n := 4) (by decide) c47
              refine lv_bipush (v := 10) hx hb dX9_number_50 (by decide +kernel) ?_
              refine lv_iload hx hb dX9_number_52 (lv_at hl 0 rfl) ?_
              refine lv_imul hx hb dX9_number_54 ?_
              refine lv_aload_n hx hb dX9_number_55 rfl (lv_at hl 3 rfl) ?_
              refine va_get (D := g.1) (ci := 9) (v := .ref m5) (C := RX9) (T := TX9) (N := 19) hx hb hts iX9 hown hK hP 1 rfl rfl 6 (by decide) (hts (.fieldLink RX9 22 "StepAxisModel" "text" "[I") (List.mem_of_getElem? (i := 2) rfl)) (fun _ h9 => h9) rfl dX9_number_56 ?_
              refine lv_aload_n hx hb dX9_number_59 rfl (lv_at hl 3 rfl) ?_
              refine va_get (D := g.1) (ci := 9) (v := .int (nI qq)) (C := RX9) (T := TX9) (N := 19) hx hb hts iX9 hown hK hP 1 rfl rfl 14 (by decide) (hts (.fieldLink RX9 129 "StepAxisModel" "spot" "I") (List.mem_of_getElem? (i := 1) rfl)) (fun _ h9 => h9) rfl dX9_number_60 ?_
              refine zald (k := qq) hx hb hK hP 2 0 rfl rfl (IX.of rfl (by have := c36.1; omega) (by decide)) dX9_number_63 ?_
              refine lv_iadd hx hb dX9_number_64 ?_
              refine lv_bipush (v := 48) hx hb dX9_number_65 (by decide +kernel) ?_
              refine lv_isub hx hb dX9_number_67 ?_
              refine zTop (y := 10 * v + (tx qq - 48)) (add_sub3 _ _ _) ?_
              refine lv_istore (lv' := [(5, .int (10 * v + (tx qq - 48))), (4, .int (nI q)), (3, .int 0), (0, .ref m0), (1, .int w), (2, .int sg)]) hx hb dX9_number_68 hl (by decide) rfl (fun ls hl => ?_)
              refine lv_aload_n hx hb dX9_number_70 rfl (lv_at hl 3 rfl) ?_
              refine lv_dup hx hb dX9_number_71 rfl ?_
              refine va_get (D := g.1) (ci := 9) (v := .int (nI qq)) (C := RX9) (T := TX9) (N := 19) hx hb hts iX9 hown hK hP 1 rfl rfl 14 (by decide) (hts (.fieldLink RX9 129 "StepAxisModel" "spot" "I") (List.mem_of_getElem? (i := 1) rfl)) (fun _ h9 => h9) rfl dX9_number_72 ?_
              refine lv_iconst (v := 1) hx hb dX9_number_75 (by decide +kernel) ?_
              refine lv_iadd hx hb dX9_number_76 ?_
              refine va_put (D := g.1) (ci := 9) (v := .int ((nI qq) + 1)) (ty := .int) (C := RX9) (T := TX9) (N := 19) hx hb hts iX9 tyX9 tyX9_ok nmX9 hown hK hP hD hS 1 rfl rfl 14 (by decide) (hts (.fieldLink RX9 129 "StepAxisModel" "spot" "I") (List.mem_of_getElem? (i := 1) rfl)) (fun _ h9 => h9) rfl (by decide +kernel) rfl rfl (Nat.le_of_ble_eq_true rfl) dX9_number_77 (fun H locs hP hD hS => ?_)
              have hP : va_P g.1 vwCl [(m8, aI g 2 nf), (m0, oB 9 [.ref m1, .ref m2, .ref m3, .ref m4, .int ps, .int rn, .ref m5, .int (nI n), .ref m6, .ref m7, .int la, .int mn, .int ma, .int sn, .int ((nI qq) + 1), .int ca, .int cm, .int kd, .ref m8]), (m5, aI g 60 tx)] H := hP
              have hD : va_D A [(m8, aI g 2 nf), (m0, oB 9 [.ref m1, .ref m2, .ref m3, .ref m4, .int ps, .int rn, .ref m5, .int (nI n), .ref m6, .ref m7, .int la, .int mn, .int ma, .int sn, .int ((nI qq) + 1), .int ca, .int cm, .int kd, .ref m8]), (m5, aI g 60 tx)] := hD
              have eF : (nI qq) + 1 = nI (qq + 1) := (nI_1 qq)
              rw [eF] at hP hD
              have hP : va_P g.1 vwCl [(m8, aI g 2 nf), (m0, oB 9 [.ref m1, .ref m2, .ref m3, .ref m4, .int ps, .int rn, .ref m5, .int (nI n), .ref m6, .ref m7, .int la, .int mn, .int ma, .int sn, .int (nI (qq + 1)), .int ca, .int cm, .int kd, .ref m8]), (m5, aI g 60 tx)] H := hP
              have hD : va_D A [(m8, aI g 2 nf), (m0, oB 9 [.ref m1, .ref m2, .ref m3, .ref m4, .int ps, .int rn, .ref m5, .int (nI n), .ref m6, .ref m7, .int la, .int mn, .int ma, .int sn, .int (nI (qq + 1)), .int ca, .int cm, .int kd, .ref m8]), (m5, aI g 60 tx)] := hD
              refine lv_goto (tgt := 28) hx hb dX9_number_80 (by decide) ?_
              exact ih (k + 1) (qq + 1) (10 * v + (tx qq - 48)) hlt (by omega) (by rw [← hd, show 4 - k = (4 - (k + 1)) + 1 by omega, dgs_1 c36]) (by omega) _ _ (zP_sub hP [1, 2, 0] rfl) (hD.sub [1, 2, 0] rfl rfl) hS ls (lv_sub hl [0, 1, 2, 3, 4, 5] rfl)
      exact lp28 ((5 - 0) + 1) 0 q 0 (by decide) rfl rfl (Nat.lt_succ_self _) _ _ (zP_sub hP [1, 2, 0] rfl) (hD.sub [1, 2, 0] rfl rfl) hS ls (lv_sub hl [0, 1, 2, 3, 4, 5] rfl)
    · have c10 := b01_t c10
      refine lv_iconst (v := 1) hx hb dX9_number_13 (by decide +kernel) ?_
      refine lv_goto (tgt := 18) hx hb dX9_number_14 (by decide) ?_
      refine lv_istore_n (lv' := [(3, .int 1), (0, .ref m0), (1, .int w), (2, .int sg)]) hx hb dX9_number_18 rfl hl (by decide) rfl (fun ls hl => ?_)
      obtain ⟨q, hq⟩ : ∃ q, q = p + 1 := ⟨_, rfl⟩
      obtain ⟨g1, g2, g3⟩ := sgt_pos c10
      have hQ : nmq tx n p sg = q := by rw [hq]; exact (if_neg c1).trans g1
      have hV : nmV tx n p sg = -(dgt tx n q).1 := by rw [hq]; exact (if_neg c1).trans g2
      have hE2 : nmE tx n p sg = (dgt tx n q).2 := by rw [hq]; exact (if_neg c1).trans g3
      have eF : nI (skN tx n p 45) = nI q := (by rw [hq]; exact congrArg nI (if_pos c10))
      rw [eF] at hP hD
      have hP : va_P g.1 vwCl [(m8, aI g 2 nf), (m0, oB 9 [.ref m1, .ref m2, .ref m3, .ref m4, .int ps, .int rn, .ref m5, .int (nI n), .ref m6, .ref m7, .int la, .int mn, .int ma, .int sn, .int (nI q), .int ca, .int cm, .int kd, .ref m8]), (m5, aI g 60 tx)] H := hP
      have hD : va_D A [(m8, aI g 2 nf), (m0, oB 9 [.ref m1, .ref m2, .ref m3, .ref m4, .int ps, .int rn, .ref m5, .int (nI n), .ref m6, .ref m7, .int la, .int mn, .int ma, .int sn, .int (nI q), .int ca, .int cm, .int kd, .ref m8]), (m5, aI g 60 tx)] := hD
      have hq90 : q ≤ 90 := by omega
      refine lv_aload_n hx hb dX9_number_19 rfl (lv_at hl 1 rfl) ?_
      refine va_get (D := g.1) (ci := 9) (v := .int (nI q)) (C := RX9) (T := TX9) (N := 19) hx hb hts iX9 hown hK hP 1 rfl rfl 14 (by decide) (hts (.fieldLink RX9 129 "StepAxisModel" "spot" "I") (List.mem_of_getElem? (i := 1) rfl)) (fun _ h9 => h9) rfl dX9_number_20 ?_
      refine lv_istore (lv' := [(4, .int (nI q)), (3, .int 1), (0, .ref m0), (1, .int w), (2, .int sg)]) hx hb dX9_number_23 hl (by decide) rfl (fun ls hl => ?_)
      refine lv_iconst (v := 0) hx hb dX9_number_25 (by decide +kernel) ?_
      refine lv_istore (lv' := [(5, .int 0), (4, .int (nI q)), (3, .int 1), (0, .ref m0), (1, .int w), (2, .int sg)]) hx hb dX9_number_26 hl (by decide) rfl (fun ls hl => ?_)
      have lp28 : ∀ (fu : Nat) (k : Nat) (qq : Nat) (v : Int32), (k ≤ 4) → (qq = q + k) → (dgs tx n (4 - k) qq v = dgt tx n q) → (5 - k) < fu → ∀ (H : Heap) (locs : List Loc), va_P g.1 vwCl [(m0, oB 9 [.ref m1, .ref m2, .ref m3, .ref m4, .int ps, .int rn, .ref m5, .int (nI n), .ref m6, .ref m7, .int la, .int mn, .int ma, .int sn, .int (nI qq), .int ca, .int cm, .int kd, .ref m8]), (m5, aI g 60 tx), (m8, aI g 2 nf)] H → va_D A [(m0, oB 9 [.ref m1, .ref m2, .ref m3, .ref m4, .int ps, .int rn, .ref m5, .int (nI n), .ref m6, .ref m7, .int la, .int mn, .int ma, .int sn, .int (nI qq), .int ca, .int cm, .int kd, .ref m8]), (m5, aI g 60 tx), (m8, aI g 2 nf)] → va_S A sx.heap H locs → ∀ (ls : Array Slot), lv_has ls 6 [(5, .int v), (4, .int (nI q)), (3, .int 1), (0, .ref m0), (1, .int w), (2, .int sg)] → W pg l ev (rk 3 66) sx mi args below meth cd H locs 0 0 (MQ below (zQi g (b01 (nmq tx n p sg < nmE tx n p sg)) [(m0, oB 9 [.ref m1, .ref m2, .ref m3, .ref m4, .int ps, .int rn, .ref m5, .int (nI n), .ref m6, .ref m7, .int la, .int mn, .int ma, .int sn, .int (nI (nmE tx n p sg)), .int ca, .int cm, .int kd, .ref m8]), (m5, aI g 60 tx), (m8, aI g 2 (upd nf kw (nmV tx n p sg)))] A) args sx 0 0 A) (F0 mi 28 ls []) := by
        intro fu
        induction fu with
        | zero =>
          intro k qq v hk eq hd hmu
          exact absurd hmu (Nat.not_lt_zero _)
        | succ fu ih =>
          intro k qq v hk eq hd hmu H locs hP hD hS ls hl
          refine lv_aload_n hx hb dX9_number_28 rfl (lv_at hl 3 rfl) ?_
          refine lv_bipush (v := 48) hx hb dX9_number_29 (by decide +kernel) ?_
          refine lv_bipush (v := 57) hx hb dX9_number_31 (by decide +kernel) ?_
          refine zVI (As := [.int 48, .int 57]) (rest := []) (wc := [(m0, oB 9 [.ref m1, .ref m2, .ref m3, .ref m4, .int ps, .int rn, .ref m5, .int (nI n), .ref m6, .ref m7, .int la, .int mn, .int ma, .int sn, .int (nI qq), .int ca, .int cm, .int kd, .ref m8]), (m5, aI g 60 tx)]) (wr := [(m8, aI g 2 nf)]) (wc' := [(m0, oB 9 [.ref m1, .ref m2, .ref m3, .ref m4, .int ps, .int rn, .ref m5, .int (nI n), .ref m6, .ref m7, .int la, .int mn, .int ma, .int sn, .int (nI qq), .int ca, .int cm, .int kd, .ref m8]), (m5, aI g 60 tx)]) ⟨hx, hb, hml, hown, hts⟩ (r_isAt l g m0 m1 m2 m3 m4 m5 m6 m7 m8 ps rn la mn ma sn ca cm kd n qq tx 48 57 hn (by omega)) (cwV 2 hts gX9_number_X9_isAt rfl rfl rfl (by decide +kernel) ⟨Nat.le_of_ble_eq_true rfl, Nat.le_of_ble_eq_true rfl⟩) hE hK hP hD hS hA 0 9 rfl rfl rfl [0, 1] [2] rfl rfl rfl rfl (by decide) rfl hl.1 rfl (lv_room (Nat.le_of_ble_eq_true rfl)) ⟨Nat.zero_le _, Nat.zero_le _⟩ dX9_number_33 (fun H locs hP hD hS => ?_)
          have hP : va_P g.1 vwCl [(m8, aI g 2 nf), (m0, oB 9 [.ref m1, .ref m2, .ref m3, .ref m4, .int ps, .int rn, .ref m5, .int (nI n), .ref m6, .ref m7, .int la, .int mn, .int ma, .int sn, .int (nI qq), .int ca, .int cm, .int kd, .ref m8]), (m5, aI g 60 tx)] H := hP
          have hD : va_D A [(m8, aI g 2 nf), (m0, oB 9 [.ref m1, .ref m2, .ref m3, .ref m4, .int ps, .int rn, .ref m5, .int (nI n), .ref m6, .ref m7, .int la, .int mn, .int ma, .int sn, .int (nI qq), .int ca, .int cm, .int kd, .ref m8]), (m5, aI g 60 tx)] := hD
          refine zTop (y := b01 (dgP tx n qq)) rfl ?_
          refine lv_if_eq (tgt := 83) hx hb dX9_number_36 (by decide) (fun c36 => ?_) (fun c36 => ?_)
          · have c36 := b01_f c36
            have hd2 : (v, qq) = dgt tx n q := by rw [← hd, dgs_0 c36]
            refine lv_aload_n hx hb dX9_number_83 rfl (lv_at hl 3 rfl) ?_
            refine va_get (D := g.1) (ci := 9) (v := .ref m8) (C := RX9) (T := TX9) (N := 19) hx hb hts iX9 hown hK hP 1 rfl rfl 18 (by decide) (hts (.fieldLink RX9 31 "StepAxisModel" "told" "[I") (List.mem_of_getElem? (i := 3) rfl)) (fun _ h9 => h9) rfl dX9_number_84 ?_
            refine lv_iload_n hx hb dX9_number_87 rfl (lv_at hl 4 rfl) ?_
            refine lv_iload_n hx hb dX9_number_88 rfl (lv_at hl 2 rfl) ?_
            refine lv_if_eq (tgt := 98) hx hb dX9_number_89 (by decide) (fun c89 => ?_) (fun c89 => ?_)
            · exact absurd c89 (by decide)
            · refine lv_iload hx hb dX9_number_92 (lv_at hl 0 rfl) ?_
              refine lv_ineg hx hb dX9_number_94 ?_
              refine lv_goto (tgt := 100) hx hb dX9_number_95 (by decide) ?_
              refine zast (k := kw) hx hb hK hP hD hS 0 0 rfl rfl (IX.of ew hkw (by decide)) dX9_number_100 (fun H locs hP hD hS => ?_)
              have hP : va_P g.1 vwCl [(m8, aI g 2 (upd nf kw (-v))), (m0, oB 9 [.ref m1, .ref m2, .ref m3, .ref m4, .int ps, .int rn, .ref m5, .int (nI n), .ref m6, .ref m7, .int la, .int mn, .int ma, .int sn, .int (nI qq), .int ca, .int cm, .int kd, .ref m8]), (m5, aI g 60 tx)] H := hP
              have hD : va_D A [(m8, aI g 2 (upd nf kw (-v))), (m0, oB 9 [.ref m1, .ref m2, .ref m3, .ref m4, .int ps, .int rn, .ref m5, .int (nI n), .ref m6, .ref m7, .int la, .int mn, .int ma, .int sn, .int (nI qq), .int ca, .int cm, .int kd, .ref m8]), (m5, aI g 60 tx)] := hD
              refine lv_aload_n hx hb dX9_number_101 rfl (lv_at hl 3 rfl) ?_
              refine va_get (D := g.1) (ci := 9) (v := .int (nI qq)) (C := RX9) (T := TX9) (N := 19) hx hb hts iX9 hown hK hP 1 rfl rfl 14 (by decide) (hts (.fieldLink RX9 129 "StepAxisModel" "spot" "I") (List.mem_of_getElem? (i := 1) rfl)) (fun _ h9 => h9) rfl dX9_number_102 ?_
              refine lv_iload hx hb dX9_number_105 (lv_at hl 1 rfl) ?_
              refine lv_icmp_le (tgt := 114) hx hb dX9_number_107 (by decide) (fun c107 => ?_) (fun c107 => ?_)
              · refine lv_iconst (v := 0) hx hb dX9_number_114 (by decide +kernel) ?_
                exact zEi (v := 0) (ws' := [(m0, oB 9 [.ref m1, .ref m2, .ref m3, .ref m4, .int ps, .int rn, .ref m5, .int (nI n), .ref m6, .ref m7, .int la, .int mn, .int ma, .int sn, .int (nI qq), .int ca, .int cm, .int kd, .ref m8]), (m5, aI g 60 tx), (m8, aI g 2 (upd nf kw (-v)))]) hx hb hlocks hr rfl hK hP hD hS [1, 2, 0] rfl rfl (by rw [hQ, hE2, ← hd2]; exact (b01_0 (by show ¬ q < qq; have := nle_of (n := qq) (k := q) (by omega) (by omega) c107; omega)).symm) (by rw [hE2, hV, ← hd2]) dX9_number_115
              · refine lv_iconst (v := 1) hx hb dX9_number_110 (by decide +kernel) ?_
                refine lv_goto (tgt := 115) hx hb dX9_number_111 (by decide) ?_
                exact zEi (v := 1) (ws' := [(m0, oB 9 [.ref m1, .ref m2, .ref m3, .ref m4, .int ps, .int rn, .ref m5, .int (nI n), .ref m6, .ref m7, .int la, .int mn, .int ma, .int sn, .int (nI qq), .int ca, .int cm, .int kd, .ref m8]), (m5, aI g 60 tx), (m8, aI g 2 (upd nf kw (-v)))]) hx hb hlocks hr rfl hK hP hD hS [1, 2, 0] rfl rfl (by rw [hQ, hE2, ← hd2]; exact (b01_1 (by show q < qq; have := nlt_of (n := qq) (k := q) (by omega) c107; exact this)).symm) (by rw [hE2, hV, ← hd2]) dX9_number_115
          · have c36 := b01_t c36
            refine lv_aload_n hx hb dX9_number_39 rfl (lv_at hl 3 rfl) ?_
            refine va_get (D := g.1) (ci := 9) (v := .int (nI qq)) (C := RX9) (T := TX9) (N := 19) hx hb hts iX9 hown hK hP 1 rfl rfl 14 (by decide) (hts (.fieldLink RX9 129 "StepAxisModel" "spot" "I") (List.mem_of_getElem? (i := 1) rfl)) (fun _ h9 => h9) rfl dX9_number_40 ?_
            refine lv_iload hx hb dX9_number_43 (lv_at hl 1 rfl) ?_
            refine lv_isub hx hb dX9_number_45 ?_
            refine zTop (y := nI k) (by rw [eq, pk_sub (by omega)]; exact congrArg nI (by omega)) ?_
            refine lv_iconst (v := 4) hx hb dX9_number_46 (by decide +kernel) ?_
            refine lv_icmp_ge (tgt := 83) hx hb dX9_number_47 (by decide) (fun c47 => ?_) (fun c47 => ?_)
            · have hkn : k = 4 := Nat.le_antisymm hk (nle_of (n := 4) (by decide) (by omega) c47)
              have hd2 : (v, qq) = dgt tx n q := by rw [← hd, hkn]; rfl
              refine lv_aload_n hx hb dX9_number_83 rfl (lv_at hl 3 rfl) ?_
              refine va_get (D := g.1) (ci := 9) (v := .ref m8) (C := RX9) (T := TX9) (N := 19) hx hb hts iX9 hown hK hP 1 rfl rfl 18 (by decide) (hts (.fieldLink RX9 31 "StepAxisModel" "told" "[I") (List.mem_of_getElem? (i := 3) rfl)) (fun _ h9 => h9) rfl dX9_number_84 ?_
              refine lv_iload_n hx hb dX9_number_87 rfl (lv_at hl 4 rfl) ?_
              refine lv_iload_n hx hb dX9_number_88 rfl (lv_at hl 2 rfl) ?_
              refine lv_if_eq (tgt := 98) hx hb dX9_number_89 (by decide) (fun c89 => ?_) (fun c89 => ?_)
              · exact absurd c89 (by decide)
              · refine lv_iload hx hb dX9_number_92 (lv_at hl 0 rfl) ?_
                refine lv_ineg hx hb dX9_number_94 ?_
                refine lv_goto (tgt := 100) hx hb dX9_number_95 (by decide) ?_
                refine zast (k := kw) hx hb hK hP hD hS 0 0 rfl rfl (IX.of ew hkw (by decide)) dX9_number_100 (fun H locs hP hD hS => ?_)
                have hP : va_P g.1 vwCl [(m8, aI g 2 (upd nf kw (-v))), (m0, oB 9 [.ref m1, .ref m2, .ref m3, .ref m4, .int ps, .int rn, .ref m5, .int (nI n), .ref m6, .ref m7, .int la, .int mn, .int ma, .int sn, .int (nI qq), .int ca, .int cm, .int kd, .ref m8]), (m5, aI g 60 tx)] H := hP
                have hD : va_D A [(m8, aI g 2 (upd nf kw (-v))), (m0, oB 9 [.ref m1, .ref m2, .ref m3, .ref m4, .int ps, .int rn, .ref m5, .int (nI n), .ref m6, .ref m7, .int la, .int mn, .int ma, .int sn, .int (nI qq), .int ca, .int cm, .int kd, .ref m8]), (m5, aI g 60 tx)] := hD
                refine lv_aload_n hx hb dX9_number_101 rfl (lv_at hl 3 rfl) ?_
                refine va_get (D := g.1) (ci := 9) (v := .int (nI qq)) (C := RX9) (T := TX9) (N := 19) hx hb hts iX9 hown hK hP 1 rfl rfl 14 (by decide) (hts (.fieldLink RX9 129 "StepAxisModel" "spot" "I") (List.mem_of_getElem? (i := 1) rfl)) (fun _ h9 => h9) rfl dX9_number_102 ?_
                refine lv_iload hx hb dX9_number_105 (lv_at hl 1 rfl) ?_
                refine lv_icmp_le (tgt := 114) hx hb dX9_number_107 (by decide) (fun c107 => ?_) (fun c107 => ?_)
                · refine lv_iconst (v := 0) hx hb dX9_number_114 (by decide +kernel) ?_
                  exact zEi (v := 0) (ws' := [(m0, oB 9 [.ref m1, .ref m2, .ref m3, .ref m4, .int ps, .int rn, .ref m5, .int (nI n), .ref m6, .ref m7, .int la, .int mn, .int ma, .int sn, .int (nI qq), .int ca, .int cm, .int kd, .ref m8]), (m5, aI g 60 tx), (m8, aI g 2 (upd nf kw (-v)))]) hx hb hlocks hr rfl hK hP hD hS [1, 2, 0] rfl rfl (by rw [hQ, hE2, ← hd2]; exact (b01_0 (by show ¬ q < qq; have := nle_of (n := qq) (k := q) (by omega) (by omega) c107; omega)).symm) (by rw [hE2, hV, ← hd2]) dX9_number_115
                · refine lv_iconst (v := 1) hx hb dX9_number_110 (by decide +kernel) ?_
                  refine lv_goto (tgt := 115) hx hb dX9_number_111 (by decide) ?_
                  exact zEi (v := 1) (ws' := [(m0, oB 9 [.ref m1, .ref m2, .ref m3, .ref m4, .int ps, .int rn, .ref m5, .int (nI n), .ref m6, .ref m7, .int la, .int mn, .int ma, .int sn, .int (nI qq), .int ca, .int cm, .int kd, .ref m8]), (m5, aI g 60 tx), (m8, aI g 2 (upd nf kw (-v)))]) hx hb hlocks hr rfl hK hP hD hS [1, 2, 0] rfl rfl (by rw [hQ, hE2, ← hd2]; exact (b01_1 (by show q < qq; have := nlt_of (n := qq) (k := q) (by omega) c107; exact this)).symm) (by rw [hE2, hV, ← hd2]) dX9_number_115
            · have hlt : k + 1 ≤ 4 := nlt_of (n := 4) (by decide) c47
              refine lv_bipush (v := 10) hx hb dX9_number_50 (by decide +kernel) ?_
              refine lv_iload hx hb dX9_number_52 (lv_at hl 0 rfl) ?_
              refine lv_imul hx hb dX9_number_54 ?_
              refine lv_aload_n hx hb dX9_number_55 rfl (lv_at hl 3 rfl) ?_
              refine va_get (D := g.1) (ci := 9) (v := .ref m5) (C := RX9) (T := TX9) (N := 19) hx hb hts iX9 hown hK hP 1 rfl rfl 6 (by decide) (hts (.fieldLink RX9 22 "StepAxisModel" "text" "[I") (List.mem_of_getElem? (i := 2) rfl)) (fun _ h9 => h9) rfl dX9_number_56 ?_
              refine lv_aload_n hx hb dX9_number_59 rfl (lv_at hl 3 rfl) ?_
              refine va_get (D := g.1) (ci := 9) (v := .int (nI qq)) (C := RX9) (T := TX9) (N := 19) hx hb hts iX9 hown hK hP 1 rfl rfl 14 (by decide) (hts (.fieldLink RX9 129 "StepAxisModel" "spot" "I") (List.mem_of_getElem? (i := 1) rfl)) (fun _ h9 => h9) rfl dX9_number_60 ?_
              refine zald (k := qq) hx hb hK hP 2 0 rfl rfl (IX.of rfl (by have := c36.1; omega) (by decide)) dX9_number_63 ?_
              refine lv_iadd hx hb dX9_number_64 ?_
              refine lv_bipush (v := 48) hx hb dX9_number_65 (by decide +kernel) ?_
              refine lv_isub hx hb dX9_number_67 ?_
              refine zTop (y := 10 * v + (tx qq - 48)) (add_sub3 _ _ _) ?_
              refine lv_istore (lv' := [(5, .int (10 * v + (tx qq - 48))), (4, .int (nI q)), (3, .int 1), (0, .ref m0), (1, .int w), (2, .int sg)]) hx hb dX9_number_68 hl (by decide) rfl (fun ls hl => ?_)
              refine lv_aload_n hx hb dX9_number_70 rfl (lv_at hl 3 rfl) ?_
              refine lv_dup hx hb dX9_number_71 rfl ?_
              refine va_get (D := g.1) (ci := 9) (v := .int (nI qq)) (C := RX9) (T := TX9) (N := 19) hx hb hts iX9 hown hK hP 1 rfl rfl 14 (by decide) (hts (.fieldLink RX9 129 "StepAxisModel" "spot" "I") (List.mem_of_getElem? (i := 1) rfl)) (fun _ h9 => h9) rfl dX9_number_72 ?_
              refine lv_iconst (v := 1) hx hb dX9_number_75 (by decide +kernel) ?_
              refine lv_iadd hx hb dX9_number_76 ?_
              refine va_put (D := g.1) (ci := 9) (v := .int ((nI qq) + 1)) (ty := .int) (C := RX9) (T := TX9) (N := 19) hx hb hts iX9 tyX9 tyX9_ok nmX9 hown hK hP hD hS 1 rfl rfl 14 (by decide) (hts (.fieldLink RX9 129 "StepAxisModel" "spot" "I") (List.mem_of_getElem? (i := 1) rfl)) (fun _ h9 => h9) rfl (by decide +kernel) rfl rfl (Nat.le_of_ble_eq_true rfl) dX9_number_77 (fun H locs hP hD hS => ?_)
              have hP : va_P g.1 vwCl [(m8, aI g 2 nf), (m0, oB 9 [.ref m1, .ref m2, .ref m3, .ref m4, .int ps, .int rn, .ref m5, .int (nI n), .ref m6, .ref m7, .int la, .int mn, .int ma, .int sn, .int ((nI qq) + 1), .int ca, .int cm, .int kd, .ref m8]), (m5, aI g 60 tx)] H := hP
              have hD : va_D A [(m8, aI g 2 nf), (m0, oB 9 [.ref m1, .ref m2, .ref m3, .ref m4, .int ps, .int rn, .ref m5, .int (nI n), .ref m6, .ref m7, .int la, .int mn, .int ma, .int sn, .int ((nI qq) + 1), .int ca, .int cm, .int kd, .ref m8]), (m5, aI g 60 tx)] := hD
              have eF : (nI qq) + 1 = nI (qq + 1) := (nI_1 qq)
              rw [eF] at hP hD
              have hP : va_P g.1 vwCl [(m8, aI g 2 nf), (m0, oB 9 [.ref m1, .ref m2, .ref m3, .ref m4, .int ps, .int rn, .ref m5, .int (nI n), .ref m6, .ref m7, .int la, .int mn, .int ma, .int sn, .int (nI (qq + 1)), .int ca, .int cm, .int kd, .ref m8]), (m5, aI g 60 tx)] H := hP
              have hD : va_D A [(m8, aI g 2 nf), (m0, oB 9 [.ref m1, .ref m2, .ref m3, .ref m4, .int ps, .int rn, .ref m5, .int (nI n), .ref m6, .ref m7, .int la, .int mn, .int ma, .int sn, .int (nI (qq + 1)), .int ca, .int cm, .int kd, .ref m8]), (m5, aI g 60 tx)] := hD
              refine lv_goto (tgt := 28) hx hb dX9_number_80 (by decide) ?_
              exact ih (k + 1) (qq + 1) (10 * v + (tx qq - 48)) hlt (by omega) (by rw [← hd, show 4 - k = (4 - (k + 1)) + 1 by omega, dgs_1 c36]) (by omega) _ _ (zP_sub hP [1, 2, 0] rfl) (hD.sub [1, 2, 0] rfl rfl) hS ls (lv_sub hl [0, 1, 2, 3, 4, 5] rfl)
      exact lp28 ((5 - 0) + 1) 0 q 0 (by decide) rfl rfl (Nat.lt_succ_self _) _ _ (zP_sub hP [1, 2, 0] rfl) (hD.sub [1, 2, 0] rfl rfl) hS ls (lv_sub hl [0, 1, 2, 3, 4, 5] rfl)
