set_option maxHeartbeats 4000000 in
set_option maxRecDepth 100000 in
theorem m_interval (l : Launch) (g : G3) (b0 b1 b2 b3 b4 : Nat) (fi fq fp fs : Nat → Int32) (la n : Int32) : MI l yX4_interval wsX4_interval (rk 1 22) g [.ref b0, .int n] [(b0, oB 4 [.ref b1, .ref b2, .ref b3, .ref b4, .int la]), (b1, aI g 201 fi), (b2, aI g 201 fq), (b3, aI g 201 fp), (b4, aI g 201 fs)] (rget fi n) [(b0, oB 4 [.ref b1, .ref b2, .ref b3, .ref b4, .int la]), (b1, aI g 201 fi), (b2, aI g 201 fq), (b3, aI g 201 fp), (b4, aI g 201 fs)] := by
  refine zWalk.met (Qc := fun A => zQi g (rget fi n) [(b0, oB 4 [.ref b1, .ref b2, .ref b3, .ref b4, .int la]), (b1, aI g 201 fi), (b2, aI g 201 fq), (b3, aI g 201 fp), (b4, aI g 201 fs)] A) (cc := cX4_interval) (maxL := 2) (ret := (some .int)) ?_ (by decide) rfl (Nat.le_of_ble_eq_true rfl)
  intro pg ev sx mi args below meth cd A H locs ls hx hb hr hml hown hts hlocks hA hE hK hP hD hS hl
  have iX4 : ∀ w ∈ u_ws RX4 TX4 5, w ∈ wsX4_interval := (fun _ h => (List.mem_cons_of_mem _ (List.mem_append_right _ h)))
  have hl : lv_has ls 2 [(0, .ref b0), (1, .int n)] := hl
  refine lv_iload_n hx hb dX4_interval_0 rfl (lv_at hl 1 rfl) ?_
  refine lv_iconst (v := 0) hx hb dX4_interval_1 (by decide +kernel) ?_
  refine lv_sipush (v := 200) hx hb dX4_interval_2 (by decide +kernel) ?_
  refine zNI (As := [.int n, .int 0, .int 200]) (rest := []) (wc := []) (wr := [(b0, oB 4 [.ref b1, .ref b2, .ref b3, .ref b4, .int la]), (b1, aI g 201 fi), (b2, aI g 201 fq), (b3, aI g 201 fp), (b4, aI g 201 fs)]) (wc' := []) ⟨hx, hb, hml, hown, hts⟩ (m_within l g n 0 200) ⟨va_cnB 3 hts gX4_interval_X8_within_n42 rfl rfl rfl (nwm_12 hE.1) (hts (.initialized RX8) (List.mem_of_getElem? (i := 3) rfl)) (by decide +kernel) ⟨Nat.le_of_ble_eq_true rfl, Nat.le_of_ble_eq_true rfl⟩, (hts (.static yX8_within) (List.mem_of_getElem? (i := 2) rfl)), trivial⟩ hE hK hP hD hS hA [] [0, 1, 2, 3, 4] rfl rfl rfl rfl (by decide) rfl hl.1 rfl (lv_room (Nat.le_of_ble_eq_true rfl)) ⟨Nat.zero_le _, Nat.zero_le _⟩ dX4_interval_5 (fun H locs hP hD hS => ?_)
  have hP : va_P g.1 vwCl [(b0, oB 4 [.ref b1, .ref b2, .ref b3, .ref b4, .int la]), (b1, aI g 201 fi), (b2, aI g 201 fq), (b3, aI g 201 fp), (b4, aI g 201 fs)] H := hP
  have hD : va_D A [(b0, oB 4 [.ref b1, .ref b2, .ref b3, .ref b4, .int la]), (b1, aI g 201 fi), (b2, aI g 201 fq), (b3, aI g 201 fp), (b4, aI g 201 fs)] := hD
  refine lv_if_eq (tgt := 20) hx hb dX4_interval_8 (by decide) (fun c8 => ?_) (fun c8 => ?_)
  · have c8 := b01_f c8
    refine lv_iconst (v := 0) hx hb dX4_interval_20 (by decide +kernel) ?_
    exact zEi (v := 0) (ws' := [(b0, oB 4 [.ref b1, .ref b2, .ref b3, .ref b4, .int la]), (b1, aI g 201 fi), (b2, aI g 201 fq), (b3, aI g 201 fp), (b4, aI g 201 fs)]) hx hb hlocks hr rfl hK hP hD hS [0, 1, 2, 3, 4] rfl rfl (if_neg c8).symm rfl dX4_interval_21
  · have c8 := b01_t c8
    refine lv_aload_n hx hb dX4_interval_11 rfl (lv_at hl 0 rfl) ?_
    refine va_get (D := g.1) (ci := 4) (v := .ref b1) (C := RX4) (T := TX4) (N := 5) hx hb hts iX4 hown hK hP 0 rfl rfl 0 (by decide) (hts (.fieldLink RX4 9 "StepAxis$Ramp" "intervals" "[I") (List.mem_of_getElem? (i := 1) rfl)) (fun _ h9 => h9) rfl dX4_interval_12 ?_
    refine lv_iload_n hx hb dX4_interval_15 rfl (lv_at hl 1 rfl) ?_
    refine zald (k := n.toInt.toNat) hx hb hK hP 1 0 rfl rfl (IX.z (zp0 c8.1) (by have := (zle _ _).mp c8.2; have e := i200; omega)) dX4_interval_16 ?_
    refine lv_goto (tgt := 21) hx hb dX4_interval_17 (by decide) ?_
    exact zEi (v := fi n.toInt.toNat) (ws' := [(b0, oB 4 [.ref b1, .ref b2, .ref b3, .ref b4, .int la]), (b1, aI g 201 fi), (b2, aI g 201 fq), (b3, aI g 201 fp), (b4, aI g 201 fs)]) hx hb hlocks hr rfl hK hP hD hS [0, 1, 2, 3, 4] rfl rfl (if_pos c8).symm rfl dX4_interval_21

set_option maxHeartbeats 4000000 in
set_option maxRecDepth 100000 in
theorem m_pull (l : Launch) (g : G3) (b0 b1 b2 b3 b4 : Nat) (fi fq fp fs : Nat → Int32) (la n : Int32) : MI l yX4_pull wsX4_pull (rk 1 22) g [.ref b0, .int n] [(b0, oB 4 [.ref b1, .ref b2, .ref b3, .ref b4, .int la]), (b1, aI g 201 fi), (b2, aI g 201 fq), (b3, aI g 201 fp), (b4, aI g 201 fs)] (rget fp n) [(b0, oB 4 [.ref b1, .ref b2, .ref b3, .ref b4, .int la]), (b1, aI g 201 fi), (b2, aI g 201 fq), (b3, aI g 201 fp), (b4, aI g 201 fs)] := by
  refine zWalk.met (Qc := fun A => zQi g (rget fp n) [(b0, oB 4 [.ref b1, .ref b2, .ref b3, .ref b4, .int la]), (b1, aI g 201 fi), (b2, aI g 201 fq), (b3, aI g 201 fp), (b4, aI g 201 fs)] A) (cc := cX4_pull) (maxL := 2) (ret := (some .int)) ?_ (by decide) rfl (Nat.le_of_ble_eq_true rfl)
  intro pg ev sx mi args below meth cd A H locs ls hx hb hr hml hown hts hlocks hA hE hK hP hD hS hl
  have iX4 : ∀ w ∈ u_ws RX4 TX4 5, w ∈ wsX4_pull := (fun _ h => (List.mem_cons_of_mem _ (List.mem_append_right _ h)))
  have hl : lv_has ls 2 [(0, .ref b0), (1, .int n)] := hl
  refine lv_iload_n hx hb dX4_pull_0 rfl (lv_at hl 1 rfl) ?_
  refine lv_iconst (v := 0) hx hb dX4_pull_1 (by decide +kernel) ?_
  refine lv_sipush (v := 200) hx hb dX4_pull_2 (by decide +kernel) ?_
  refine zNI (As := [.int n, .int 0, .int 200]) (rest := []) (wc := []) (wr := [(b0, oB 4 [.ref b1, .ref b2, .ref b3, .ref b4, .int la]), (b1, aI g 201 fi), (b2, aI g 201 fq), (b3, aI g 201 fp), (b4, aI g 201 fs)]) (wc' := []) ⟨hx, hb, hml, hown, hts⟩ (m_within l g n 0 200) ⟨va_cnB 3 hts gX4_pull_X8_within_n42 rfl rfl rfl (nwm_12 hE.1) (hts (.initialized RX8) (List.mem_of_getElem? (i := 3) rfl)) (by decide +kernel) ⟨Nat.le_of_ble_eq_true rfl, Nat.le_of_ble_eq_true rfl⟩, (hts (.static yX8_within) (List.mem_of_getElem? (i := 2) rfl)), trivial⟩ hE hK hP hD hS hA [] [0, 1, 2, 3, 4] rfl rfl rfl rfl (by decide) rfl hl.1 rfl (lv_room (Nat.le_of_ble_eq_true rfl)) ⟨Nat.zero_le _, Nat.zero_le _⟩ dX4_pull_5 (fun H locs hP hD hS => ?_)
  have hP : va_P g.1 vwCl [(b0, oB 4 [.ref b1, .ref b2, .ref b3, .ref b4, .int la]), (b1, aI g 201 fi), (b2, aI g 201 fq), (b3, aI g 201 fp), (b4, aI g 201 fs)] H := hP
  have hD : va_D A [(b0, oB 4 [.ref b1, .ref b2, .ref b3, .ref b4, .int la]), (b1, aI g 201 fi), (b2, aI g 201 fq), (b3, aI g 201 fp), (b4, aI g 201 fs)] := hD
  refine lv_if_eq (tgt := 20) hx hb dX4_pull_8 (by decide) (fun c8 => ?_) (fun c8 => ?_)
  · have c8 := b01_f c8
    refine lv_iconst (v := 0) hx hb dX4_pull_20 (by decide +kernel) ?_
    exact zEi (v := 0) (ws' := [(b0, oB 4 [.ref b1, .ref b2, .ref b3, .ref b4, .int la]), (b1, aI g 201 fi), (b2, aI g 201 fq), (b3, aI g 201 fp), (b4, aI g 201 fs)]) hx hb hlocks hr rfl hK hP hD hS [0, 1, 2, 3, 4] rfl rfl (if_neg c8).symm rfl dX4_pull_21
  · have c8 := b01_t c8
    refine lv_aload_n hx hb dX4_pull_11 rfl (lv_at hl 0 rfl) ?_
    refine va_get (D := g.1) (ci := 4) (v := .ref b3) (C := RX4) (T := TX4) (N := 5) hx hb hts iX4 hown hK hP 0 rfl rfl 2 (by decide) (hts (.fieldLink RX4 18 "StepAxis$Ramp" "pulls" "[I") (List.mem_of_getElem? (i := 1) rfl)) (fun _ h9 => h9) rfl dX4_pull_12 ?_
    refine lv_iload_n hx hb dX4_pull_15 rfl (lv_at hl 1 rfl) ?_
    refine zald (k := n.toInt.toNat) hx hb hK hP 3 0 rfl rfl (IX.z (zp0 c8.1) (by have := (zle _ _).mp c8.2; have e := i200; omega)) dX4_pull_16 ?_
    refine lv_goto (tgt := 21) hx hb dX4_pull_17 (by decide) ?_
    exact zEi (v := fp n.toInt.toNat) (ws' := [(b0, oB 4 [.ref b1, .ref b2, .ref b3, .ref b4, .int la]), (b1, aI g 201 fi), (b2, aI g 201 fq), (b3, aI g 201 fp), (b4, aI g 201 fs)]) hx hb hlocks hr rfl hK hP hD hS [0, 1, 2, 3, 4] rfl rfl (if_pos c8).symm rfl dX4_pull_21
set_option maxHeartbeats 4000000 in
set_option maxRecDepth 100000 in
theorem m_sum (l : Launch) (g : G3) (b0 b1 b2 b3 b4 : Nat) (fi fq fp fs : Nat → Int32) (la n : Int32) : MI l yX4_sum wsX4_sum (rk 1 22) g [.ref b0, .int n] [(b0, oB 4 [.ref b1, .ref b2, .ref b3, .ref b4, .int la]), (b1, aI g 201 fi), (b2, aI g 201 fq), (b3, aI g 201 fp), (b4, aI g 201 fs)] (rget fs n) [(b0, oB 4 [.ref b1, .ref b2, .ref b3, .ref b4, .int la]), (b1, aI g 201 fi), (b2, aI g 201 fq), (b3, aI g 201 fp), (b4, aI g 201 fs)] := by
  refine zWalk.met (Qc := fun A => zQi g (rget fs n) [(b0, oB 4 [.ref b1, .ref b2, .ref b3, .ref b4, .int la]), (b1, aI g 201 fi), (b2, aI g 201 fq), (b3, aI g 201 fp), (b4, aI g 201 fs)] A) (cc := cX4_sum) (maxL := 2) (ret := (some .int)) ?_ (by decide) rfl (Nat.le_of_ble_eq_true rfl)
  intro pg ev sx mi args below meth cd A H locs ls hx hb hr hml hown hts hlocks hA hE hK hP hD hS hl
  have iX4 : ∀ w ∈ u_ws RX4 TX4 5, w ∈ wsX4_sum := (fun _ h => (List.mem_cons_of_mem _ (List.mem_append_right _ h)))
  have hl : lv_has ls 2 [(0, .ref b0), (1, .int n)] := hl
  refine lv_iload_n hx hb dX4_sum_0 rfl (lv_at hl 1 rfl) ?_
  refine lv_iconst (v := 0) hx hb dX4_sum_1 (by decide +kernel) ?_
  refine lv_sipush (v := 200) hx hb dX4_sum_2 (by decide +kernel) ?_
  refine zNI (As := [.int n, .int 0, .int 200]) (rest := []) (wc := []) (wr := [(b0, oB 4 [.ref b1, .ref b2, .ref b3, .ref b4, .int la]), (b1, aI g 201 fi), (b2, aI g 201 fq), (b3, aI g 201 fp), (b4, aI g 201 fs)]) (wc' := []) ⟨hx, hb, hml, hown, hts⟩ (m_within l g n 0 200) ⟨va_cnB 3 hts gX4_sum_X8_within_n42 rfl rfl rfl (nwm_12 hE.1) (hts (.initialized RX8) (List.mem_of_getElem? (i := 3) rfl)) (by decide +kernel) ⟨Nat.le_of_ble_eq_true rfl, Nat.le_of_ble_eq_true rfl⟩, (hts (.static yX8_within) (List.mem_of_getElem? (i := 2) rfl)), trivial⟩ hE hK hP hD hS hA [] [0, 1, 2, 3, 4] rfl rfl rfl rfl (by decide) rfl hl.1 rfl (lv_room (Nat.le_of_ble_eq_true rfl)) ⟨Nat.zero_le _, Nat.zero_le _⟩ dX4_sum_5 (fun H locs hP hD hS => ?_)
  have hP : va_P g.1 vwCl [(b0, oB 4 [.ref b1, .ref b2, .ref b3, .ref b4, .int la]), (b1, aI g 201 fi), (b2, aI g 201 fq), (b3, aI g 201 fp), (b4, aI g 201 fs)] H := hP
  have hD : va_D A [(b0, oB 4 [.ref b1, .ref b2, .ref b3, .ref b4, .int la]), (b1, aI g 201 fi), (b2, aI g 201 fq), (b3, aI g 201 fp), (b4, aI g 201 fs)] := hD
  refine lv_if_eq (tgt := 20) hx hb dX4_sum_8 (by decide) (fun c8 => ?_) (fun c8 => ?_)
  · have c8 := b01_f c8
    refine lv_iconst (v := 0) hx hb dX4_sum_20 (by decide +kernel) ?_
    exact zEi (v := 0) (ws' := [(b0, oB 4 [.ref b1, .ref b2, .ref b3, .ref b4, .int la]), (b1, aI g 201 fi), (b2, aI g 201 fq), (b3, aI g 201 fp), (b4, aI g 201 fs)]) hx hb hlocks hr rfl hK hP hD hS [0, 1, 2, 3, 4] rfl rfl (if_neg c8).symm rfl dX4_sum_21
  · have c8 := b01_t c8
    refine lv_aload_n hx hb dX4_sum_11 rfl (lv_at hl 0 rfl) ?_
    refine va_get (D := g.1) (ci := 4) (v := .ref b4) (C := RX4) (T := TX4) (N := 5) hx hb hts iX4 hown hK hP 0 rfl rfl 3 (by decide) (hts (.fieldLink RX4 21 "StepAxis$Ramp" "sums" "[I") (List.mem_of_getElem? (i := 1) rfl)) (fun _ h9 => h9) rfl dX4_sum_12 ?_
    refine lv_iload_n hx hb dX4_sum_15 rfl (lv_at hl 1 rfl) ?_
    refine zald (k := n.toInt.toNat) hx hb hK hP 4 0 rfl rfl (IX.z (zp0 c8.1) (by have := (zle _ _).mp c8.2; have e := i200; omega)) dX4_sum_16 ?_
    refine lv_goto (tgt := 21) hx hb dX4_sum_17 (by decide) ?_
    exact zEi (v := fs n.toInt.toNat) (ws' := [(b0, oB 4 [.ref b1, .ref b2, .ref b3, .ref b4, .int la]), (b1, aI g 201 fi), (b2, aI g 201 fq), (b3, aI g 201 fp), (b4, aI g 201 fs)]) hx hb hlocks hr rfl hK hP hD hS [0, 1, 2, 3, 4] rfl rfl (if_pos c8).symm rfl dX4_sum_21
set_option maxHeartbeats 4000000 in
set_option maxRecDepth 100000 in
theorem m_indexOf (l : Launch) (g : G3) (b0 b1 b2 b3 b4 : Nat) (fi fq fp fs : Nat → Int32) (la n d : Int32) : MI l yX4_indexOf wsX4_indexOf (rk 1 21) g [.ref b0, .int n, .int d] [(b0, oB 4 [.ref b1, .ref b2, .ref b3, .ref b4, .int la]), (b1, aI g 201 fi), (b2, aI g 201 fq), (b3, aI g 201 fp), (b4, aI g 201 fs)] (idxC la n d) [(b0, oB 4 [.ref b1, .ref b2, .ref b3, .ref b4, .int la]), (b1, aI g 201 fi), (b2, aI g 201 fq), (b3, aI g 201 fp), (b4, aI g 201 fs)] := by
  refine zWalk.met (Qc := fun A => zQi g (idxC la n d) [(b0, oB 4 [.ref b1, .ref b2, .ref b3, .ref b4, .int la]), (b1, aI g 201 fi), (b2, aI g 201 fq), (b3, aI g 201 fp), (b4, aI g 201 fs)] A) (cc := cX4_indexOf) (maxL := 3) (ret := (some .int)) ?_ (by decide) rfl (Nat.le_of_ble_eq_true rfl)
  intro pg ev sx mi args below meth cd A H locs ls hx hb hr hml hown hts hlocks hA hE hK hP hD hS hl
  have iX4 : ∀ w ∈ u_ws RX4 TX4 5, w ∈ wsX4_indexOf := (fun _ h => (List.mem_cons_of_mem _ (List.mem_append_right _ h)))
  have hl : lv_has ls 3 [(0, .ref b0), (1, .int n), (2, .int d)] := hl
  refine lv_aload_n hx hb dX4_indexOf_0 rfl (lv_at hl 0 rfl) ?_
  refine va_get (D := g.1) (ci := 4) (v := .int la) (C := RX4) (T := TX4) (N := 5) hx hb hts iX4 hown hK hP 0 rfl rfl 4 (by decide) (hts (.fieldLink RX4 35 "StepAxis$Ramp" "last" "I") (List.mem_of_getElem? (i := 1) rfl)) (fun _ h9 => h9) rfl dX4_indexOf_1 ?_
  refine lv_iload_n hx hb dX4_indexOf_4 rfl (lv_at hl 1 rfl) ?_
  refine lv_iload_n hx hb dX4_indexOf_5 rfl (lv_at hl 2 rfl) ?_
  refine lv_iconst (v := 1) hx hb dX4_indexOf_6 (by decide +kernel) ?_
  refine lv_isub hx hb dX4_indexOf_7 ?_
  refine lv_iload_n hx hb dX4_indexOf_8 rfl (lv_at hl 1 rfl) ?_
  refine lv_isub hx hb dX4_indexOf_9 ?_
  refine va_mmin hx hb (hml.trans hl.1.symm) hown (hts (.methodLink RX4 29 Lib.Math.min.name) (List.mem_of_getElem? (i := 2) rfl)) (hts (.static Lib.Math.min.name) (List.mem_of_getElem? (i := 3) rfl)) (hts (.initialized "java/lang/Math") (List.mem_of_getElem? (i := 4) rfl)) (hts (.code Lib.Math.min.name Lib.Math.min.code 2 (some .int)) (List.mem_of_getElem? (i := 5) rfl)) (Nat.le_of_ble_eq_true rfl) (Nat.le_of_ble_eq_true rfl) (Nat.zero_le _) (Nat.zero_le _) dX4_indexOf_10 ?_
  refine va_mmin hx hb (hml.trans hl.1.symm) hown (hts (.methodLink RX4 29 Lib.Math.min.name) (List.mem_of_getElem? (i := 2) rfl)) (hts (.static Lib.Math.min.name) (List.mem_of_getElem? (i := 3) rfl)) (hts (.initialized "java/lang/Math") (List.mem_of_getElem? (i := 4) rfl)) (hts (.code Lib.Math.min.name Lib.Math.min.code 2 (some .int)) (List.mem_of_getElem? (i := 5) rfl)) (Nat.le_of_ble_eq_true rfl) (Nat.le_of_ble_eq_true rfl) (Nat.zero_le _) (Nat.zero_le _) dX4_indexOf_13 ?_
  exact zEi (v := if (if ((d - 1) - n) < n then ((d - 1) - n) else n) < la then (if ((d - 1) - n) < n then ((d - 1) - n) else n) else la) (ws' := [(b0, oB 4 [.ref b1, .ref b2, .ref b3, .ref b4, .int la]), (b1, aI g 201 fi), (b2, aI g 201 fq), (b3, aI g 201 fp), (b4, aI g 201 fs)]) hx hb hlocks hr rfl hK hP hD hS [0, 1, 2, 3, 4] rfl rfl rfl rfl dX4_indexOf_16
set_option maxHeartbeats 4000000 in
set_option maxRecDepth 100000 in
theorem m_greatestIndex (l : Launch) (g : G3) (b0 b1 b2 b3 b4 : Nat) (fi fq fp fs : Nat → Int32) (la d : Int32) : MI l yX4_greatestIndex wsX4_greatestIndex (rk 1 21) g [.ref b0, .int d] [(b0, oB 4 [.ref b1, .ref b2, .ref b3, .ref b4, .int la]), (b1, aI g 201 fi), (b2, aI g 201 fq), (b3, aI g 201 fp), (b4, aI g 201 fs)] (grC la d) [(b0, oB 4 [.ref b1, .ref b2, .ref b3, .ref b4, .int la]), (b1, aI g 201 fi), (b2, aI g 201 fq), (b3, aI g 201 fp), (b4, aI g 201 fs)] := by
  refine zWalk.met (Qc := fun A => zQi g (grC la d) [(b0, oB 4 [.ref b1, .ref b2, .ref b3, .ref b4, .int la]), (b1, aI g 201 fi), (b2, aI g 201 fq), (b3, aI g 201 fp), (b4, aI g 201 fs)] A) (cc := cX4_greatestIndex) (maxL := 2) (ret := (some .int)) ?_ (by decide) rfl (Nat.le_of_ble_eq_true rfl)
  intro pg ev sx mi args below meth cd A H locs ls hx hb hr hml hown hts hlocks hA hE hK hP hD hS hl
  have iX4 : ∀ w ∈ u_ws RX4 TX4 5, w ∈ wsX4_greatestIndex := (fun _ h => (List.mem_cons_of_mem _ (List.mem_append_right _ h)))
  have hl : lv_has ls 2 [(0, .ref b0), (1, .int d)] := hl
  refine lv_iload_n hx hb dX4_greatestIndex_0 rfl (lv_at hl 1 rfl) ?_
  refine lv_if_gt (tgt := 8) hx hb dX4_greatestIndex_1 (by decide) (fun c1 => ?_) (fun c1 => ?_)
  · refine lv_aload_n hx hb dX4_greatestIndex_8 rfl (lv_at hl 0 rfl) ?_
    refine va_get (D := g.1) (ci := 4) (v := .int la) (C := RX4) (T := TX4) (N := 5) hx hb hts iX4 hown hK hP 0 rfl rfl 4 (by decide) (hts (.fieldLink RX4 35 "StepAxis$Ramp" "last" "I") (List.mem_of_getElem? (i := 1) rfl)) (fun _ h9 => h9) rfl dX4_greatestIndex_9 ?_
    refine lv_iload_n hx hb dX4_greatestIndex_12 rfl (lv_at hl 1 rfl) ?_
    refine lv_iconst (v := 1) hx hb dX4_greatestIndex_13 (by decide +kernel) ?_
    refine lv_isub hx hb dX4_greatestIndex_14 ?_
    refine lv_iconst (v := 2) hx hb dX4_greatestIndex_15 (by decide +kernel) ?_
    refine lv_idiv hx hb dX4_greatestIndex_16 (by decide +kernel) ?_
    refine va_mmin hx hb (hml.trans hl.1.symm) hown (hts (.methodLink RX4 29 Lib.Math.min.name) (List.mem_of_getElem? (i := 2) rfl)) (hts (.static Lib.Math.min.name) (List.mem_of_getElem? (i := 3) rfl)) (hts (.initialized "java/lang/Math") (List.mem_of_getElem? (i := 4) rfl)) (hts (.code Lib.Math.min.name Lib.Math.min.code 2 (some .int)) (List.mem_of_getElem? (i := 5) rfl)) (Nat.le_of_ble_eq_true rfl) (Nat.le_of_ble_eq_true rfl) (Nat.zero_le _) (Nat.zero_le _) dX4_greatestIndex_17 ?_
    exact zEi (v := if ((d - 1) / 2) < la then ((d - 1) / 2) else la) (ws' := [(b0, oB 4 [.ref b1, .ref b2, .ref b3, .ref b4, .int la]), (b1, aI g 201 fi), (b2, aI g 201 fq), (b3, aI g 201 fp), (b4, aI g 201 fs)]) hx hb hlocks hr rfl hK hP hD hS [0, 1, 2, 3, 4] rfl rfl (if_pos c1).symm rfl dX4_greatestIndex_20
  · refine lv_iconst (v := 0) hx hb dX4_greatestIndex_4 (by decide +kernel) ?_
    refine lv_goto (tgt := 20) hx hb dX4_greatestIndex_5 (by decide) ?_
    exact zEi (v := 0) (ws' := [(b0, oB 4 [.ref b1, .ref b2, .ref b3, .ref b4, .int la]), (b1, aI g 201 fi), (b2, aI g 201 fq), (b3, aI g 201 fp), (b4, aI g 201 fs)]) hx hb hlocks hr rfl hK hP hD hS [0, 1, 2, 3, 4] rfl rfl (if_neg (zgt (zge c1))).symm rfl dX4_greatestIndex_20
set_option maxHeartbeats 4000000 in
set_option maxRecDepth 100000 in
theorem m_time (l : Launch) (g : G3) (b0 b1 b2 b3 b4 : Nat) (fi fq fp fs : Nat → Int32) (la d : Int32) : MI l yX4_time wsX4_time (rk 2 43) g [.ref b0, .int d] [(b0, oB 4 [.ref b1, .ref b2, .ref b3, .ref b4, .int la]), (b1, aI g 201 fi), (b2, aI g 201 fq), (b3, aI g 201 fp), (b4, aI g 201 fs)] (timeC fi fs la d) [(b0, oB 4 [.ref b1, .ref b2, .ref b3, .ref b4, .int la]), (b1, aI g 201 fi), (b2, aI g 201 fq), (b3, aI g 201 fp), (b4, aI g 201 fs)] := by
  refine zWalk.met (Qc := fun A => zQi g (timeC fi fs la d) [(b0, oB 4 [.ref b1, .ref b2, .ref b3, .ref b4, .int la]), (b1, aI g 201 fi), (b2, aI g 201 fq), (b3, aI g 201 fp), (b4, aI g 201 fs)] A) (cc := cX4_time) (maxL := 6) (ret := (some .int)) ?_ (by decide) rfl (Nat.le_of_ble_eq_true rfl)
  intro pg ev sx mi args below meth cd A H locs ls hx hb hr hml hown hts hlocks hA hE hK hP hD hS hl
  have iX4 : ∀ w ∈ u_ws RX4 TX4 5, w ∈ wsX4_time := (fun _ h => (List.mem_cons_of_mem _ (List.mem_append_right _ h)))
  have hl : lv_has ls 6 [(0, .ref b0), (1, .int d)] := hl
  refine lv_iload_n hx hb dX4_time_0 rfl (lv_at hl 1 rfl) ?_
  refine lv_iconst (v := 2) hx hb dX4_time_1 (by decide +kernel) ?_
  refine lv_idiv hx hb dX4_time_2 (by decide +kernel) ?_
  refine lv_istore_n (lv' := [(2, .int (d / 2)), (0, .ref b0), (1, .int d)]) hx hb dX4_time_3 rfl hl (by decide) rfl (fun ls hl => ?_)
  refine lv_iload_n hx hb dX4_time_4 rfl (lv_at hl 0 rfl) ?_
  refine lv_aload_n hx hb dX4_time_5 rfl (lv_at hl 1 rfl) ?_
  refine va_get (D := g.1) (ci := 4) (v := .int la) (C := RX4) (T := TX4) (N := 5) hx hb hts iX4 hown hK hP 0 rfl rfl 4 (by decide) (hts (.fieldLink RX4 35 "StepAxis$Ramp" "last" "I") (List.mem_of_getElem? (i := 1) rfl)) (fun _ h9 => h9) rfl dX4_time_6 ?_
  refine va_mmin hx hb (hml.trans hl.1.symm) hown (hts (.methodLink RX4 29 Lib.Math.min.name) (List.mem_of_getElem? (i := 2) rfl)) (hts (.static Lib.Math.min.name) (List.mem_of_getElem? (i := 3) rfl)) (hts (.initialized "java/lang/Math") (List.mem_of_getElem? (i := 4) rfl)) (hts (.code Lib.Math.min.name Lib.Math.min.code 2 (some .int)) (List.mem_of_getElem? (i := 5) rfl)) (Nat.le_of_ble_eq_true rfl) (Nat.le_of_ble_eq_true rfl) (Nat.zero_le _) (Nat.zero_le _) dX4_time_9 ?_
  refine lv_istore_n (lv' := [(3, .int (if la < (d / 2) then la else (d / 2))), (2, .int (d / 2)), (0, .ref b0), (1, .int d)]) hx hb dX4_time_12 rfl hl (by decide) rfl (fun ls hl => ?_)
  refine lv_aload_n hx hb dX4_time_13 rfl (lv_at hl 2 rfl) ?_
  refine lv_iload_n hx hb dX4_time_14 rfl (lv_at hl 0 rfl) ?_
  refine lv_iconst (v := 1) hx hb dX4_time_15 (by decide +kernel) ?_
  refine lv_isub hx hb dX4_time_16 ?_
  refine zVI (As := [.int ((if la < (d / 2) then la else (d / 2)) - 1)]) (rest := []) (wc := [(b0, oB 4 [.ref b1, .ref b2, .ref b3, .ref b4, .int la]), (b1, aI g 201 fi), (b2, aI g 201 fq), (b3, aI g 201 fp), (b4, aI g 201 fs)]) (wr := []) (wc' := [(b0, oB 4 [.ref b1, .ref b2, .ref b3, .ref b4, .int la]), (b1, aI g 201 fi), (b2, aI g 201 fq), (b3, aI g 201 fp), (b4, aI g 201 fs)]) ⟨hx, hb, hml, hown, hts⟩ (m_sum l g b0 b1 b2 b3 b4 fi fq fp fs la ((if la < (d / 2) then la else (d / 2)) - 1)) (cwV 1 hts gX4_time_X4_sum rfl rfl rfl (by decide +kernel) ⟨Nat.le_of_ble_eq_true rfl, Nat.le_of_ble_eq_true rfl⟩) hE hK hP hD hS hA 0 4 rfl rfl rfl [0, 1, 2, 3, 4] [] rfl rfl rfl rfl (by decide) rfl hl.1 rfl (lv_room (Nat.le_of_ble_eq_true rfl)) ⟨Nat.zero_le _, Nat.zero_le _⟩ dX4_time_17 (fun H locs hP hD hS => ?_)
  have hP : va_P g.1 vwCl [(b0, oB 4 [.ref b1, .ref b2, .ref b3, .ref b4, .int la]), (b1, aI g 201 fi), (b2, aI g 201 fq), (b3, aI g 201 fp), (b4, aI g 201 fs)] H := hP
  have hD : va_D A [(b0, oB 4 [.ref b1, .ref b2, .ref b3, .ref b4, .int la]), (b1, aI g 201 fi), (b2, aI g 201 fq), (b3, aI g 201 fp), (b4, aI g 201 fs)] := hD
  refine lv_iload_n hx hb dX4_time_20 rfl (lv_at hl 1 rfl) ?_
  refine lv_iload_n hx hb dX4_time_21 rfl (lv_at hl 0 rfl) ?_
  refine lv_isub hx hb dX4_time_22 ?_
  refine lv_aload_n hx hb dX4_time_23 rfl (lv_at hl 2 rfl) ?_
  refine lv_aload_n hx hb dX4_time_24 rfl (lv_at hl 2 rfl) ?_
  refine va_get (D := g.1) (ci := 4) (v := .int la) (C := RX4) (T := TX4) (N := 5) hx hb hts iX4 hown hK hP 0 rfl rfl 4 (by decide) (hts (.fieldLink RX4 35 "StepAxis$Ramp" "last" "I") (List.mem_of_getElem? (i := 1) rfl)) (fun _ h9 => h9) rfl dX4_time_25 ?_
  refine zVI (As := [.int la]) (rest := [.int ((d / 2) - (if la < (d / 2) then la else (d / 2))), .int (rget fs ((if la < (d / 2) then la else (d / 2)) - 1))]) (wc := [(b0, oB 4 [.ref b1, .ref b2, .ref b3, .ref b4, .int la]), (b1, aI g 201 fi), (b2, aI g 201 fq), (b3, aI g 201 fp), (b4, aI g 201 fs)]) (wr := []) (wc' := [(b0, oB 4 [.ref b1, .ref b2, .ref b3, .ref b4, .int la]), (b1, aI g 201 fi), (b2, aI g 201 fq), (b3, aI g 201 fp), (b4, aI g 201 fs)]) ⟨hx, hb, hml, hown, hts⟩ (m_interval l g b0 b1 b2 b3 b4 fi fq fp fs la la) (cwV 1 hts gX4_time_X4_interval rfl rfl rfl (by decide +kernel) ⟨Nat.le_of_ble_eq_true rfl, Nat.le_of_ble_eq_true rfl⟩) hE hK hP hD hS hA 0 4 rfl rfl rfl [0, 1, 2, 3, 4] [] rfl rfl rfl rfl (by decide) rfl hl.1 rfl (lv_room (Nat.le_of_ble_eq_true rfl)) ⟨Nat.zero_le _, Nat.zero_le _⟩ dX4_time_28 (fun H locs hP hD hS => ?_)
  have hP : va_P g.1 vwCl [(b0, oB 4 [.ref b1, .ref b2, .ref b3, .ref b4, .int la]), (b1, aI g 201 fi), (b2, aI g 201 fq), (b3, aI g 201 fp), (b4, aI g 201 fs)] H := hP
  have hD : va_D A [(b0, oB 4 [.ref b1, .ref b2, .ref b3, .ref b4, .int la]), (b1, aI g 201 fi), (b2, aI g 201 fq), (b3, aI g 201 fp), (b4, aI g 201 fs)] := hD
  refine lv_imul hx hb dX4_time_31 ?_
  refine lv_iadd hx hb dX4_time_32 ?_
  refine lv_istore (lv' := [(4, .int ((rget fs ((if la < (d / 2) then la else (d / 2)) - 1)) + (((d / 2) - (if la < (d / 2) then la else (d / 2))) * (rget fi la)))), (3, .int (if la < (d / 2) then la else (d / 2))), (2, .int (d / 2)), (0, .ref b0), (1, .int d)]) hx hb dX4_time_33 hl (by decide) rfl (fun ls hl => ?_)
  refine lv_iload_n hx hb dX4_time_35 rfl (lv_at hl 4 rfl) ?_
  refine lv_iconst (v := 2) hx hb dX4_time_36 (by decide +kernel) ?_
  refine lv_irem hx hb dX4_time_37 (by decide +kernel) ?_
  refine lv_if_ne (tgt := 45) hx hb dX4_time_38 (by decide) (fun c38 => ?_) (fun c38 => ?_)
  · refine lv_aload_n hx hb dX4_time_45 rfl (lv_at hl 3 rfl) ?_
    refine lv_iload_n hx hb dX4_time_46 rfl (lv_at hl 2 rfl) ?_
    refine lv_aload_n hx hb dX4_time_47 rfl (lv_at hl 3 rfl) ?_
    refine va_get (D := g.1) (ci := 4) (v := .int la) (C := RX4) (T := TX4) (N := 5) hx hb hts iX4 hown hK hP 0 rfl rfl 4 (by decide) (hts (.fieldLink RX4 35 "StepAxis$Ramp" "last" "I") (List.mem_of_getElem? (i := 1) rfl)) (fun _ h9 => h9) rfl dX4_time_48 ?_
    refine va_mmin hx hb (hml.trans hl.1.symm) hown (hts (.methodLink RX4 29 Lib.Math.min.name) (List.mem_of_getElem? (i := 2) rfl)) (hts (.static Lib.Math.min.name) (List.mem_of_getElem? (i := 3) rfl)) (hts (.initialized "java/lang/Math") (List.mem_of_getElem? (i := 4) rfl)) (hts (.code Lib.Math.min.name Lib.Math.min.code 2 (some .int)) (List.mem_of_getElem? (i := 5) rfl)) (Nat.le_of_ble_eq_true rfl) (Nat.le_of_ble_eq_true rfl) (Nat.zero_le _) (Nat.zero_le _) dX4_time_51 ?_
    refine zVI (As := [.int (if la < (d / 2) then la else (d / 2))]) (rest := []) (wc := [(b0, oB 4 [.ref b1, .ref b2, .ref b3, .ref b4, .int la]), (b1, aI g 201 fi), (b2, aI g 201 fq), (b3, aI g 201 fp), (b4, aI g 201 fs)]) (wr := []) (wc' := [(b0, oB 4 [.ref b1, .ref b2, .ref b3, .ref b4, .int la]), (b1, aI g 201 fi), (b2, aI g 201 fq), (b3, aI g 201 fp), (b4, aI g 201 fs)]) ⟨hx, hb, hml, hown, hts⟩ (m_interval l g b0 b1 b2 b3 b4 fi fq fp fs la (if la < (d / 2) then la else (d / 2))) (cwV 1 hts gX4_time_X4_interval rfl rfl rfl (by decide +kernel) ⟨Nat.le_of_ble_eq_true rfl, Nat.le_of_ble_eq_true rfl⟩) hE hK hP hD hS hA 0 4 rfl rfl rfl [0, 1, 2, 3, 4] [] rfl rfl rfl rfl (by decide) rfl hl.1 rfl (lv_room (Nat.le_of_ble_eq_true rfl)) ⟨Nat.zero_le _, Nat.zero_le _⟩ dX4_time_54 (fun H locs hP hD hS => ?_)
    have hP : va_P g.1 vwCl [(b0, oB 4 [.ref b1, .ref b2, .ref b3, .ref b4, .int la]), (b1, aI g 201 fi), (b2, aI g 201 fq), (b3, aI g 201 fp), (b4, aI g 201 fs)] H := hP
    have hD : va_D A [(b0, oB 4 [.ref b1, .ref b2, .ref b3, .ref b4, .int la]), (b1, aI g 201 fi), (b2, aI g 201 fq), (b3, aI g 201 fp), (b4, aI g 201 fs)] := hD
    refine lv_istore (lv' := [(5, .int (rget fi (if la < (d / 2) then la else (d / 2)))), (4, .int ((rget fs ((if la < (d / 2) then la else (d / 2)) - 1)) + (((d / 2) - (if la < (d / 2) then la else (d / 2))) * (rget fi la)))), (3, .int (if la < (d / 2) then la else (d / 2))), (2, .int (d / 2)), (0, .ref b0), (1, .int d)]) hx hb dX4_time_57 hl (by decide) rfl (fun ls hl => ?_)
    refine lv_iconst (v := 2) hx hb dX4_time_59 (by decide +kernel) ?_
    refine lv_iload hx hb dX4_time_60 (lv_at hl 1 rfl) ?_
    refine lv_imul hx hb dX4_time_62 ?_
    refine lv_iload hx hb dX4_time_63 (lv_at hl 0 rfl) ?_
    refine lv_iadd hx hb dX4_time_65 ?_
    exact zEi (v := (2 * ((rget fs ((if la < (d / 2) then la else (d / 2)) - 1)) + (((d / 2) - (if la < (d / 2) then la else (d / 2))) * (rget fi la)))) + (rget fi (if la < (d / 2) then la else (d / 2)))) (ws' := [(b0, oB 4 [.ref b1, .ref b2, .ref b3, .ref b4, .int la]), (b1, aI g 201 fi), (b2, aI g 201 fq), (b3, aI g 201 fp), (b4, aI g 201 fs)]) hx hb hlocks hr rfl hK hP hD hS [0, 1, 2, 3, 4] rfl rfl (by unfold timeC; rw [if_neg c38]) rfl dX4_time_66
  · refine lv_iconst (v := 0) hx hb dX4_time_41 (by decide +kernel) ?_
    refine lv_goto (tgt := 57) hx hb dX4_time_42 (by decide) ?_
    refine lv_istore (lv' := [(5, .int 0), (4, .int ((rget fs ((if la < (d / 2) then la else (d / 2)) - 1)) + (((d / 2) - (if la < (d / 2) then la else (d / 2))) * (rget fi la)))), (3, .int (if la < (d / 2) then la else (d / 2))), (2, .int (d / 2)), (0, .ref b0), (1, .int d)]) hx hb dX4_time_57 hl (by decide) rfl (fun ls hl => ?_)
    refine lv_iconst (v := 2) hx hb dX4_time_59 (by decide +kernel) ?_
    refine lv_iload hx hb dX4_time_60 (lv_at hl 1 rfl) ?_
    refine lv_imul hx hb dX4_time_62 ?_
    refine lv_iload hx hb dX4_time_63 (lv_at hl 0 rfl) ?_
    refine lv_iadd hx hb dX4_time_65 ?_
    exact zEi (v := (2 * ((rget fs ((if la < (d / 2) then la else (d / 2)) - 1)) + (((d / 2) - (if la < (d / 2) then la else (d / 2))) * (rget fi la)))) + 0) (ws' := [(b0, oB 4 [.ref b1, .ref b2, .ref b3, .ref b4, .int la]), (b1, aI g 201 fi), (b2, aI g 201 fq), (b3, aI g 201 fp), (b4, aI g 201 fs)]) hx hb hlocks hr rfl hK hP hD hS [0, 1, 2, 3, 4] rfl rfl (by unfold timeC; rw [if_pos c38]) rfl dX4_time_66
