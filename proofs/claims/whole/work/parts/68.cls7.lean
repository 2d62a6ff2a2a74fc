set_option maxHeartbeats 4000000 in
set_option maxRecDepth 100000 in
theorem m_bitsOf (l : Launch) (g : G3) (E u : Nat) (hE1 : 1 ≤ E) (hE2 : E ≤ 126) (hu : u < 8388608) : MI l yX3_bitsOf wsX3_bitsOf (rk 0 0) g [.float (fl E u)] [] (nI (E * 8388608 + u)) [] := by
  refine zWalk.met (Qc := fun A => zQi g (nI (E * 8388608 + u)) [] A) (cc := cX3_bitsOf) (maxL := 3) (ret := (some .int)) ?_ (by decide) rfl (Nat.le_of_ble_eq_true rfl)
  intro pg ev sx mi args below meth cd A H locs ls hx hb hr hml hown hts hlocks hA hE hK hP hD hS hl
  have hl : lv_has ls 3 [(0, .float (fl E u))] := hl
  refine lv_fload_n hx hb dX3_bitsOf_0 rfl (lv_at hl 0 rfl) ?_
  refine lv_fstore_n (lv' := [(1, .float (fl E u)), (0, .float (fl E u))]) hx hb dX3_bitsOf_1 rfl hl (by decide) rfl (fun ls hl => ?_)
  refine lv_bipush (v := 127) hx hb dX3_bitsOf_2 (by decide +kernel) ?_
  refine lv_istore_n (lv' := [(2, .int 127), (1, .float (fl E u)), (0, .float (fl E u))]) hx hb dX3_bitsOf_4 rfl hl (by decide) rfl (fun ls hl => ?_)
  have lp5 : ∀ (fu : Nat) (k : Nat) (i : Int32), (E ≤ k) → (k ≤ 127) → (i = nI (127 + E - k)) → (128 - k) < fu → ∀ (H : Heap) (locs : List Loc), va_P g.1 vwCl [] H → va_D A [] → va_S A sx.heap H locs → ∀ (ls : Array Slot), lv_has ls 3 [(2, .int i), (1, .float (fl k u)), (0, .float (fl E u))] → W pg l ev (rk 0 0) sx mi args below meth cd H locs 0 0 (MQ below (zQi g (nI (E * 8388608 + u)) [] A) args sx 0 0 A) (F0 mi 5 ls []) := by
    intro fu
    induction fu with
    | zero =>
      intro k i hk1 hk ei hmu
      exact absurd hmu (Nat.not_lt_zero _)
    | succ fu ih =>
      intro k i hk1 hk ei hmu H locs hP hD hS ls hl
      refine lv_fload_n hx hb dX3_bitsOf_5 rfl (lv_at hl 1 rfl) ?_
      refine lv_fconst1 hx hb dX3_bitsOf_6 ?_
      refine lv_fcmp hx hb dX3_bitsOf_7 ?_
      refine lv_if_ge (tgt := 26) hx hb dX3_bitsOf_8 (by decide) (fun c8 => ?_) (fun c8 => ?_)
      · have hk127 : k = 127 := Classical.byContradiction (fun z => absurd c8 (by rw [f_lt1 (by omega) (by omega) hu]; decide))
        rw [hk127] at hl
        have ei : i = nI E := by rw [ei, hk127]; exact congrArg nI (by omega)
        refine lv_iload_n hx hb dX3_bitsOf_26 rfl (lv_at hl 0 rfl) ?_
        refine lv_ldc hx hb hown (hts (.constant RX3 45 (8388608)) (List.mem_of_getElem? (i := 1) rfl)) dX3_bitsOf_27 ?_
        refine lv_imul hx hb dX3_bitsOf_29 ?_
        refine lv_fload_n hx hb dX3_bitsOf_30 rfl (lv_at hl 1 rfl) ?_
        refine lv_fconst1 hx hb dX3_bitsOf_31 ?_
        refine lv_fsub hx hb dX3_bitsOf_32 (f_tail hu).2.1 ?_
        refine lv_ldcf hx hb hown (hts (.constantFloat RX3 46 (1258291200)) (List.mem_of_getElem? (i := 2) rfl)) dX3_bitsOf_33 ?_
        refine lv_fmul hx hb dX3_bitsOf_35 (f_tail hu).2.2 ?_
        refine lv_f2i hx hb dX3_bitsOf_36 ?_
        refine zTop (y := nI u) (f_tail hu).1 ?_
        refine lv_iadd hx hb dX3_bitsOf_37 ?_
        exact zEi (v := (i * 8388608) + (nI u)) (ws' := []) hx hb hlocks hr rfl hK hP hD hS [] rfl rfl (by rw [ei, show (8388608 : Int32) = nI 8388608 from rfl, pk_mul, nI_add]) rfl dX3_bitsOf_38
      · have hlt : k ≤ 126 := by
          rcases Nat.lt_or_ge k 127 with z | z
          · omega
          · have z2 : k = 127 := by omega
            subst z2
            exact absurd (f_ge1 hu) c8
        refine lv_iload_n hx hb dX3_bitsOf_11 rfl (lv_at hl 0 rfl) ?_
        refine lv_iconst (v := 1) hx hb dX3_bitsOf_12 (by decide +kernel) ?_
        refine lv_icmp_le (tgt := 26) hx hb dX3_bitsOf_13 (by decide) (fun c13 => ?_) (fun c13 => ?_)
        · exact absurd c13 (by rw [ei, zle, znI (by omega), show (1 : Int32).toInt = 1 from by decide +kernel]; omega)
        · refine lv_fload_n hx hb dX3_bitsOf_16 rfl (lv_at hl 1 rfl) ?_
          refine lv_fconst2 hx hb dX3_bitsOf_17 ?_
          refine lv_fmul hx hb dX3_bitsOf_18 (by rw [f_dbl (by omega) (by omega) hu]; exact f_nf (by omega) hu) ?_
          refine zTopF (y := fl (k + 1) u) (f_dbl (by omega) (by omega) hu) ?_
          refine lv_fstore_n (lv' := [(1, .float (fl (k + 1) u)), (2, .int i), (0, .float (fl E u))]) hx hb dX3_bitsOf_19 rfl hl (by decide) rfl (fun ls hl => ?_)
          refine lv_iinc (v := i + (-1)) (lv' := [(2, .int (i + (-1))), (1, .float (fl (k + 1) u)), (0, .float (fl E u))]) hx hb dX3_bitsOf_20 hl (k := 1) rfl (by rfl) (by decide) rfl (fun ls hl => ?_)
          refine lv_goto (tgt := 5) hx hb dX3_bitsOf_23 (by decide) ?_
          exact ih (k + 1) (i + (-1)) (by omega) (by omega) (by rw [ei, ← Int32.sub_eq_add_neg, nI_m1 (by omega)]; exact congrArg nI (by omega)) (by omega) _ _ (zP_sub hP [] rfl) (hD.sub [] rfl rfl) hS ls (lv_sub hl [0, 1, 2] rfl)
  exact lp5 ((128 - E) + 1) E 127 (Nat.le_refl E) (by omega) (by rw [Nat.add_sub_cancel]; rfl) (Nat.lt_succ_self _) _ _ (zP_sub hP [] rfl) (hD.sub [] rfl rfl) hS ls (lv_sub hl [0, 1, 2] rfl)
set_option maxHeartbeats 4000000 in
set_option maxRecDepth 100000 in
theorem m_speed (l : Launch) (g : G3) (a6 a7 : Nat) (nm : Int32) (mv : Nat → Int32) (j : Int32) (hnm : 0 ≤ nm.toInt ∧ nm.toInt ≤ 5) (hmt : ¬ j < 0 → j < nm → mtQ (mv (5 * j.toInt.toNat)) (mv (5 * j.toInt.toNat + 1)) (mv (5 * j.toInt.toNat + 3))) : MI l yX3_speed wsX3_speed (rk 2 44) g [.ref a6, .int j] [(a6, oB 3 [.ref a7, .int nm]), (a7, aI g 25 mv)] (spR mv nm j) [(a6, oB 3 [.ref a7, .int nm]), (a7, aI g 25 mv)] := by
  refine zWalk.met (Qc := fun A => zQi g (spR mv nm j) [(a6, oB 3 [.ref a7, .int nm]), (a7, aI g 25 mv)] A) (cc := cX3_speed) (maxL := 4) (ret := (some .int)) ?_ (by decide) rfl (Nat.le_of_ble_eq_true rfl)
  intro pg ev sx mi args below meth cd A H locs ls hx hb hr hml hown hts hlocks hA hE hK hP hD hS hl
  have iX3 : ∀ w ∈ u_ws RX3 TX3 2, w ∈ wsX3_speed := (fun _ h => (List.mem_cons_of_mem _ (List.mem_append_right _ h)))
  have hl : lv_has ls 4 [(0, .ref a6), (1, .int j)] := hl
  refine lv_iload_n hx hb dX3_speed_0 rfl (lv_at hl 1 rfl) ?_
  refine lv_if_ge (tgt := 7) hx hb dX3_speed_1 (by decide) (fun c1 => ?_) (fun c1 => ?_)
  · have hj0 : ¬ j < 0 := zgt c1
    refine lv_iload_n hx hb dX3_speed_7 rfl (lv_at hl 1 rfl) ?_
    refine lv_aload_n hx hb dX3_speed_8 rfl (lv_at hl 0 rfl) ?_
    refine va_get (D := g.1) (ci := 3) (v := .int nm) (C := RX3) (T := TX3) (N := 2) hx hb hts iX3 hown hK hP 0 rfl rfl 1 (by decide) (hts (.fieldLink RX3 21 "StepAxis$Moves" "size" "I") (List.mem_of_getElem? (i := 2) rfl)) (fun _ h9 => h9) rfl dX3_speed_9 ?_
    refine lv_icmp_lt (tgt := 18) hx hb dX3_speed_12 (by decide) (fun c12 => ?_) (fun c12 => ?_)
    · have hq := hmt hj0 c12
      refine lv_aload_n hx hb dX3_speed_18 rfl (lv_at hl 0 rfl) ?_
      refine lv_iload_n hx hb dX3_speed_19 rfl (lv_at hl 1 rfl) ?_
      refine lv_iconst (v := 1) hx hb dX3_speed_20 (by decide +kernel) ?_
      refine zVI (As := [.int j, .int 1]) (rest := []) (wc := [(a6, oB 3 [.ref a7, .int nm]), (a7, aI g 25 mv)]) (wr := []) (wc' := [(a6, oB 3 [.ref a7, .int nm]), (a7, aI g 25 mv)]) ⟨hx, hb, hml, hown, hts⟩ (m_mpart l g a6 a7 nm mv j 1 hnm) (cwV 2 hts gX3_speed_X3_part rfl rfl rfl (by decide +kernel) ⟨Nat.le_of_ble_eq_true rfl, Nat.le_of_ble_eq_true rfl⟩) hE hK hP hD hS hA 0 3 rfl rfl rfl [0, 1] [] rfl rfl rfl rfl (by decide) rfl hl.1 rfl (lv_room (Nat.le_of_ble_eq_true rfl)) ⟨Nat.zero_le _, Nat.zero_le _⟩ dX3_speed_21 (fun H locs hP hD hS => ?_)
      have hP : va_P g.1 vwCl [(a6, oB 3 [.ref a7, .int nm]), (a7, aI g 25 mv)] H := hP
      have hD : va_D A [(a6, oB 3 [.ref a7, .int nm]), (a7, aI g 25 mv)] := hD
      refine zTop (y := mv (5 * j.toInt.toNat + 1)) (mvR_in (w := 1) hj0 c12 (by decide)) ?_
      refine lv_aload_n hx hb dX3_speed_24 rfl (lv_at hl 0 rfl) ?_
      refine lv_iload_n hx hb dX3_speed_25 rfl (lv_at hl 1 rfl) ?_
      refine lv_iconst (v := 0) hx hb dX3_speed_26 (by decide +kernel) ?_
      refine zVI (As := [.int j, .int 0]) (rest := [.int (mv (5 * j.toInt.toNat + 1))]) (wc := [(a6, oB 3 [.ref a7, .int nm]), (a7, aI g 25 mv)]) (wr := []) (wc' := [(a6, oB 3 [.ref a7, .int nm]), (a7, aI g 25 mv)]) ⟨hx, hb, hml, hown, hts⟩ (m_mpart l g a6 a7 nm mv j 0 hnm) (cwV 2 hts gX3_speed_X3_part rfl rfl rfl (by decide +kernel) ⟨Nat.le_of_ble_eq_true rfl, Nat.le_of_ble_eq_true rfl⟩) hE hK hP hD hS hA 0 3 rfl rfl rfl [0, 1] [] rfl rfl rfl rfl (by decide) rfl hl.1 rfl (lv_room (Nat.le_of_ble_eq_true rfl)) ⟨Nat.zero_le _, Nat.zero_le _⟩ dX3_speed_27 (fun H locs hP hD hS => ?_)
      have hP : va_P g.1 vwCl [(a6, oB 3 [.ref a7, .int nm]), (a7, aI g 25 mv)] H := hP
      have hD : va_D A [(a6, oB 3 [.ref a7, .int nm]), (a7, aI g 25 mv)] := hD
      refine zTop (y := mv (5 * j.toInt.toNat)) (mvR_in (w := 0) hj0 c12 (by decide)) ?_
      refine lv_isub hx hb dX3_speed_30 ?_
      refine va_mabs hx hb (hml.trans hl.1.symm) hown (hts (.methodLink RX3 35 Lib.Math.abs.name) (List.mem_of_getElem? (i := 4) rfl)) (hts (.static Lib.Math.abs.name) (List.mem_of_getElem? (i := 5) rfl)) (hts (.initialized "java/lang/Math") (List.mem_of_getElem? (i := 6) rfl)) (hts (.code Lib.Math.abs.name Lib.Math.abs.code 1 (some .int)) (List.mem_of_getElem? (i := 7) rfl)) (Nat.le_of_ble_eq_true rfl) (Nat.le_of_ble_eq_true rfl) (Nat.zero_le _) (Nat.zero_le _) dX3_speed_31 ?_
      refine zTop (y := nI (dist (mv (5 * j.toInt.toNat)) (mv (5 * j.toInt.toNat + 1)))) (way_abs hq.1 hq.2.1) ?_
      refine lv_istore_n (lv' := [(2, .int (nI (dist (mv (5 * j.toInt.toNat)) (mv (5 * j.toInt.toNat + 1))))), (0, .ref a6), (1, .int j)]) hx hb dX3_speed_34 rfl hl (by decide) rfl (fun ls hl => ?_)
      refine lv_aload_n hx hb dX3_speed_35 rfl (lv_at hl 1 rfl) ?_
      refine lv_iload_n hx hb dX3_speed_36 rfl (lv_at hl 2 rfl) ?_
      refine lv_iconst (v := 3) hx hb dX3_speed_37 (by decide +kernel) ?_
      refine zVI (As := [.int j, .int 3]) (rest := []) (wc := [(a6, oB 3 [.ref a7, .int nm]), (a7, aI g 25 mv)]) (wr := []) (wc' := [(a6, oB 3 [.ref a7, .int nm]), (a7, aI g 25 mv)]) ⟨hx, hb, hml, hown, hts⟩ (m_mpart l g a6 a7 nm mv j 3 hnm) (cwV 2 hts gX3_speed_X3_part rfl rfl rfl (by decide +kernel) ⟨Nat.le_of_ble_eq_true rfl, Nat.le_of_ble_eq_true rfl⟩) hE hK hP hD hS hA 0 3 rfl rfl rfl [0, 1] [] rfl rfl rfl rfl (by decide) rfl hl.1 rfl (lv_room (Nat.le_of_ble_eq_true rfl)) ⟨Nat.zero_le _, Nat.zero_le _⟩ dX3_speed_38 (fun H locs hP hD hS => ?_)
      have hP : va_P g.1 vwCl [(a6, oB 3 [.ref a7, .int nm]), (a7, aI g 25 mv)] H := hP
      have hD : va_D A [(a6, oB 3 [.ref a7, .int nm]), (a7, aI g 25 mv)] := hD
      refine zTop (y := mv (5 * j.toInt.toNat + 3)) (mvR_in (w := 3) hj0 c12 (by decide)) ?_
      refine lv_istore_n (lv' := [(3, .int (mv (5 * j.toInt.toNat + 3))), (2, .int (nI (dist (mv (5 * j.toInt.toNat)) (mv (5 * j.toInt.toNat + 1))))), (0, .ref a6), (1, .int j)]) hx hb dX3_speed_41 rfl hl (by decide) rfl (fun ls hl => ?_)
      refine lv_iload_n hx hb dX3_speed_42 rfl (lv_at hl 1 rfl) ?_
      refine lv_if_eq (tgt := 50) hx hb dX3_speed_43 (by decide) (fun c43 => ?_) (fun c43 => ?_)
      · refine lv_ldc hx hb hown (hts (.constant RX3 30 (-1000004)) (List.mem_of_getElem? (i := 3) rfl)) dX3_speed_50 ?_
        exact zEi (v := (-1000004)) (ws' := [(a6, oB 3 [.ref a7, .int nm]), (a7, aI g 25 mv)]) hx hb hlocks hr rfl hK hP hD hS [0, 1] rfl rfl (by unfold spR; rw [if_neg hj0, if_pos c12, if_pos (dist_0.mp ((nI_eq (by have := dist_le hq.1 hq.2.1; omega) (by decide)).mp c43))]) rfl dX3_speed_52
      · have hne : ¬ mv (5 * j.toInt.toNat) = mv (5 * j.toInt.toNat + 1) := fun z => c43 (by rw [dist_0.mpr z]; rfl)
        obtain ⟨E, u, hfl, hE1, hE2, hu, hbits⟩ := sp_fl hq hne
        refine lv_iload_n hx hb dX3_speed_46 rfl (lv_at hl 0 rfl) ?_
        refine lv_if_gt (tgt := 53) hx hb dX3_speed_47 (by decide) (fun c47 => ?_) (fun c47 => ?_)
        · refine lv_iload_n hx hb dX3_speed_53 rfl (lv_at hl 1 rfl) ?_
          refine lv_i2f hx hb dX3_speed_54 ?_
          refine lv_iload_n hx hb dX3_speed_55 rfl (lv_at hl 0 rfl) ?_
          refine lv_i2f hx hb dX3_speed_56 ?_
          refine lv_fdiv hx hb dX3_speed_57 (by rw [hfl]; exact f_nf (by omega) hu) ?_
          refine zTopF (y := fl E u) hfl ?_
          refine zSI (As := [.float (fl E u)]) (rest := []) (wc := []) (wr := [(a6, oB 3 [.ref a7, .int nm]), (a7, aI g 25 mv)]) (wc' := []) ⟨hx, hb, hml, hown, hts⟩ (m_bitsOf l g E u hE1 hE2 hu) (va_cwS 1 hts gX3_speed_X3_bitsOf rfl rfl rfl (by decide +kernel) ⟨Nat.le_of_ble_eq_true rfl, Nat.le_of_ble_eq_true rfl⟩) hE hK hP hD hS hA [] [0, 1] rfl rfl rfl rfl (by decide) rfl hl.1 rfl (lv_room (Nat.le_of_ble_eq_true rfl)) ⟨Nat.zero_le _, Nat.zero_le _⟩ dX3_speed_58 (fun H locs hP hD hS => ?_)
          have hP : va_P g.1 vwCl [(a6, oB 3 [.ref a7, .int nm]), (a7, aI g 25 mv)] H := hP
          have hD : va_D A [(a6, oB 3 [.ref a7, .int nm]), (a7, aI g 25 mv)] := hD
          exact zEi (v := nI (E * 8388608 + u)) (ws' := [(a6, oB 3 [.ref a7, .int nm]), (a7, aI g 25 mv)]) hx hb hlocks hr rfl hK hP hD hS [0, 1] rfl rfl (by unfold spR; rw [if_neg hj0, if_pos c12, if_neg hne]; exact hbits.symm) rfl dX3_speed_61
        · exact absurd (sp_t hq hne) c47
    · refine lv_ldc hx hb hown (hts (.constant RX3 30 (-1000004)) (List.mem_of_getElem? (i := 3) rfl)) dX3_speed_15 ?_
      exact zEi (v := (-1000004)) (ws' := [(a6, oB 3 [.ref a7, .int nm]), (a7, aI g 25 mv)]) hx hb hlocks hr rfl hK hP hD hS [0, 1] rfl rfl (by unfold spR; rw [if_neg hj0, if_neg c12]) rfl dX3_speed_17
  · refine lv_ldc hx hb hown (hts (.constant RX3 29 (-1000001)) (List.mem_of_getElem? (i := 1) rfl)) dX3_speed_4 ?_
    exact zEi (v := (-1000001)) (ws' := [(a6, oB 3 [.ref a7, .int nm]), (a7, aI g 25 mv)]) hx hb hlocks hr rfl hK hP hD hS [0, 1] rfl rfl (by unfold spR; rw [if_pos (znle c1)]) rfl dX3_speed_6
set_option maxHeartbeats 4000000 in
set_option maxRecDepth 100000 in
theorem j_isNaN (l : Launch) (g : G3) (E u : Nat) (hE1 : 1 ≤ E) (hE2 : E ≤ 254) (hu : u < 8388608) : MI l yJxf58ca_isNaN_12338 wsJxf58ca_isNaN_12338 (rk 0 0) g [.float (fl E u)] [] 0 [] := by
  refine zWalk.metF (Qc := fun A => zQi g 0 [] A) (cc := cJxf58ca_isNaN_12338) (maxL := 1) (ret := (some .boolean)) ?_ (by decide +kernel) rfl (Nat.le_of_ble_eq_true rfl)
  intro pg ev sx mi args below meth cd A H locs ls hx hb hr hml hown hts hlocks hA hE hK hP hD hS hl
  have hl : lv_has ls 1 [(0, .float (fl E u))] := hl
  refine lv_fload_n hx hb dJxf58ca_isNaN_12338_0 rfl (lv_at hl 0 rfl) ?_
  refine lv_fload_n hx hb dJxf58ca_isNaN_12338_1 rfl (lv_at hl 0 rfl) ?_
  refine lv_fcmp hx hb dJxf58ca_isNaN_12338_2 ?_
  refine zTop (y := 0) (f_self hE1 hE2 hu) ?_
  refine lv_if_eq (tgt := 10) hx hb dJxf58ca_isNaN_12338_3 (by decide) (fun c3 => ?_) (fun c3 => ?_)
  · refine lv_iconst (v := 0) hx hb dJxf58ca_isNaN_12338_10 (by decide +kernel) ?_
    exact zEi (v := 0) (ws' := []) hx hb hlocks hr rfl hK hP hD hS [] rfl rfl rfl rfl dJxf58ca_isNaN_12338_11
  · exact absurd c3 (by decide)
set_option maxHeartbeats 4000000 in
set_option maxRecDepth 100000 in
theorem j_bits (l : Launch) (g : G3) (E u : Nat) (hE1 : 1 ≤ E) (hE2 : E ≤ 254) (hu : u < 8388608) : MI l yJxf58ca_floatToIntBits_5c35a wsJxf58ca_floatToIntBits_5c35a (rk 1 60) g [.float (fl E u)] [] (nI (E * 8388608 + u)) [] := by
  refine zWalk.metF (Qc := fun A => zQi g (nI (E * 8388608 + u)) [] A) (cc := cJxf58ca_floatToIntBits_5c35a) (maxL := 1) (ret := (some .int)) ?_ (by decide +kernel) rfl (Nat.le_of_ble_eq_true rfl)
  intro pg ev sx mi args below meth cd A H locs ls hx hb hr hml hown hts hlocks hA hE hK hP hD hS hl
  have hl : lv_has ls 1 [(0, .float (fl E u))] := hl
  refine lv_fload_n hx hb dJxf58ca_floatToIntBits_5c35a_0 rfl (lv_at hl 0 rfl) ?_
  refine zSI (As := [.float (fl E u)]) (rest := []) (wc := []) (wr := []) (wc' := []) ⟨hx, hb, hml, hown, hts⟩ (j_isNaN l g E u hE1 (by omega) hu) (va_cwS 1 hts gJxf58ca_floatToIntBits_5c35a_Jxf58ca_isNaN_12338 rfl rfl rfl (by decide +kernel) ⟨Nat.le_of_ble_eq_true rfl, Nat.le_of_ble_eq_true rfl⟩) hE hK hP hD hS hA [] [] rfl rfl rfl rfl (by decide) rfl hl.1 rfl (lv_room (Nat.le_of_ble_eq_true rfl)) ⟨Nat.zero_le _, Nat.zero_le _⟩ dJxf58ca_floatToIntBits_5c35a_1 (fun H locs hP hD hS => ?_)
  have hP : va_P g.1 vwCl [] H := hP
  have hD : va_D A [] := hD
  refine lv_if_ne (tgt := 12) hx hb dJxf58ca_floatToIntBits_5c35a_4 (by decide) (fun c4 => ?_) (fun c4 => ?_)
  · exact absurd c4 (by decide)
  · refine lv_fload_n hx hb dJxf58ca_floatToIntBits_5c35a_7 rfl (lv_at hl 0 rfl) ?_
    refine vn_f2i hx hb (hml.trans hl.1.symm) hown (hts (.methodLink RJxf58ca 74 ⟨"java/lang/Float", "floatToRawIntBits", "(F)I"⟩) (List.mem_of_getElem? (i := 1) rfl)) (hts (.native ⟨"java/lang/Float", "floatToRawIntBits", "(F)I"⟩) (List.mem_of_getElem? (i := 2) rfl)) (hts (.static ⟨"java/lang/Float", "floatToRawIntBits", "(F)I"⟩) (List.mem_of_getElem? (i := 3) rfl)) (hts (.initialized "java/lang/Float") (List.mem_of_getElem? (i := 4) rfl)) (Nat.le_of_ble_eq_true rfl) (Nat.le_of_ble_eq_true rfl) dJxf58ca_floatToIntBits_5c35a_8 ?_
    refine zTop (y := nI (E * 8388608 + u)) (f_bits hE2 hu) ?_
    exact zEi (v := nI (E * 8388608 + u)) (ws' := []) hx hb hlocks hr rfl hK hP hD hS [] rfl rfl rfl rfl dJxf58ca_floatToIntBits_5c35a_11
set_option maxHeartbeats 4000000 in
set_option maxRecDepth 100000 in
theorem r_speedBits (l : Launch) (g : G3) (m0 m1 m2 m3 m4 m5 m6 m7 m8 : Nat) (ps rn ty la mn ma sn so ca cm kd : Int32) (S : Nat → Int32) (j : Int32) (hnm : 0 ≤ (S 37).toInt ∧ (S 37).toInt ≤ 5) (hmt : ¬ j < 0 → j < S 37 → mtQ (S (38 + 5 * j.toInt.toNat)) (S (38 + 5 * j.toInt.toNat + 1)) (S (38 + 5 * j.toInt.toNat + 3))) : MI l yX9_speedBits wsX9_speedBits (rk 2 80) g [.ref m0, .int j] [(m0, oB 9 [.ref m1, .ref m2, .ref m3, .ref m4, .int ps, .int rn, .ref m5, .int ty, .ref m6, .ref m7, .int la, .int mn, .int ma, .int sn, .int so, .int ca, .int cm, .int kd, .ref m8]), (m1, aI g 63 S)] (spR (mvS S) (S 37) j) [(m0, oB 9 [.ref m1, .ref m2, .ref m3, .ref m4, .int ps, .int rn, .ref m5, .int ty, .ref m6, .ref m7, .int la, .int mn, .int ma, .int sn, .int so, .int ca, .int cm, .int kd, .ref m8]), (m1, aI g 63 S)] := by
  refine zWalk.met (Qc := fun A => zQi g (spR (mvS S) (S 37) j) [(m0, oB 9 [.ref m1, .ref m2, .ref m3, .ref m4, .int ps, .int rn, .ref m5, .int ty, .ref m6, .ref m7, .int la, .int mn, .int ma, .int sn, .int so, .int ca, .int cm, .int kd, .ref m8]), (m1, aI g 63 S)] A) (cc := cX9_speedBits) (maxL := 4) (ret := (some .int)) ?_ (by decide) rfl (Nat.le_of_ble_eq_true rfl)
  intro pg ev sx mi args below meth cd A H locs ls hx hb hr hml hown hts hlocks hA hE hK hP hD hS hl
  have iX9 : ∀ w ∈ u_ws RX9 TX9 19, w ∈ wsX9_speedBits := (fun _ h => (List.mem_cons_of_mem _ (List.mem_append_right _ h)))
  have hl : lv_has ls 4 [(0, .ref m0), (1, .int j)] := hl
  refine lv_iload_n hx hb dX9_speedBits_0 rfl (lv_at hl 1 rfl) ?_
  refine lv_if_ge (tgt := 7) hx hb dX9_speedBits_1 (by decide) (fun c1 => ?_) (fun c1 => ?_)
  · have hj0 : ¬ j < 0 := zgt c1
    refine lv_iload_n hx hb dX9_speedBits_7 rfl (lv_at hl 1 rfl) ?_
    refine lv_aload_n hx hb dX9_speedBits_8 rfl (lv_at hl 0 rfl) ?_
    refine va_get (D := g.1) (ci := 9) (v := .ref m1) (C := RX9) (T := TX9) (N := 19) hx hb hts iX9 hown hK hP 0 rfl rfl 0 (by decide) (hts (.fieldLink RX9 7 "StepAxisModel" "s" "[I") (List.mem_of_getElem? (i := 2) rfl)) (fun _ h9 => h9) rfl dX9_speedBits_9 ?_
    refine lv_bipush (v := 37) hx hb dX9_speedBits_12 (by decide +kernel) ?_
    refine zald (k := 37) hx hb hK hP 1 0 rfl rfl (IX.lit (by decide +kernel)) dX9_speedBits_14 ?_
    refine lv_icmp_ge (tgt := 45) hx hb dX9_speedBits_15 (by decide) (fun c15 => ?_) (fun c15 => ?_)
    · refine lv_ldc hx hb hown (hts (.constant RX9 59 (-1000004)) (List.mem_of_getElem? (i := 3) rfl)) dX9_speedBits_45 ?_
      exact zEi (v := (-1000004)) (ws' := [(m0, oB 9 [.ref m1, .ref m2, .ref m3, .ref m4, .int ps, .int rn, .ref m5, .int ty, .ref m6, .ref m7, .int la, .int mn, .int ma, .int sn, .int so, .int ca, .int cm, .int kd, .ref m8]), (m1, aI g 63 S)]) hx hb hlocks hr rfl hK hP hD hS [0, 1] rfl rfl (by unfold spR; rw [if_neg hj0, if_neg (zgt c15)]) rfl dX9_speedBits_47
    · have hjn : j < S 37 := znle c15
      have hj5 : j.toInt < 5 := by rw [zlt] at hjn; omega
      have hq := hmt hj0 hjn
      refine lv_aload_n hx hb dX9_speedBits_18 rfl (lv_at hl 0 rfl) ?_
      refine va_get (D := g.1) (ci := 9) (v := .ref m1) (C := RX9) (T := TX9) (N := 19) hx hb hts iX9 hown hK hP 0 rfl rfl 0 (by decide) (hts (.fieldLink RX9 7 "StepAxisModel" "s" "[I") (List.mem_of_getElem? (i := 2) rfl)) (fun _ h9 => h9) rfl dX9_speedBits_19 ?_
      refine lv_bipush (v := 38) hx hb dX9_speedBits_22 (by decide +kernel) ?_
      refine lv_iconst (v := 5) hx hb dX9_speedBits_24 (by decide +kernel) ?_
      refine lv_iload_n hx hb dX9_speedBits_25 rfl (lv_at hl 1 rfl) ?_
      refine lv_imul hx hb dX9_speedBits_26 ?_
      refine lv_iadd hx hb dX9_speedBits_27 ?_
      refine zald (k := (38 + 5 * j.toInt.toNat)) hx hb hK hP 1 0 rfl rfl (IX.of (sp_i0 hj0 hj5).1 (sp_i0 hj0 hj5).2 (by decide)) dX9_speedBits_28 ?_
      refine lv_aload_n hx hb dX9_speedBits_29 rfl (lv_at hl 0 rfl) ?_
      refine va_get (D := g.1) (ci := 9) (v := .ref m1) (C := RX9) (T := TX9) (N := 19) hx hb hts iX9 hown hK hP 0 rfl rfl 0 (by decide) (hts (.fieldLink RX9 7 "StepAxisModel" "s" "[I") (List.mem_of_getElem? (i := 2) rfl)) (fun _ h9 => h9) rfl dX9_speedBits_30 ?_
      refine lv_bipush (v := 38) hx hb dX9_speedBits_33 (by decide +kernel) ?_
      refine lv_iconst (v := 5) hx hb dX9_speedBits_35 (by decide +kernel) ?_
      refine lv_iload_n hx hb dX9_speedBits_36 rfl (lv_at hl 1 rfl) ?_
      refine lv_imul hx hb dX9_speedBits_37 ?_
      refine lv_iadd hx hb dX9_speedBits_38 ?_
      refine lv_iconst (v := 1) hx hb dX9_speedBits_39 (by decide +kernel) ?_
      refine lv_iadd hx hb dX9_speedBits_40 ?_
      refine zald (k := (38 + 5 * j.toInt.toNat + 1)) hx hb hK hP 1 0 rfl rfl (IX.of (sp_i (w := 1) hj0 hj5 (by decide)).1 (sp_i (w := 1) hj0 hj5 (by decide)).2 (by decide)) dX9_speedBits_41 ?_
      refine lv_icmp_ne (tgt := 48) hx hb dX9_speedBits_42 (by decide) (fun c42 => ?_) (fun c42 => ?_)
      · have hne : ¬ S (38 + 5 * j.toInt.toNat) = S (38 + 5 * j.toInt.toNat + 1) := c42
        obtain ⟨E, u, hfl, hE1, hE2, hu, hbits⟩ := sp_fl hq hne
        refine lv_aload_n hx hb dX9_speedBits_48 rfl (lv_at hl 0 rfl) ?_
        refine va_get (D := g.1) (ci := 9) (v := .ref m1) (C := RX9) (T := TX9) (N := 19) hx hb hts iX9 hown hK hP 0 rfl rfl 0 (by decide) (hts (.fieldLink RX9 7 "StepAxisModel" "s" "[I") (List.mem_of_getElem? (i := 2) rfl)) (fun _ h9 => h9) rfl dX9_speedBits_49 ?_
        refine lv_bipush (v := 38) hx hb dX9_speedBits_52 (by decide +kernel) ?_
        refine lv_iconst (v := 5) hx hb dX9_speedBits_54 (by decide +kernel) ?_
        refine lv_iload_n hx hb dX9_speedBits_55 rfl (lv_at hl 1 rfl) ?_
        refine lv_imul hx hb dX9_speedBits_56 ?_
        refine lv_iadd hx hb dX9_speedBits_57 ?_
        refine lv_iconst (v := 1) hx hb dX9_speedBits_58 (by decide +kernel) ?_
        refine lv_iadd hx hb dX9_speedBits_59 ?_
        refine zald (k := (38 + 5 * j.toInt.toNat + 1)) hx hb hK hP 1 0 rfl rfl (IX.of (sp_i (w := 1) hj0 hj5 (by decide)).1 (sp_i (w := 1) hj0 hj5 (by decide)).2 (by decide)) dX9_speedBits_60 ?_
        refine lv_aload_n hx hb dX9_speedBits_61 rfl (lv_at hl 0 rfl) ?_
        refine va_get (D := g.1) (ci := 9) (v := .ref m1) (C := RX9) (T := TX9) (N := 19) hx hb hts iX9 hown hK hP 0 rfl rfl 0 (by decide) (hts (.fieldLink RX9 7 "StepAxisModel" "s" "[I") (List.mem_of_getElem? (i := 2) rfl)) (fun _ h9 => h9) rfl dX9_speedBits_62 ?_
        refine lv_bipush (v := 38) hx hb dX9_speedBits_65 (by decide +kernel) ?_
        refine lv_iconst (v := 5) hx hb dX9_speedBits_67 (by decide +kernel) ?_
        refine lv_iload_n hx hb dX9_speedBits_68 rfl (lv_at hl 1 rfl) ?_
        refine lv_imul hx hb dX9_speedBits_69 ?_
        refine lv_iadd hx hb dX9_speedBits_70 ?_
        refine zald (k := (38 + 5 * j.toInt.toNat)) hx hb hK hP 1 0 rfl rfl (IX.of (sp_i0 hj0 hj5).1 (sp_i0 hj0 hj5).2 (by decide)) dX9_speedBits_71 ?_
        refine lv_isub hx hb dX9_speedBits_72 ?_
        refine lv_istore_n (lv' := [(2, .int ((S (38 + 5 * j.toInt.toNat + 1)) - (S (38 + 5 * j.toInt.toNat)))), (0, .ref m0), (1, .int j)]) hx hb dX9_speedBits_73 rfl hl (by decide) rfl (fun ls hl => ?_)
        refine lv_iload_n hx hb dX9_speedBits_74 rfl (lv_at hl 0 rfl) ?_
        have j84 : ∀ (H : Heap) (locs : List Loc), va_P g.1 vwCl [(m0, oB 9 [.ref m1, .ref m2, .ref m3, .ref m4, .int ps, .int rn, .ref m5, .int ty, .ref m6, .ref m7, .int la, .int mn, .int ma, .int sn, .int so, .int ca, .int cm, .int kd, .ref m8]), (m1, aI g 63 S)] H → va_D A [(m0, oB 9 [.ref m1, .ref m2, .ref m3, .ref m4, .int ps, .int rn, .ref m5, .int ty, .ref m6, .ref m7, .int la, .int mn, .int ma, .int sn, .int so, .int ca, .int cm, .int kd, .ref m8]), (m1, aI g 63 S)] → va_S A sx.heap H locs → ∀ (ls : Array Slot), lv_has ls 4 [(2, .int ((S (38 + 5 * j.toInt.toNat + 1)) - (S (38 + 5 * j.toInt.toNat)))), (0, .ref m0), (1, .int j)] → W pg l ev (rk 2 80) sx mi args below meth cd H locs 0 0 (MQ below (zQi g (spR (mvS S) (S 37) j) [(m0, oB 9 [.ref m1, .ref m2, .ref m3, .ref m4, .int ps, .int rn, .ref m5, .int ty, .ref m6, .ref m7, .int la, .int mn, .int ma, .int sn, .int so, .int ca, .int cm, .int kd, .ref m8]), (m1, aI g 63 S)] A) args sx 0 0 A) (F0 mi 84 ls [.int (nI (dist (S (38 + 5 * j.toInt.toNat)) (S (38 + 5 * j.toInt.toNat + 1))))]) := by
          intro H locs hP hD hS ls hl
          refine lv_i2f hx hb dX9_speedBits_84 ?_
          refine lv_aload_n hx hb dX9_speedBits_85 rfl (lv_at hl 1 rfl) ?_
          refine va_get (D := g.1) (ci := 9) (v := .ref m1) (C := RX9) (T := TX9) (N := 19) hx hb hts iX9 hown hK hP 0 rfl rfl 0 (by decide) (hts (.fieldLink RX9 7 "StepAxisModel" "s" "[I") (List.mem_of_getElem? (i := 2) rfl)) (fun _ h9 => h9) rfl dX9_speedBits_86 ?_
          refine lv_bipush (v := 38) hx hb dX9_speedBits_89 (by decide +kernel) ?_
          refine lv_iconst (v := 5) hx hb dX9_speedBits_91 (by decide +kernel) ?_
          refine lv_iload_n hx hb dX9_speedBits_92 rfl (lv_at hl 2 rfl) ?_
          refine lv_imul hx hb dX9_speedBits_93 ?_
          refine lv_iadd hx hb dX9_speedBits_94 ?_
          refine lv_iconst (v := 3) hx hb dX9_speedBits_95 (by decide +kernel) ?_
          refine lv_iadd hx hb dX9_speedBits_96 ?_
          refine zald (k := (38 + 5 * j.toInt.toNat + 3)) hx hb hK hP 1 0 rfl rfl (IX.of (sp_i (w := 3) hj0 hj5 (by decide)).1 (sp_i (w := 3) hj0 hj5 (by decide)).2 (by decide)) dX9_speedBits_97 ?_
          refine lv_i2f hx hb dX9_speedBits_98 ?_
          refine lv_fdiv hx hb dX9_speedBits_99 (by rw [hfl]; exact f_nf (by omega) hu) ?_
          refine zTopF (y := fl E u) hfl ?_
          refine lv_fstore_n (lv' := [(3, .float (fl E u)), (2, .int ((S (38 + 5 * j.toInt.toNat + 1)) - (S (38 + 5 * j.toInt.toNat)))), (0, .ref m0), (1, .int j)]) hx hb dX9_speedBits_100 rfl hl (by decide) rfl (fun ls hl => ?_)
          refine lv_fload_n hx hb dX9_speedBits_101 rfl (lv_at hl 0 rfl) ?_
          refine zSI (As := [.float (fl E u)]) (rest := []) (wc := []) (wr := [(m0, oB 9 [.ref m1, .ref m2, .ref m3, .ref m4, .int ps, .int rn, .ref m5, .int ty, .ref m6, .ref m7, .int la, .int mn, .int ma, .int sn, .int so, .int ca, .int cm, .int kd, .ref m8]), (m1, aI g 63 S)]) (wc' := []) ⟨hx, hb, hml, hown, hts⟩ (j_bits l g E u hE1 (by omega) hu) (va_cwS 1 hts gX9_speedBits_Jxf58ca_floatToIntBits_5c35a rfl rfl rfl (by decide +kernel) ⟨Nat.le_of_ble_eq_true rfl, Nat.le_of_ble_eq_true rfl⟩) hE hK hP hD hS hA [] [0, 1] rfl rfl rfl rfl (by decide) rfl hl.1 rfl (lv_room (Nat.le_of_ble_eq_true rfl)) ⟨Nat.zero_le _, Nat.zero_le _⟩ dX9_speedBits_102 (fun H locs hP hD hS => ?_)
          have hP : va_P g.1 vwCl [(m0, oB 9 [.ref m1, .ref m2, .ref m3, .ref m4, .int ps, .int rn, .ref m5, .int ty, .ref m6, .ref m7, .int la, .int mn, .int ma, .int sn, .int so, .int ca, .int cm, .int kd, .ref m8]), (m1, aI g 63 S)] H := hP
          have hD : va_D A [(m0, oB 9 [.ref m1, .ref m2, .ref m3, .ref m4, .int ps, .int rn, .ref m5, .int ty, .ref m6, .ref m7, .int la, .int mn, .int ma, .int sn, .int so, .int ca, .int cm, .int kd, .ref m8]), (m1, aI g 63 S)] := hD
          exact zEi (v := nI (E * 8388608 + u)) (ws' := [(m0, oB 9 [.ref m1, .ref m2, .ref m3, .ref m4, .int ps, .int rn, .ref m5, .int ty, .ref m6, .ref m7, .int la, .int mn, .int ma, .int sn, .int so, .int ca, .int cm, .int kd, .ref m8]), (m1, aI g 63 S)]) hx hb hlocks hr rfl hK hP hD hS [0, 1] rfl rfl (by unfold spR; rw [if_neg hj0, if_pos hjn, if_neg (show ¬ mvS S (5 * j.toInt.toNat) = mvS S (5 * j.toInt.toNat + 1) from hne)]; exact hbits.symm) rfl dX9_speedBits_105
        refine lv_if_ge (tgt := 83) hx hb dX9_speedBits_75 (by decide) (fun c75 => ?_) (fun c75 => ?_)
        · refine lv_iload_n hx hb dX9_speedBits_83 rfl (lv_at hl 0 rfl) ?_
          refine zTop (y := nI (dist (S (38 + 5 * j.toInt.toNat)) (S (38 + 5 * j.toInt.toNat + 1)))) ((sp_ab hq.1 hq.2.1).1 c75) ?_
          exact j84 _ _ (zP_sub hP [0, 1] rfl) (hD.sub [0, 1] rfl rfl) hS ls (lv_sub hl [0, 1, 2] rfl)
        · refine lv_iload_n hx hb dX9_speedBits_78 rfl (lv_at hl 0 rfl) ?_
          refine lv_ineg hx hb dX9_speedBits_79 ?_
          refine lv_goto (tgt := 84) hx hb dX9_speedBits_80 (by decide) ?_
          refine zTop (y := nI (dist (S (38 + 5 * j.toInt.toNat)) (S (38 + 5 * j.toInt.toNat + 1)))) ((sp_ab hq.1 hq.2.1).2 c75) ?_
          exact j84 _ _ (zP_sub hP [0, 1] rfl) (hD.sub [0, 1] rfl rfl) hS ls (lv_sub hl [0, 1, 2] rfl)
      · have c42n : S (38 + 5 * j.toInt.toNat) = S (38 + 5 * j.toInt.toNat + 1) := c42
        refine lv_ldc hx hb hown (hts (.constant RX9 59 (-1000004)) (List.mem_of_getElem? (i := 3) rfl)) dX9_speedBits_45 ?_
        exact zEi (v := (-1000004)) (ws' := [(m0, oB 9 [.ref m1, .ref m2, .ref m3, .ref m4, .int ps, .int rn, .ref m5, .int ty, .ref m6, .ref m7, .int la, .int mn, .int ma, .int sn, .int so, .int ca, .int cm, .int kd, .ref m8]), (m1, aI g 63 S)]) hx hb hlocks hr rfl hK hP hD hS [0, 1] rfl rfl (by unfold spR; rw [if_neg hj0, if_pos hjn, if_pos (show mvS S (5 * j.toInt.toNat) = mvS S (5 * j.toInt.toNat + 1) from c42n)]) rfl dX9_speedBits_47
  · refine lv_ldc hx hb hown (hts (.constant RX9 53 (-1000001)) (List.mem_of_getElem? (i := 1) rfl)) dX9_speedBits_4 ?_
    exact zEi (v := (-1000001)) (ws' := [(m0, oB 9 [.ref m1, .ref m2, .ref m3, .ref m4, .int ps, .int rn, .ref m5, .int ty, .ref m6, .ref m7, .int la, .int mn, .int ma, .int sn, .int so, .int ca, .int cm, .int kd, .ref m8]), (m1, aI g 63 S)]) hx hb hlocks hr rfl hK hP hD hS [0, 1] rfl rfl (by unfold spR; rw [if_pos (znle c1)]) rfl dX9_speedBits_6
