set_option maxHeartbeats 4000000 in
set_option maxRecDepth 100000 in
theorem m_add (l : Launch) (g : G3) (a2 a3 a4 a5 : Nat) (nl : Int32) (fr to wt : Nat → Int32) (p q w : Int32) (hnl : 0 ≤ nl.toInt ∧ nl.toInt ≤ 6) : MI l yX2_add wsX2_add (rk 1 22) g [.ref a2, .int p, .int q, .int w] [(a2, oB 2 [.ref a3, .ref a4, .ref a5, .int nl]), (a3, aI g 6 fr), (a4, aI g 6 to), (a5, aI g 6 wt)] (adR nl p q w) [(a2, oB 2 [.ref a3, .ref a4, .ref a5, .int (if adP nl p q w then nl + 1 else nl)]), (a3, aI g 6 (if adP nl p q w then upd fr nl.toInt.toNat p else fr)), (a4, aI g 6 (if adP nl p q w then upd to nl.toInt.toNat q else to)), (a5, aI g 6 (if adP nl p q w then upd wt nl.toInt.toNat w else wt))] := by
  refine zWalk.met (Qc := fun A => zQi g (adR nl p q w) [(a2, oB 2 [.ref a3, .ref a4, .ref a5, .int (if adP nl p q w then nl + 1 else nl)]), (a3, aI g 6 (if adP nl p q w then upd fr nl.toInt.toNat p else fr)), (a4, aI g 6 (if adP nl p q w then upd to nl.toInt.toNat q else to)), (a5, aI g 6 (if adP nl p q w then upd wt nl.toInt.toNat w else wt))] A) (cc := cX2_add) (maxL := 5) (ret := (some .int)) ?_ (by decide) rfl (Nat.le_of_ble_eq_true rfl)
  intro pg ev sx mi args below meth cd A H locs ls hx hb hr hml hown hts hlocks hA hE hK hP hD hS hl
  have iX2 : ∀ w ∈ u_ws RX2 TX2 4, w ∈ wsX2_add := (fun _ h => (List.mem_cons_of_mem _ (List.mem_append_right _ h)))
  have hl : lv_has ls 5 [(0, .ref a2), (1, .int p), (2, .int q), (3, .int w)] := hl
  refine lv_iload_n hx hb dX2_add_0 rfl (lv_at hl 1 rfl) ?_
  refine lv_sipush (v := (-3000)) hx hb dX2_add_1 (by decide +kernel) ?_
  refine lv_sipush (v := 3000) hx hb dX2_add_4 (by decide +kernel) ?_
  refine zNI (As := [.int p, .int (-3000), .int 3000]) (rest := []) (wc := []) (wr := [(a2, oB 2 [.ref a3, .ref a4, .ref a5, .int nl]), (a3, aI g 6 fr), (a4, aI g 6 to), (a5, aI g 6 wt)]) (wc' := []) ⟨hx, hb, hml, hown, hts⟩ (m_within l g p (-3000) 3000) ⟨va_cnB 3 hts gX2_add_X8_within_n21 rfl rfl rfl (nwm_8 hE.1) (hts (.initialized RX8) (List.mem_of_getElem? (i := 8) rfl)) (by decide +kernel) ⟨Nat.le_of_ble_eq_true rfl, Nat.le_of_ble_eq_true rfl⟩, (hts (.static yX8_within) (List.mem_of_getElem? (i := 7) rfl)), trivial⟩ hE hK hP hD hS hA [] [0, 1, 2, 3] rfl rfl rfl rfl (by decide) rfl hl.1 rfl (lv_room (Nat.le_of_ble_eq_true rfl)) ⟨Nat.zero_le _, Nat.zero_le _⟩ dX2_add_7 (fun H locs hP hD hS => ?_)
  have hP : va_P g.1 vwCl [(a2, oB 2 [.ref a3, .ref a4, .ref a5, .int nl]), (a3, aI g 6 fr), (a4, aI g 6 to), (a5, aI g 6 wt)] H := hP
  have hD : va_D A [(a2, oB 2 [.ref a3, .ref a4, .ref a5, .int nl]), (a3, aI g 6 fr), (a4, aI g 6 to), (a5, aI g 6 wt)] := hD
  refine lv_if_eq (tgt := 35) hx hb dX2_add_10 (by decide) (fun c10 => ?_) (fun c10 => ?_)
  · have c10 := b01_f c10
    refine lv_ldc hx hb hown (hts (.constant RX2 25 (-1000001)) (List.mem_of_getElem? (i := 1) rfl)) dX2_add_35 ?_
    exact zEi (v := (-1000001)) (ws' := [(a2, oB 2 [.ref a3, .ref a4, .ref a5, .int nl]), (a3, aI g 6 fr), (a4, aI g 6 to), (a5, aI g 6 wt)]) hx hb hlocks hr rfl hK hP hD hS [0, 1, 2, 3] rfl rfl (by unfold adR; rw [if_neg (fun h => c10 h.1)]) (by simp only [if_neg (show ¬ adP nl p q w from fun h => c10 h.1.1)]) dX2_add_37
  · have c10 := b01_t c10
    refine lv_iload_n hx hb dX2_add_13 rfl (lv_at hl 2 rfl) ?_
    refine lv_iload_n hx hb dX2_add_14 rfl (lv_at hl 1 rfl) ?_
    refine lv_sipush (v := 3000) hx hb dX2_add_15 (by decide +kernel) ?_
    refine zNI (As := [.int q, .int p, .int 3000]) (rest := []) (wc := []) (wr := [(a2, oB 2 [.ref a3, .ref a4, .ref a5, .int nl]), (a3, aI g 6 fr), (a4, aI g 6 to), (a5, aI g 6 wt)]) (wc' := []) ⟨hx, hb, hml, hown, hts⟩ (m_within l g q p 3000) ⟨va_cnB 3 hts gX2_add_X8_within_n21 rfl rfl rfl (nwm_8 hE.1) (hts (.initialized RX8) (List.mem_of_getElem? (i := 8) rfl)) (by decide +kernel) ⟨Nat.le_of_ble_eq_true rfl, Nat.le_of_ble_eq_true rfl⟩, (hts (.static yX8_within) (List.mem_of_getElem? (i := 7) rfl)), trivial⟩ hE hK hP hD hS hA [] [0, 1, 2, 3] rfl rfl rfl rfl (by decide) rfl hl.1 rfl (lv_room (Nat.le_of_ble_eq_true rfl)) ⟨Nat.zero_le _, Nat.zero_le _⟩ dX2_add_18 (fun H locs hP hD hS => ?_)
    have hP : va_P g.1 vwCl [(a2, oB 2 [.ref a3, .ref a4, .ref a5, .int nl]), (a3, aI g 6 fr), (a4, aI g 6 to), (a5, aI g 6 wt)] H := hP
    have hD : va_D A [(a2, oB 2 [.ref a3, .ref a4, .ref a5, .int nl]), (a3, aI g 6 fr), (a4, aI g 6 to), (a5, aI g 6 wt)] := hD
    refine lv_if_eq (tgt := 35) hx hb dX2_add_21 (by decide) (fun c21 => ?_) (fun c21 => ?_)
    · have c21 := b01_f c21
      refine lv_ldc hx hb hown (hts (.constant RX2 25 (-1000001)) (List.mem_of_getElem? (i := 1) rfl)) dX2_add_35 ?_
      exact zEi (v := (-1000001)) (ws' := [(a2, oB 2 [.ref a3, .ref a4, .ref a5, .int nl]), (a3, aI g 6 fr), (a4, aI g 6 to), (a5, aI g 6 wt)]) hx hb hlocks hr rfl hK hP hD hS [0, 1, 2, 3] rfl rfl (by unfold adR; rw [if_neg (fun h => c21 h.2.1)]) (by simp only [if_neg (show ¬ adP nl p q w from fun h => c21 h.1.2.1)]) dX2_add_37
    · have c21 := b01_t c21
      refine lv_iload_n hx hb dX2_add_24 rfl (lv_at hl 3 rfl) ?_
      refine lv_iconst (v := 1) hx hb dX2_add_25 (by decide +kernel) ?_
      refine lv_sipush (v := 300) hx hb dX2_add_26 (by decide +kernel) ?_
      refine zNI (As := [.int w, .int 1, .int 300]) (rest := []) (wc := []) (wr := [(a2, oB 2 [.ref a3, .ref a4, .ref a5, .int nl]), (a3, aI g 6 fr), (a4, aI g 6 to), (a5, aI g 6 wt)]) (wc' := []) ⟨hx, hb, hml, hown, hts⟩ (m_within l g w 1 300) ⟨va_cnB 3 hts gX2_add_X8_within_n21 rfl rfl rfl (nwm_8 hE.1) (hts (.initialized RX8) (List.mem_of_getElem? (i := 8) rfl)) (by decide +kernel) ⟨Nat.le_of_ble_eq_true rfl, Nat.le_of_ble_eq_true rfl⟩, (hts (.static yX8_within) (List.mem_of_getElem? (i := 7) rfl)), trivial⟩ hE hK hP hD hS hA [] [0, 1, 2, 3] rfl rfl rfl rfl (by decide) rfl hl.1 rfl (lv_room (Nat.le_of_ble_eq_true rfl)) ⟨Nat.zero_le _, Nat.zero_le _⟩ dX2_add_29 (fun H locs hP hD hS => ?_)
      have hP : va_P g.1 vwCl [(a2, oB 2 [.ref a3, .ref a4, .ref a5, .int nl]), (a3, aI g 6 fr), (a4, aI g 6 to), (a5, aI g 6 wt)] H := hP
      have hD : va_D A [(a2, oB 2 [.ref a3, .ref a4, .ref a5, .int nl]), (a3, aI g 6 fr), (a4, aI g 6 to), (a5, aI g 6 wt)] := hD
      refine lv_if_ne (tgt := 38) hx hb dX2_add_32 (by decide) (fun c32 => ?_) (fun c32 => ?_)
      · have c32 := b01_t c32
        refine lv_aload_n hx hb dX2_add_38 rfl (lv_at hl 0 rfl) ?_
        refine va_get (D := g.1) (ci := 2) (v := .int nl) (C := RX2) (T := TX2) (N := 4) hx hb hts iX2 hown hK hP 0 rfl rfl 3 (by decide) (hts (.fieldLink RX2 26 "StepAxis$Loads" "size" "I") (List.mem_of_getElem? (i := 2) rfl)) (fun _ h9 => h9) rfl dX2_add_39 ?_
        refine lv_istore (lv' := [(4, .int nl), (0, .ref a2), (1, .int p), (2, .int q), (3, .int w)]) hx hb dX2_add_42 hl (by decide) rfl (fun ls hl => ?_)
        refine lv_iload hx hb dX2_add_44 (lv_at hl 0 rfl) ?_
        refine lv_bipush (v := 6) hx hb dX2_add_46 (by decide +kernel) ?_
        refine lv_icmp_lt (tgt := 54) hx hb dX2_add_48 (by decide) (fun c48 => ?_) (fun c48 => ?_)
        · refine lv_aload_n hx hb dX2_add_54 rfl (lv_at hl 1 rfl) ?_
          refine va_get (D := g.1) (ci := 2) (v := .ref a3) (C := RX2) (T := TX2) (N := 4) hx hb hts iX2 hown hK hP 0 rfl rfl 0 (by decide) (hts (.fieldLink RX2 9 "StepAxis$Loads" "from" "[I") (List.mem_of_getElem? (i := 4) rfl)) (fun _ h9 => h9) rfl dX2_add_55 ?_
          refine lv_iload hx hb dX2_add_58 (lv_at hl 0 rfl) ?_
          refine lv_iload_n hx hb dX2_add_60 rfl (lv_at hl 2 rfl) ?_
          refine zast (k := nl.toInt.toNat) hx hb hK hP hD hS 1 0 rfl rfl (IX.z hnl.1 (by have := (zlt _ _).mp c48; have e := i6; omega)) dX2_add_61 (fun H locs hP hD hS => ?_)
          have hP : va_P g.1 vwCl [(a2, oB 2 [.ref a3, .ref a4, .ref a5, .int nl]), (a3, aI g 6 (upd fr nl.toInt.toNat p)), (a4, aI g 6 to), (a5, aI g 6 wt)] H := hP
          have hD : va_D A [(a2, oB 2 [.ref a3, .ref a4, .ref a5, .int nl]), (a3, aI g 6 (upd fr nl.toInt.toNat p)), (a4, aI g 6 to), (a5, aI g 6 wt)] := hD
          refine lv_aload_n hx hb dX2_add_62 rfl (lv_at hl 1 rfl) ?_
          refine va_get (D := g.1) (ci := 2) (v := .ref a4) (C := RX2) (T := TX2) (N := 4) hx hb hts iX2 hown hK hP 0 rfl rfl 1 (by decide) (hts (.fieldLink RX2 15 "StepAxis$Loads" "to" "[I") (List.mem_of_getElem? (i := 5) rfl)) (fun _ h9 => h9) rfl dX2_add_63 ?_
          refine lv_iload hx hb dX2_add_66 (lv_at hl 0 rfl) ?_
          refine lv_iload_n hx hb dX2_add_68 rfl (lv_at hl 3 rfl) ?_
          refine zast (k := nl.toInt.toNat) hx hb hK hP hD hS 2 0 rfl rfl (IX.z hnl.1 (by have := (zlt _ _).mp c48; have e := i6; omega)) dX2_add_69 (fun H locs hP hD hS => ?_)
          have hP : va_P g.1 vwCl [(a2, oB 2 [.ref a3, .ref a4, .ref a5, .int nl]), (a3, aI g 6 (upd fr nl.toInt.toNat p)), (a4, aI g 6 (upd to nl.toInt.toNat q)), (a5, aI g 6 wt)] H := hP
          have hD : va_D A [(a2, oB 2 [.ref a3, .ref a4, .ref a5, .int nl]), (a3, aI g 6 (upd fr nl.toInt.toNat p)), (a4, aI g 6 (upd to nl.toInt.toNat q)), (a5, aI g 6 wt)] := hD
          refine lv_aload_n hx hb dX2_add_70 rfl (lv_at hl 1 rfl) ?_
          refine va_get (D := g.1) (ci := 2) (v := .ref a5) (C := RX2) (T := TX2) (N := 4) hx hb hts iX2 hown hK hP 0 rfl rfl 2 (by decide) (hts (.fieldLink RX2 18 "StepAxis$Loads" "weight" "[I") (List.mem_of_getElem? (i := 6) rfl)) (fun _ h9 => h9) rfl dX2_add_71 ?_
          refine lv_iload hx hb dX2_add_74 (lv_at hl 0 rfl) ?_
          refine lv_iload_n hx hb dX2_add_76 rfl (lv_at hl 4 rfl) ?_
          refine zast (k := nl.toInt.toNat) hx hb hK hP hD hS 3 0 rfl rfl (IX.z hnl.1 (by have := (zlt _ _).mp c48; have e := i6; omega)) dX2_add_77 (fun H locs hP hD hS => ?_)
          have hP : va_P g.1 vwCl [(a2, oB 2 [.ref a3, .ref a4, .ref a5, .int nl]), (a3, aI g 6 (upd fr nl.toInt.toNat p)), (a4, aI g 6 (upd to nl.toInt.toNat q)), (a5, aI g 6 (upd wt nl.toInt.toNat w))] H := hP
          have hD : va_D A [(a2, oB 2 [.ref a3, .ref a4, .ref a5, .int nl]), (a3, aI g 6 (upd fr nl.toInt.toNat p)), (a4, aI g 6 (upd to nl.toInt.toNat q)), (a5, aI g 6 (upd wt nl.toInt.toNat w))] := hD
          refine lv_aload_n hx hb dX2_add_78 rfl (lv_at hl 1 rfl) ?_
          refine lv_iload hx hb dX2_add_79 (lv_at hl 0 rfl) ?_
          refine lv_iconst (v := 1) hx hb dX2_add_81 (by decide +kernel) ?_
          refine lv_iadd hx hb dX2_add_82 ?_
          refine va_put (D := g.1) (ci := 2) (v := .int (nl + 1)) (ty := .int) (C := RX2) (T := TX2) (N := 4) hx hb hts iX2 tyX2 tyX2_ok nmX2 hown hK hP hD hS 0 rfl rfl 3 (by decide) (hts (.fieldLink RX2 26 "StepAxis$Loads" "size" "I") (List.mem_of_getElem? (i := 2) rfl)) (fun _ h9 => h9) rfl (by decide +kernel) rfl rfl (Nat.le_of_ble_eq_true rfl) dX2_add_83 (fun H locs hP hD hS => ?_)
          have hP : va_P g.1 vwCl [(a2, oB 2 [.ref a3, .ref a4, .ref a5, .int (nl + 1)]), (a3, aI g 6 (upd fr nl.toInt.toNat p)), (a4, aI g 6 (upd to nl.toInt.toNat q)), (a5, aI g 6 (upd wt nl.toInt.toNat w))] H := hP
          have hD : va_D A [(a2, oB 2 [.ref a3, .ref a4, .ref a5, .int (nl + 1)]), (a3, aI g 6 (upd fr nl.toInt.toNat p)), (a4, aI g 6 (upd to nl.toInt.toNat q)), (a5, aI g 6 (upd wt nl.toInt.toNat w))] := hD
          refine lv_iload hx hb dX2_add_86 (lv_at hl 0 rfl) ?_
          exact zEi (v := nl) (ws' := [(a2, oB 2 [.ref a3, .ref a4, .ref a5, .int (nl + 1)]), (a3, aI g 6 (upd fr nl.toInt.toNat p)), (a4, aI g 6 (upd to nl.toInt.toNat q)), (a5, aI g 6 (upd wt nl.toInt.toNat w))]) hx hb hlocks hr rfl hK hP hD hS [0, 1, 2, 3] rfl rfl (by unfold adR; rw [if_pos ⟨c10, c21, c32⟩, if_neg (ne6 hnl c48)]) (by simp only [if_pos (show adP nl p q w from ⟨⟨c10, c21, c32⟩, ne6 hnl c48⟩)]) dX2_add_88
        · refine lv_ldc hx hb hown (hts (.constant RX2 30 (-1000003)) (List.mem_of_getElem? (i := 3) rfl)) dX2_add_51 ?_
          exact zEi (v := (-1000003)) (ws' := [(a2, oB 2 [.ref a3, .ref a4, .ref a5, .int nl]), (a3, aI g 6 fr), (a4, aI g 6 to), (a5, aI g 6 wt)]) hx hb hlocks hr rfl hK hP hD hS [0, 1, 2, 3] rfl rfl (by unfold adR; rw [if_pos ⟨c10, c21, c32⟩, if_pos (eq6 hnl c48)]) (by simp only [if_neg (show ¬ adP nl p q w from fun h => h.2 (eq6 hnl c48))]) dX2_add_53
      · have c32 := b01_f c32
        refine lv_ldc hx hb hown (hts (.constant RX2 25 (-1000001)) (List.mem_of_getElem? (i := 1) rfl)) dX2_add_35 ?_
        exact zEi (v := (-1000001)) (ws' := [(a2, oB 2 [.ref a3, .ref a4, .ref a5, .int nl]), (a3, aI g 6 fr), (a4, aI g 6 to), (a5, aI g 6 wt)]) hx hb hlocks hr rfl hK hP hD hS [0, 1, 2, 3] rfl rfl (by unfold adR; rw [if_neg (fun h => c32 h.2.2)]) (by simp only [if_neg (show ¬ adP nl p q w from fun h => c32 h.1.2.2)]) dX2_add_37
set_option maxHeartbeats 4000000 in
set_option maxRecDepth 100000 in
theorem m_drop (l : Launch) (g : G3) (a2 a3 a4 a5 : Nat) (nl : Int32) (fr to wt : Nat → Int32) (j : Int32) (hnl : 0 ≤ nl.toInt ∧ nl.toInt ≤ 6) : MI l yX2_drop wsX2_drop (rk 0 0) g [.ref a2, .int j] [(a2, oB 2 [.ref a3, .ref a4, .ref a5, .int nl]), (a3, aI g 6 fr), (a4, aI g 6 to), (a5, aI g 6 wt)] (drR wt nl j) [(a2, oB 2 [.ref a3, .ref a4, .ref a5, .int (if drP nl j then nl - 1 else nl)]), (a3, aI g 6 (if drP nl j then drF fr j.toInt.toNat nl.toInt.toNat else fr)), (a4, aI g 6 (if drP nl j then drF to j.toInt.toNat nl.toInt.toNat else to)), (a5, aI g 6 (if drP nl j then drF wt j.toInt.toNat nl.toInt.toNat else wt))] := by
  refine zWalk.met (Qc := fun A => zQi g (drR wt nl j) [(a2, oB 2 [.ref a3, .ref a4, .ref a5, .int (if drP nl j then nl - 1 else nl)]), (a3, aI g 6 (if drP nl j then drF fr j.toInt.toNat nl.toInt.toNat else fr)), (a4, aI g 6 (if drP nl j then drF to j.toInt.toNat nl.toInt.toNat else to)), (a5, aI g 6 (if drP nl j then drF wt j.toInt.toNat nl.toInt.toNat else wt))] A) (cc := cX2_drop) (maxL := 4) (ret := (some .int)) ?_ (by decide) rfl (Nat.le_of_ble_eq_true rfl)
  intro pg ev sx mi args below meth cd A H locs ls hx hb hr hml hown hts hlocks hA hE hK hP hD hS hl
  have iX2 : ∀ w ∈ u_ws RX2 TX2 4, w ∈ wsX2_drop := (fun _ h => (List.mem_cons_of_mem _ (List.mem_append_right _ h)))
  have hl : lv_has ls 4 [(0, .ref a2), (1, .int j)] := hl
  refine lv_iload_n hx hb dX2_drop_0 rfl (lv_at hl 1 rfl) ?_
  refine lv_if_ge (tgt := 7) hx hb dX2_drop_1 (by decide) (fun c1 => ?_) (fun c1 => ?_)
  · refine lv_iload_n hx hb dX2_drop_7 rfl (lv_at hl 1 rfl) ?_
    refine lv_aload_n hx hb dX2_drop_8 rfl (lv_at hl 0 rfl) ?_
    refine va_get (D := g.1) (ci := 2) (v := .int nl) (C := RX2) (T := TX2) (N := 4) hx hb hts iX2 hown hK hP 0 rfl rfl 3 (by decide) (hts (.fieldLink RX2 26 "StepAxis$Loads" "size" "I") (List.mem_of_getElem? (i := 2) rfl)) (fun _ h9 => h9) rfl dX2_drop_9 ?_
    refine lv_icmp_lt (tgt := 18) hx hb dX2_drop_12 (by decide) (fun c12 => ?_) (fun c12 => ?_)
    · refine lv_aload_n hx hb dX2_drop_18 rfl (lv_at hl 0 rfl) ?_
      refine va_get (D := g.1) (ci := 2) (v := .ref a5) (C := RX2) (T := TX2) (N := 4) hx hb hts iX2 hown hK hP 0 rfl rfl 2 (by decide) (hts (.fieldLink RX2 18 "StepAxis$Loads" "weight" "[I") (List.mem_of_getElem? (i := 4) rfl)) (fun _ h9 => h9) rfl dX2_drop_19 ?_
      refine lv_iload_n hx hb dX2_drop_22 rfl (lv_at hl 1 rfl) ?_
      refine zald (k := j.toInt.toNat) hx hb hK hP 3 0 rfl rfl (IX.z (zp0 c1) (by have := (zlt _ _).mp c12; omega)) dX2_drop_23 ?_
      refine lv_istore_n (lv' := [(2, .int (wt j.toInt.toNat)), (0, .ref a2), (1, .int j)]) hx hb dX2_drop_24 rfl hl (by decide) rfl (fun ls hl => ?_)
      refine lv_iload_n hx hb dX2_drop_25 rfl (lv_at hl 2 rfl) ?_
      refine lv_iconst (v := 1) hx hb dX2_drop_26 (by decide +kernel) ?_
      refine lv_iadd hx hb dX2_drop_27 ?_
      refine lv_istore_n (lv' := [(3, .int (j + 1)), (2, .int (wt j.toInt.toNat)), (0, .ref a2), (1, .int j)]) hx hb dX2_drop_28 rfl hl (by decide) rfl (fun ls hl => ?_)
      have hj := (zlt _ _).mp c12
      have hj0 := zp0 c1
      have ej : j = nI j.toInt.toNat := zof hj0
      have en : nl = nI nl.toInt.toNat := zof hnl.1
      rw [show (fr) = drF fr j.toInt.toNat (j.toInt.toNat + 1) from (drF_0 _ _).symm] at hP hD
      rw [show (to) = drF to j.toInt.toNat (j.toInt.toNat + 1) from (drF_0 _ _).symm] at hP hD
      rw [show (wt) = drF wt j.toInt.toNat (j.toInt.toNat + 1) from (drF_0 _ _).symm] at hP hD
      have lp29 : ∀ (fu : Nat) (k : Nat) (i : Int32), (j.toInt.toNat + 1 ≤ k) → (k ≤ nl.toInt.toNat) → (i = nI k) → (nl.toInt.toNat - k) < fu → ∀ (H : Heap) (locs : List Loc), va_P g.1 vwCl [(a2, oB 2 [.ref a3, .ref a4, .ref a5, .int nl]), (a3, aI g 6 (drF fr j.toInt.toNat k)), (a4, aI g 6 (drF to j.toInt.toNat k)), (a5, aI g 6 (drF wt j.toInt.toNat k))] H → va_D A [(a2, oB 2 [.ref a3, .ref a4, .ref a5, .int nl]), (a3, aI g 6 (drF fr j.toInt.toNat k)), (a4, aI g 6 (drF to j.toInt.toNat k)), (a5, aI g 6 (drF wt j.toInt.toNat k))] → va_S A sx.heap H locs → ∀ (ls : Array Slot), lv_has ls 4 [(3, .int i), (2, .int (wt j.toInt.toNat)), (0, .ref a2), (1, .int j)] → W pg l ev (rk 0 0) sx mi args below meth cd H locs 0 0 (MQ below (zQi g (drR wt nl j) [(a2, oB 2 [.ref a3, .ref a4, .ref a5, .int (if drP nl j then nl - 1 else nl)]), (a3, aI g 6 (if drP nl j then drF fr j.toInt.toNat nl.toInt.toNat else fr)), (a4, aI g 6 (if drP nl j then drF to j.toInt.toNat nl.toInt.toNat else to)), (a5, aI g 6 (if drP nl j then drF wt j.toInt.toNat nl.toInt.toNat else wt))] A) args sx 0 0 A) (F0 mi 29 ls []) := by
        intro fu
        induction fu with
        | zero =>
          intro k i hk1 hk ei hmu
          exact absurd hmu (Nat.not_lt_zero _)
        | succ fu ih =>
          intro k i hk1 hk ei hmu H locs hP hD hS ls hl
          refine lv_iload_n hx hb dX2_drop_29 rfl (lv_at hl 0 rfl) ?_
          refine lv_aload_n hx hb dX2_drop_30 rfl (lv_at hl 2 rfl) ?_
          refine va_get (D := g.1) (ci := 2) (v := .int nl) (C := RX2) (T := TX2) (N := 4) hx hb hts iX2 hown hK hP 0 rfl rfl 3 (by decide) (hts (.fieldLink RX2 26 "StepAxis$Loads" "size" "I") (List.mem_of_getElem? (i := 2) rfl)) (fun _ h9 => h9) rfl dX2_drop_31 ?_
          refine lv_icmp_ge (tgt := 85) hx hb dX2_drop_34 (by decide) (fun c34 => ?_) (fun c34 => ?_)
          · have hkn : nl.toInt.toNat = k := Nat.le_antisymm (nle_of (by omega) (by omega) (by rw [ei, en] at c34; exact c34)) hk
            refine lv_aload_n hx hb dX2_drop_85 rfl (lv_at hl 2 rfl) ?_
            refine lv_dup hx hb dX2_drop_86 rfl ?_
            refine va_get (D := g.1) (ci := 2) (v := .int nl) (C := RX2) (T := TX2) (N := 4) hx hb hts iX2 hown hK hP 0 rfl rfl 3 (by decide) (hts (.fieldLink RX2 26 "StepAxis$Loads" "size" "I") (List.mem_of_getElem? (i := 2) rfl)) (fun _ h9 => h9) rfl dX2_drop_87 ?_
            refine lv_iconst (v := 1) hx hb dX2_drop_90 (by decide +kernel) ?_
            refine lv_isub hx hb dX2_drop_91 ?_
            refine va_put (D := g.1) (ci := 2) (v := .int (nl - 1)) (ty := .int) (C := RX2) (T := TX2) (N := 4) hx hb hts iX2 tyX2 tyX2_ok nmX2 hown hK hP hD hS 0 rfl rfl 3 (by decide) (hts (.fieldLink RX2 26 "StepAxis$Loads" "size" "I") (List.mem_of_getElem? (i := 2) rfl)) (fun _ h9 => h9) rfl (by decide +kernel) rfl rfl (Nat.le_of_ble_eq_true rfl) dX2_drop_92 (fun H locs hP hD hS => ?_)
            have hP : va_P g.1 vwCl [(a2, oB 2 [.ref a3, .ref a4, .ref a5, .int (nl - 1)]), (a3, aI g 6 (drF fr j.toInt.toNat k)), (a4, aI g 6 (drF to j.toInt.toNat k)), (a5, aI g 6 (drF wt j.toInt.toNat k))] H := hP
            have hD : va_D A [(a2, oB 2 [.ref a3, .ref a4, .ref a5, .int (nl - 1)]), (a3, aI g 6 (drF fr j.toInt.toNat k)), (a4, aI g 6 (drF to j.toInt.toNat k)), (a5, aI g 6 (drF wt j.toInt.toNat k))] := hD
            refine lv_iload_n hx hb dX2_drop_95 rfl (lv_at hl 1 rfl) ?_
            exact zEi (v := wt j.toInt.toNat) (ws' := [(a2, oB 2 [.ref a3, .ref a4, .ref a5, .int (nl - 1)]), (a3, aI g 6 (drF fr j.toInt.toNat k)), (a4, aI g 6 (drF to j.toInt.toNat k)), (a5, aI g 6 (drF wt j.toInt.toNat k))]) hx hb hlocks hr rfl hK hP hD hS [0, 1, 2, 3] rfl rfl (by unfold drR; rw [if_neg (zgt c1), if_pos c12]) (by simp only [if_pos (show drP nl j from ⟨c1, c12⟩)]; rw [hkn]) dX2_drop_96
          · have hlt : k + 1 ≤ nl.toInt.toNat := nlt_of (n := nl.toInt.toNat) (by omega) (by rw [ei, en] at c34; exact c34)
            refine lv_aload_n hx hb dX2_drop_37 rfl (lv_at hl 2 rfl) ?_
            refine va_get (D := g.1) (ci := 2) (v := .ref a3) (C := RX2) (T := TX2) (N := 4) hx hb hts iX2 hown hK hP 0 rfl rfl 0 (by decide) (hts (.fieldLink RX2 9 "StepAxis$Loads" "from" "[I") (List.mem_of_getElem? (i := 5) rfl)) (fun _ h9 => h9) rfl dX2_drop_38 ?_
            refine lv_iload_n hx hb dX2_drop_41 rfl (lv_at hl 0 rfl) ?_
            refine lv_iconst (v := 1) hx hb dX2_drop_42 (by decide +kernel) ?_
            refine lv_isub hx hb dX2_drop_43 ?_
            refine lv_aload_n hx hb dX2_drop_44 rfl (lv_at hl 2 rfl) ?_
            refine va_get (D := g.1) (ci := 2) (v := .ref a3) (C := RX2) (T := TX2) (N := 4) hx hb hts iX2 hown hK hP 0 rfl rfl 0 (by decide) (hts (.fieldLink RX2 9 "StepAxis$Loads" "from" "[I") (List.mem_of_getElem? (i := 5) rfl)) (fun _ h9 => h9) rfl dX2_drop_45 ?_
            refine lv_iload_n hx hb dX2_drop_48 rfl (lv_at hl 0 rfl) ?_
            refine zald (k := k) hx hb hK hP 1 0 rfl rfl (IX.of ei (by omega) (by decide)) dX2_drop_49 ?_
            refine zTop (y := fr k) (drF_r _ _ _) ?_
            refine zast (k := (k - 1)) hx hb hK hP hD hS 1 0 rfl rfl (IX.of (by rw [ei]; exact nI_m1 (by omega)) (by omega) (by decide)) dX2_drop_50 (fun H locs hP hD hS => ?_)
            have hP : va_P g.1 vwCl [(a2, oB 2 [.ref a3, .ref a4, .ref a5, .int nl]), (a3, aI g 6 (upd (drF fr j.toInt.toNat k) (k - 1) (fr k))), (a4, aI g 6 (drF to j.toInt.toNat k)), (a5, aI g 6 (drF wt j.toInt.toNat k))] H := hP
            have hD : va_D A [(a2, oB 2 [.ref a3, .ref a4, .ref a5, .int nl]), (a3, aI g 6 (upd (drF fr j.toInt.toNat k) (k - 1) (fr k))), (a4, aI g 6 (drF to j.toInt.toNat k)), (a5, aI g 6 (drF wt j.toInt.toNat k))] := hD
            rw [show (upd (drF fr j.toInt.toNat k) (k - 1) (fr k)) = drF fr j.toInt.toNat (k + 1) from drF_s hk1] at hP hD
            refine lv_aload_n hx hb dX2_drop_51 rfl (lv_at hl 2 rfl) ?_
            refine va_get (D := g.1) (ci := 2) (v := .ref a4) (C := RX2) (T := TX2) (N := 4) hx hb hts iX2 hown hK hP 0 rfl rfl 1 (by decide) (hts (.fieldLink RX2 15 "StepAxis$Loads" "to" "[I") (List.mem_of_getElem? (i := 6) rfl)) (fun _ h9 => h9) rfl dX2_drop_52 ?_
            refine lv_iload_n hx hb dX2_drop_55 rfl (lv_at hl 0 rfl) ?_
            refine lv_iconst (v := 1) hx hb dX2_drop_56 (by decide +kernel) ?_
            refine lv_isub hx hb dX2_drop_57 ?_
            refine lv_aload_n hx hb dX2_drop_58 rfl (lv_at hl 2 rfl) ?_
            refine va_get (D := g.1) (ci := 2) (v := .ref a4) (C := RX2) (T := TX2) (N := 4) hx hb hts iX2 hown hK hP 0 rfl rfl 1 (by decide) (hts (.fieldLink RX2 15 "StepAxis$Loads" "to" "[I") (List.mem_of_getElem? (i := 6) rfl)) (fun _ h9 => h9) rfl dX2_drop_59 ?_
            refine lv_iload_n hx hb dX2_drop_62 rfl (lv_at hl 0 rfl) ?_
            refine zald (k := k) hx hb hK hP 2 0 rfl rfl (IX.of ei (by omega) (by decide)) dX2_drop_63 ?_
            refine zTop (y := to k) (drF_r _ _ _) ?_
            refine zast (k := (k - 1)) hx hb hK hP hD hS 2 0 rfl rfl (IX.of (by rw [ei]; exact nI_m1 (by omega)) (by omega) (by decide)) dX2_drop_64 (fun H locs hP hD hS => ?_)
            have hP : va_P g.1 vwCl [(a2, oB 2 [.ref a3, .ref a4, .ref a5, .int nl]), (a3, aI g 6 (drF fr j.toInt.toNat (k + 1))), (a4, aI g 6 (upd (drF to j.toInt.toNat k) (k - 1) (to k))), (a5, aI g 6 (drF wt j.toInt.toNat k))] H := hP
            have hD : va_D A [(a2, oB 2 [.ref a3, .ref a4, .ref a5, .int nl]), (a3, aI g 6 (drF fr j.toInt.toNat (k + 1))), (a4, aI g 6 (upd (drF to j.toInt.toNat k) (k - 1) (to k))), (a5, aI g 6 (drF wt j.toInt.toNat k))] := hD
            rw [show (upd (drF to j.toInt.toNat k) (k - 1) (to k)) = drF to j.toInt.toNat (k + 1) from drF_s hk1] at hP hD
            refine lv_aload_n hx hb dX2_drop_65 rfl (lv_at hl 2 rfl) ?_
            refine va_get (D := g.1) (ci := 2) (v := .ref a5) (C := RX2) (T := TX2) (N := 4) hx hb hts iX2 hown hK hP 0 rfl rfl 2 (by decide) (hts (.fieldLink RX2 18 "StepAxis$Loads" "weight" "[I") (List.mem_of_getElem? (i := 4) rfl)) (fun _ h9 => h9) rfl dX2_drop_66 ?_
            refine lv_iload_n hx hb dX2_drop_69 rfl (lv_at hl 0 rfl) ?_
            refine lv_iconst (v := 1) hx hb dX2_drop_70 (by decide +kernel) ?_
            refine lv_isub hx hb dX2_drop_71 ?_
            refine lv_aload_n hx hb dX2_drop_72 rfl (lv_at hl 2 rfl) ?_
            refine va_get (D := g.1) (ci := 2) (v := .ref a5) (C := RX2) (T := TX2) (N := 4) hx hb hts iX2 hown hK hP 0 rfl rfl 2 (by decide) (hts (.fieldLink RX2 18 "StepAxis$Loads" "weight" "[I") (List.mem_of_getElem? (i := 4) rfl)) (fun _ h9 => h9) rfl dX2_drop_73 ?_
            refine lv_iload_n hx hb dX2_drop_76 rfl (lv_at hl 0 rfl) ?_
            refine zald (k := k) hx hb hK hP 3 0 rfl rfl (IX.of ei (by omega) (by decide)) dX2_drop_77 ?_
            refine zTop (y := wt k) (drF_r _ _ _) ?_
            refine zast (k := (k - 1)) hx hb hK hP hD hS 3 0 rfl rfl (IX.of (by rw [ei]; exact nI_m1 (by omega)) (by omega) (by decide)) dX2_drop_78 (fun H locs hP hD hS => ?_)
            have hP : va_P g.1 vwCl [(a2, oB 2 [.ref a3, .ref a4, .ref a5, .int nl]), (a3, aI g 6 (drF fr j.toInt.toNat (k + 1))), (a4, aI g 6 (drF to j.toInt.toNat (k + 1))), (a5, aI g 6 (upd (drF wt j.toInt.toNat k) (k - 1) (wt k)))] H := hP
            have hD : va_D A [(a2, oB 2 [.ref a3, .ref a4, .ref a5, .int nl]), (a3, aI g 6 (drF fr j.toInt.toNat (k + 1))), (a4, aI g 6 (drF to j.toInt.toNat (k + 1))), (a5, aI g 6 (upd (drF wt j.toInt.toNat k) (k - 1) (wt k)))] := hD
            rw [show (upd (drF wt j.toInt.toNat k) (k - 1) (wt k)) = drF wt j.toInt.toNat (k + 1) from drF_s hk1] at hP hD
            refine lv_iinc (v := i + 1) (lv' := [(3, .int (i + 1)), (2, .int (wt j.toInt.toNat)), (0, .ref a2), (1, .int j)]) hx hb dX2_drop_79 hl (k := 0) rfl (by rfl) (by decide) rfl (fun ls hl => ?_)
            refine lv_goto (tgt := 29) hx hb dX2_drop_82 (by decide) ?_
            exact ih (k + 1) (i + 1) (by omega) hlt (by rw [ei]; exact nI_1 k) (by omega) _ _ (zP_sub hP [0, 1, 2, 3] rfl) (hD.sub [0, 1, 2, 3] rfl rfl) hS ls (lv_sub hl [0, 1, 2, 3] rfl)
      exact lp29 ((nl.toInt.toNat - (j.toInt.toNat + 1)) + 1) (j.toInt.toNat + 1) (j + 1) (Nat.le_refl _) (by omega) ((congrArg (· + 1) ej).trans (nI_1 _)) (Nat.lt_succ_self _) _ _ (zP_sub hP [0, 1, 2, 3] rfl) (hD.sub [0, 1, 2, 3] rfl rfl) hS ls (lv_sub hl [0, 1, 2, 3] rfl)
    · refine lv_ldc hx hb hown (hts (.constant RX2 31 (-1000002)) (List.mem_of_getElem? (i := 3) rfl)) dX2_drop_15 ?_
      exact zEi (v := (-1000002)) (ws' := [(a2, oB 2 [.ref a3, .ref a4, .ref a5, .int nl]), (a3, aI g 6 fr), (a4, aI g 6 to), (a5, aI g 6 wt)]) hx hb hlocks hr rfl hK hP hD hS [0, 1, 2, 3] rfl rfl (by unfold drR; rw [if_neg (zgt c1), if_neg c12]) (by simp only [if_neg (show ¬ drP nl j from fun h => c12 h.2)]) dX2_drop_17
  · refine lv_ldc hx hb hown (hts (.constant RX2 25 (-1000001)) (List.mem_of_getElem? (i := 1) rfl)) dX2_drop_4 ?_
    exact zEi (v := (-1000001)) (ws' := [(a2, oB 2 [.ref a3, .ref a4, .ref a5, .int nl]), (a3, aI g 6 fr), (a4, aI g 6 to), (a5, aI g 6 wt)]) hx hb hlocks hr rfl hK hP hD hS [0, 1, 2, 3] rfl rfl (by unfold drR; rw [if_pos (by rw [zlt]; rw [zle] at c1; omega)]) (by simp only [if_neg (show ¬ drP nl j from fun h => c1 h.1)]) dX2_drop_6
set_option maxHeartbeats 4000000 in
set_option maxRecDepth 100000 in
theorem m_part (l : Launch) (g : G3) (a2 a3 a4 a5 : Nat) (nl : Int32) (fr to wt : Nat → Int32) (j w : Int32) (hnl : 0 ≤ nl.toInt ∧ nl.toInt ≤ 6) : MI l yX2_part wsX2_part (rk 1 22) g [.ref a2, .int j, .int w] [(a2, oB 2 [.ref a3, .ref a4, .ref a5, .int nl]), (a3, aI g 6 fr), (a4, aI g 6 to), (a5, aI g 6 wt)] (prR fr to wt nl j w) [(a2, oB 2 [.ref a3, .ref a4, .ref a5, .int nl]), (a3, aI g 6 fr), (a4, aI g 6 to), (a5, aI g 6 wt)] := by
  refine zWalk.met (Qc := fun A => zQi g (prR fr to wt nl j w) [(a2, oB 2 [.ref a3, .ref a4, .ref a5, .int nl]), (a3, aI g 6 fr), (a4, aI g 6 to), (a5, aI g 6 wt)] A) (cc := cX2_part) (maxL := 3) (ret := (some .int)) ?_ (by decide) rfl (Nat.le_of_ble_eq_true rfl)
  intro pg ev sx mi args below meth cd A H locs ls hx hb hr hml hown hts hlocks hA hE hK hP hD hS hl
  have iX2 : ∀ w ∈ u_ws RX2 TX2 4, w ∈ wsX2_part := (fun _ h => (List.mem_cons_of_mem _ (List.mem_append_right _ h)))
  have hl : lv_has ls 3 [(0, .ref a2), (1, .int j), (2, .int w)] := hl
  refine lv_iload_n hx hb dX2_part_0 rfl (lv_at hl 1 rfl) ?_
  refine lv_if_lt (tgt := 13) hx hb dX2_part_1 (by decide) (fun c1 => ?_) (fun c1 => ?_)
  · refine lv_ldc hx hb hown (hts (.constant RX2 25 (-1000001)) (List.mem_of_getElem? (i := 1) rfl)) dX2_part_13 ?_
    exact zEi (v := (-1000001)) (ws' := [(a2, oB 2 [.ref a3, .ref a4, .ref a5, .int nl]), (a3, aI g 6 fr), (a4, aI g 6 to), (a5, aI g 6 wt)]) hx hb hlocks hr rfl hK hP hD hS [0, 1, 2, 3] rfl rfl (by unfold prR; rw [if_neg (fun h => h.1 c1)]) rfl dX2_part_15
  · refine lv_iload_n hx hb dX2_part_4 rfl (lv_at hl 2 rfl) ?_
    refine lv_iconst (v := 0) hx hb dX2_part_5 (by decide +kernel) ?_
    refine lv_iconst (v := 2) hx hb dX2_part_6 (by decide +kernel) ?_
    refine zNI (As := [.int w, .int 0, .int 2]) (rest := []) (wc := []) (wr := [(a2, oB 2 [.ref a3, .ref a4, .ref a5, .int nl]), (a3, aI g 6 fr), (a4, aI g 6 to), (a5, aI g 6 wt)]) (wc' := []) ⟨hx, hb, hml, hown, hts⟩ (m_within l g w 0 2) ⟨va_cnB 3 hts gX2_part_X8_within_n21 rfl rfl rfl (nwm_8 hE.1) (hts (.initialized RX8) (List.mem_of_getElem? (i := 8) rfl)) (by decide +kernel) ⟨Nat.le_of_ble_eq_true rfl, Nat.le_of_ble_eq_true rfl⟩, (hts (.static yX8_within) (List.mem_of_getElem? (i := 7) rfl)), trivial⟩ hE hK hP hD hS hA [] [0, 1, 2, 3] rfl rfl rfl rfl (by decide) rfl hl.1 rfl (lv_room (Nat.le_of_ble_eq_true rfl)) ⟨Nat.zero_le _, Nat.zero_le _⟩ dX2_part_7 (fun H locs hP hD hS => ?_)
    have hP : va_P g.1 vwCl [(a2, oB 2 [.ref a3, .ref a4, .ref a5, .int nl]), (a3, aI g 6 fr), (a4, aI g 6 to), (a5, aI g 6 wt)] H := hP
    have hD : va_D A [(a2, oB 2 [.ref a3, .ref a4, .ref a5, .int nl]), (a3, aI g 6 fr), (a4, aI g 6 to), (a5, aI g 6 wt)] := hD
    refine lv_if_ne (tgt := 16) hx hb dX2_part_10 (by decide) (fun c10 => ?_) (fun c10 => ?_)
    · have c10 := b01_t c10
      refine lv_iload_n hx hb dX2_part_16 rfl (lv_at hl 1 rfl) ?_
      refine lv_aload_n hx hb dX2_part_17 rfl (lv_at hl 0 rfl) ?_
      refine va_get (D := g.1) (ci := 2) (v := .int nl) (C := RX2) (T := TX2) (N := 4) hx hb hts iX2 hown hK hP 0 rfl rfl 3 (by decide) (hts (.fieldLink RX2 26 "StepAxis$Loads" "size" "I") (List.mem_of_getElem? (i := 2) rfl)) (fun _ h9 => h9) rfl dX2_part_18 ?_
      refine lv_icmp_lt (tgt := 27) hx hb dX2_part_21 (by decide) (fun c21 => ?_) (fun c21 => ?_)
      · refine lv_iload_n hx hb dX2_part_27 rfl (lv_at hl 2 rfl) ?_
        refine lv_if_ne (tgt := 38) hx hb dX2_part_28 (by decide) (fun c28 => ?_) (fun c28 => ?_)
        · refine lv_iload_n hx hb dX2_part_38 rfl (lv_at hl 2 rfl) ?_
          refine lv_iconst (v := 1) hx hb dX2_part_39 (by decide +kernel) ?_
          refine lv_icmp_ne (tgt := 52) hx hb dX2_part_40 (by decide) (fun c40 => ?_) (fun c40 => ?_)
          · refine lv_aload_n hx hb dX2_part_52 rfl (lv_at hl 0 rfl) ?_
            refine va_get (D := g.1) (ci := 2) (v := .ref a5) (C := RX2) (T := TX2) (N := 4) hx hb hts iX2 hown hK hP 0 rfl rfl 2 (by decide) (hts (.fieldLink RX2 18 "StepAxis$Loads" "weight" "[I") (List.mem_of_getElem? (i := 6) rfl)) (fun _ h9 => h9) rfl dX2_part_53 ?_
            refine lv_iload_n hx hb dX2_part_56 rfl (lv_at hl 1 rfl) ?_
            refine zald (k := j.toInt.toNat) hx hb hK hP 3 0 rfl rfl (IX.z (zp0 (zge c1)) (by have := (zlt _ _).mp c21; omega)) dX2_part_57 ?_
            exact zEi (v := wt j.toInt.toNat) (ws' := [(a2, oB 2 [.ref a3, .ref a4, .ref a5, .int nl]), (a3, aI g 6 fr), (a4, aI g 6 to), (a5, aI g 6 wt)]) hx hb hlocks hr rfl hK hP hD hS [0, 1, 2, 3] rfl rfl (by unfold prR; rw [if_pos ⟨c1, c10⟩, if_pos c21, if_neg c28, if_neg c40]) rfl dX2_part_58
          · refine lv_aload_n hx hb dX2_part_43 rfl (lv_at hl 0 rfl) ?_
            refine va_get (D := g.1) (ci := 2) (v := .ref a4) (C := RX2) (T := TX2) (N := 4) hx hb hts iX2 hown hK hP 0 rfl rfl 1 (by decide) (hts (.fieldLink RX2 15 "StepAxis$Loads" "to" "[I") (List.mem_of_getElem? (i := 5) rfl)) (fun _ h9 => h9) rfl dX2_part_44 ?_
            refine lv_iload_n hx hb dX2_part_47 rfl (lv_at hl 1 rfl) ?_
            refine zald (k := j.toInt.toNat) hx hb hK hP 2 0 rfl rfl (IX.z (zp0 (zge c1)) (by have := (zlt _ _).mp c21; omega)) dX2_part_48 ?_
            refine lv_goto (tgt := 58) hx hb dX2_part_49 (by decide) ?_
            exact zEi (v := to j.toInt.toNat) (ws' := [(a2, oB 2 [.ref a3, .ref a4, .ref a5, .int nl]), (a3, aI g 6 fr), (a4, aI g 6 to), (a5, aI g 6 wt)]) hx hb hlocks hr rfl hK hP hD hS [0, 1, 2, 3] rfl rfl (by unfold prR; rw [if_pos ⟨c1, c10⟩, if_pos c21, if_neg c28, if_pos c40]) rfl dX2_part_58
        · refine lv_aload_n hx hb dX2_part_31 rfl (lv_at hl 0 rfl) ?_
          refine va_get (D := g.1) (ci := 2) (v := .ref a3) (C := RX2) (T := TX2) (N := 4) hx hb hts iX2 hown hK hP 0 rfl rfl 0 (by decide) (hts (.fieldLink RX2 9 "StepAxis$Loads" "from" "[I") (List.mem_of_getElem? (i := 4) rfl)) (fun _ h9 => h9) rfl dX2_part_32 ?_
          refine lv_iload_n hx hb dX2_part_35 rfl (lv_at hl 1 rfl) ?_
          refine zald (k := j.toInt.toNat) hx hb hK hP 1 0 rfl rfl (IX.z (zp0 (zge c1)) (by have := (zlt _ _).mp c21; omega)) dX2_part_36 ?_
          exact zEi (v := fr j.toInt.toNat) (ws' := [(a2, oB 2 [.ref a3, .ref a4, .ref a5, .int nl]), (a3, aI g 6 fr), (a4, aI g 6 to), (a5, aI g 6 wt)]) hx hb hlocks hr rfl hK hP hD hS [0, 1, 2, 3] rfl rfl (by unfold prR; rw [if_pos ⟨c1, c10⟩, if_pos c21, if_pos c28]) rfl dX2_part_37
      · refine lv_ldc hx hb hown (hts (.constant RX2 32 (-1000004)) (List.mem_of_getElem? (i := 3) rfl)) dX2_part_24 ?_
        exact zEi (v := (-1000004)) (ws' := [(a2, oB 2 [.ref a3, .ref a4, .ref a5, .int nl]), (a3, aI g 6 fr), (a4, aI g 6 to), (a5, aI g 6 wt)]) hx hb hlocks hr rfl hK hP hD hS [0, 1, 2, 3] rfl rfl (by unfold prR; rw [if_pos ⟨c1, c10⟩, if_neg c21]) rfl dX2_part_26
    · have c10 := b01_f c10
      refine lv_ldc hx hb hown (hts (.constant RX2 25 (-1000001)) (List.mem_of_getElem? (i := 1) rfl)) dX2_part_13 ?_
      exact zEi (v := (-1000001)) (ws' := [(a2, oB 2 [.ref a3, .ref a4, .ref a5, .int nl]), (a3, aI g 6 fr), (a4, aI g 6 to), (a5, aI g 6 wt)]) hx hb hlocks hr rfl hK hP hD hS [0, 1, 2, 3] rfl rfl (by unfold prR; rw [if_neg (fun h => c10 h.2)]) rfl dX2_part_15
set_option maxHeartbeats 4000000 in
set_option maxRecDepth 100000 in
theorem m_lcopy (l : Launch) (g : G3) (d2 d3 d4 d5 : Nat) (nl2 : Int32) (fr2 to2 wt2 : Nat → Int32) (a2 a3 a4 a5 : Nat) (nl : Int32) (fr to wt : Nat → Int32) : MV l yX2_copyFrom wsX2_copyFrom (rk 1 60) g [.ref d2, .ref a2] [(d2, oB 2 [.ref d3, .ref d4, .ref d5, .int nl2]), (d3, aI g 6 fr2), (d4, aI g 6 to2), (d5, aI g 6 wt2), (a2, oB 2 [.ref a3, .ref a4, .ref a5, .int nl]), (a3, aI g 6 fr), (a4, aI g 6 to), (a5, aI g 6 wt)] [(d2, oB 2 [.ref d3, .ref d4, .ref d5, .int nl]), (d3, aI g 6 fr), (d4, aI g 6 to), (d5, aI g 6 wt), (a2, oB 2 [.ref a3, .ref a4, .ref a5, .int nl]), (a3, aI g 6 fr), (a4, aI g 6 to), (a5, aI g 6 wt)] := by
  refine zWalk.met (Qc := fun A => zQv g [(d2, oB 2 [.ref d3, .ref d4, .ref d5, .int nl]), (d3, aI g 6 fr), (d4, aI g 6 to), (d5, aI g 6 wt), (a2, oB 2 [.ref a3, .ref a4, .ref a5, .int nl]), (a3, aI g 6 fr), (a4, aI g 6 to), (a5, aI g 6 wt)] A) (cc := cX2_copyFrom) (maxL := 2) (ret := none) ?_ (by decide) rfl (Nat.le_of_ble_eq_true rfl)
  intro pg ev sx mi args below meth cd A H locs ls hx hb hr hml hown hts hlocks hA hE hK hP hD hS hl
  have iX2 : ∀ w ∈ u_ws RX2 TX2 4, w ∈ wsX2_copyFrom := (fun _ h => (List.mem_cons_of_mem _ (List.mem_append_right _ h)))
  have hl : lv_has ls 2 [(0, .ref d2), (1, .ref a2)] := hl
  refine lv_aload_n hx hb dX2_copyFrom_0 rfl (lv_at hl 1 rfl) ?_
  refine va_get (D := g.1) (ci := 2) (v := .ref a3) (C := RX2) (T := TX2) (N := 4) hx hb hts iX2 hown hK hP 4 rfl rfl 0 (by decide) (hts (.fieldLink RX2 9 "StepAxis$Loads" "from" "[I") (List.mem_of_getElem? (i := 1) rfl)) (fun _ h9 => h9) rfl dX2_copyFrom_1 ?_
  refine lv_iconst (v := 0) hx hb dX2_copyFrom_4 (by decide +kernel) ?_
  refine lv_aload_n hx hb dX2_copyFrom_5 rfl (lv_at hl 0 rfl) ?_
  refine va_get (D := g.1) (ci := 2) (v := .ref d3) (C := RX2) (T := TX2) (N := 4) hx hb hts iX2 hown hK hP 0 rfl rfl 0 (by decide) (hts (.fieldLink RX2 9 "StepAxis$Loads" "from" "[I") (List.mem_of_getElem? (i := 1) rfl)) (fun _ h9 => h9) rfl dX2_copyFrom_6 ?_
  refine lv_iconst (v := 0) hx hb dX2_copyFrom_9 (by decide +kernel) ?_
  refine lv_bipush (v := 6) hx hb dX2_copyFrom_10 (by decide +kernel) ?_
  refine va_copyi hx hb (hml.trans hl.1.symm) hown (hts (.methodLink RX2 33 arraycopyName) (List.mem_of_getElem? (i := 2) rfl)) (hts (.native arraycopyName) (List.mem_of_getElem? (i := 3) rfl)) (hts (.static arraycopyName) (List.mem_of_getElem? (i := 4) rfl)) (hts (.initialized "java/lang/System") (List.mem_of_getElem? (i := 5) rfl)) hK hP hD hS 5 1 0 0 rfl rfl rfl rfl rfl (by decide +kernel) (by decide +kernel) (by decide +kernel) (by decide +kernel) (by decide +kernel) (fun _ _ => rfl) (Nat.le_of_ble_eq_true rfl) (Nat.le_of_ble_eq_true rfl) dX2_copyFrom_12 (fun H locs hP hD hS => ?_)
  have hP : va_P g.1 vwCl [(d2, oB 2 [.ref d3, .ref d4, .ref d5, .int nl2]), (d3, aI g 6 (va_cpy fr fr2 0 0 6)), (d4, aI g 6 to2), (d5, aI g 6 wt2), (a2, oB 2 [.ref a3, .ref a4, .ref a5, .int nl]), (a3, aI g 6 fr), (a4, aI g 6 to), (a5, aI g 6 wt)] H := hP
  have hD : va_D A [(d2, oB 2 [.ref d3, .ref d4, .ref d5, .int nl2]), (d3, aI g 6 (va_cpy fr fr2 0 0 6)), (d4, aI g 6 to2), (d5, aI g 6 wt2), (a2, oB 2 [.ref a3, .ref a4, .ref a5, .int nl]), (a3, aI g 6 fr), (a4, aI g 6 to), (a5, aI g 6 wt)] := hD
  have hP := zP_arr (f' := fr) 1 rfl (fun k hk => by unfold va_cpy; rw [if_pos (by omega), Nat.zero_add]; rfl) hP
  have hD := hD.set (p := 1) (e := aI g 6 fr) rfl
  have hP : va_P g.1 vwCl [(d2, oB 2 [.ref d3, .ref d4, .ref d5, .int nl2]), (d3, aI g 6 fr), (d4, aI g 6 to2), (d5, aI g 6 wt2), (a2, oB 2 [.ref a3, .ref a4, .ref a5, .int nl]), (a3, aI g 6 fr), (a4, aI g 6 to), (a5, aI g 6 wt)] H := hP
  have hD : va_D A [(d2, oB 2 [.ref d3, .ref d4, .ref d5, .int nl2]), (d3, aI g 6 fr), (d4, aI g 6 to2), (d5, aI g 6 wt2), (a2, oB 2 [.ref a3, .ref a4, .ref a5, .int nl]), (a3, aI g 6 fr), (a4, aI g 6 to), (a5, aI g 6 wt)] := hD
  refine lv_aload_n hx hb dX2_copyFrom_15 rfl (lv_at hl 1 rfl) ?_
  refine va_get (D := g.1) (ci := 2) (v := .ref a4) (C := RX2) (T := TX2) (N := 4) hx hb hts iX2 hown hK hP 4 rfl rfl 1 (by decide) (hts (.fieldLink RX2 15 "StepAxis$Loads" "to" "[I") (List.mem_of_getElem? (i := 6) rfl)) (fun _ h9 => h9) rfl dX2_copyFrom_16 ?_
  refine lv_iconst (v := 0) hx hb dX2_copyFrom_19 (by decide +kernel) ?_
  refine lv_aload_n hx hb dX2_copyFrom_20 rfl (lv_at hl 0 rfl) ?_
  refine va_get (D := g.1) (ci := 2) (v := .ref d4) (C := RX2) (T := TX2) (N := 4) hx hb hts iX2 hown hK hP 0 rfl rfl 1 (by decide) (hts (.fieldLink RX2 15 "StepAxis$Loads" "to" "[I") (List.mem_of_getElem? (i := 6) rfl)) (fun _ h9 => h9) rfl dX2_copyFrom_21 ?_
  refine lv_iconst (v := 0) hx hb dX2_copyFrom_24 (by decide +kernel) ?_
  refine lv_bipush (v := 6) hx hb dX2_copyFrom_25 (by decide +kernel) ?_
  refine va_copyi hx hb (hml.trans hl.1.symm) hown (hts (.methodLink RX2 33 arraycopyName) (List.mem_of_getElem? (i := 2) rfl)) (hts (.native arraycopyName) (List.mem_of_getElem? (i := 3) rfl)) (hts (.static arraycopyName) (List.mem_of_getElem? (i := 4) rfl)) (hts (.initialized "java/lang/System") (List.mem_of_getElem? (i := 5) rfl)) hK hP hD hS 6 2 0 0 rfl rfl rfl rfl rfl (by decide +kernel) (by decide +kernel) (by decide +kernel) (by decide +kernel) (by decide +kernel) (fun _ _ => rfl) (Nat.le_of_ble_eq_true rfl) (Nat.le_of_ble_eq_true rfl) dX2_copyFrom_27 (fun H locs hP hD hS => ?_)
  have hP : va_P g.1 vwCl [(d2, oB 2 [.ref d3, .ref d4, .ref d5, .int nl2]), (d3, aI g 6 fr), (d4, aI g 6 (va_cpy to to2 0 0 6)), (d5, aI g 6 wt2), (a2, oB 2 [.ref a3, .ref a4, .ref a5, .int nl]), (a3, aI g 6 fr), (a4, aI g 6 to), (a5, aI g 6 wt)] H := hP
  have hD : va_D A [(d2, oB 2 [.ref d3, .ref d4, .ref d5, .int nl2]), (d3, aI g 6 fr), (d4, aI g 6 (va_cpy to to2 0 0 6)), (d5, aI g 6 wt2), (a2, oB 2 [.ref a3, .ref a4, .ref a5, .int nl]), (a3, aI g 6 fr), (a4, aI g 6 to), (a5, aI g 6 wt)] := hD
  have hP := zP_arr (f' := to) 2 rfl (fun k hk => by unfold va_cpy; rw [if_pos (by omega), Nat.zero_add]; rfl) hP
  have hD := hD.set (p := 2) (e := aI g 6 to) rfl
  have hP : va_P g.1 vwCl [(d2, oB 2 [.ref d3, .ref d4, .ref d5, .int nl2]), (d3, aI g 6 fr), (d4, aI g 6 to), (d5, aI g 6 wt2), (a2, oB 2 [.ref a3, .ref a4, .ref a5, .int nl]), (a3, aI g 6 fr), (a4, aI g 6 to), (a5, aI g 6 wt)] H := hP
  have hD : va_D A [(d2, oB 2 [.ref d3, .ref d4, .ref d5, .int nl2]), (d3, aI g 6 fr), (d4, aI g 6 to), (d5, aI g 6 wt2), (a2, oB 2 [.ref a3, .ref a4, .ref a5, .int nl]), (a3, aI g 6 fr), (a4, aI g 6 to), (a5, aI g 6 wt)] := hD
  refine lv_aload_n hx hb dX2_copyFrom_30 rfl (lv_at hl 1 rfl) ?_
  refine va_get (D := g.1) (ci := 2) (v := .ref a5) (C := RX2) (T := TX2) (N := 4) hx hb hts iX2 hown hK hP 4 rfl rfl 2 (by decide) (hts (.fieldLink RX2 18 "StepAxis$Loads" "weight" "[I") (List.mem_of_getElem? (i := 7) rfl)) (fun _ h9 => h9) rfl dX2_copyFrom_31 ?_
  refine lv_iconst (v := 0) hx hb dX2_copyFrom_34 (by decide +kernel) ?_
  refine lv_aload_n hx hb dX2_copyFrom_35 rfl (lv_at hl 0 rfl) ?_
  refine va_get (D := g.1) (ci := 2) (v := .ref d5) (C := RX2) (T := TX2) (N := 4) hx hb hts iX2 hown hK hP 0 rfl rfl 2 (by decide) (hts (.fieldLink RX2 18 "StepAxis$Loads" "weight" "[I") (List.mem_of_getElem? (i := 7) rfl)) (fun _ h9 => h9) rfl dX2_copyFrom_36 ?_
  refine lv_iconst (v := 0) hx hb dX2_copyFrom_39 (by decide +kernel) ?_
  refine lv_bipush (v := 6) hx hb dX2_copyFrom_40 (by decide +kernel) ?_
  refine va_copyi hx hb (hml.trans hl.1.symm) hown (hts (.methodLink RX2 33 arraycopyName) (List.mem_of_getElem? (i := 2) rfl)) (hts (.native arraycopyName) (List.mem_of_getElem? (i := 3) rfl)) (hts (.static arraycopyName) (List.mem_of_getElem? (i := 4) rfl)) (hts (.initialized "java/lang/System") (List.mem_of_getElem? (i := 5) rfl)) hK hP hD hS 7 3 0 0 rfl rfl rfl rfl rfl (by decide +kernel) (by decide +kernel) (by decide +kernel) (by decide +kernel) (by decide +kernel) (fun _ _ => rfl) (Nat.le_of_ble_eq_true rfl) (Nat.le_of_ble_eq_true rfl) dX2_copyFrom_42 (fun H locs hP hD hS => ?_)
  have hP : va_P g.1 vwCl [(d2, oB 2 [.ref d3, .ref d4, .ref d5, .int nl2]), (d3, aI g 6 fr), (d4, aI g 6 to), (d5, aI g 6 (va_cpy wt wt2 0 0 6)), (a2, oB 2 [.ref a3, .ref a4, .ref a5, .int nl]), (a3, aI g 6 fr), (a4, aI g 6 to), (a5, aI g 6 wt)] H := hP
  have hD : va_D A [(d2, oB 2 [.ref d3, .ref d4, .ref d5, .int nl2]), (d3, aI g 6 fr), (d4, aI g 6 to), (d5, aI g 6 (va_cpy wt wt2 0 0 6)), (a2, oB 2 [.ref a3, .ref a4, .ref a5, .int nl]), (a3, aI g 6 fr), (a4, aI g 6 to), (a5, aI g 6 wt)] := hD
  have hP := zP_arr (f' := wt) 3 rfl (fun k hk => by unfold va_cpy; rw [if_pos (by omega), Nat.zero_add]; rfl) hP
  have hD := hD.set (p := 3) (e := aI g 6 wt) rfl
  have hP : va_P g.1 vwCl [(d2, oB 2 [.ref d3, .ref d4, .ref d5, .int nl2]), (d3, aI g 6 fr), (d4, aI g 6 to), (d5, aI g 6 wt), (a2, oB 2 [.ref a3, .ref a4, .ref a5, .int nl]), (a3, aI g 6 fr), (a4, aI g 6 to), (a5, aI g 6 wt)] H := hP
  have hD : va_D A [(d2, oB 2 [.ref d3, .ref d4, .ref d5, .int nl2]), (d3, aI g 6 fr), (d4, aI g 6 to), (d5, aI g 6 wt), (a2, oB 2 [.ref a3, .ref a4, .ref a5, .int nl]), (a3, aI g 6 fr), (a4, aI g 6 to), (a5, aI g 6 wt)] := hD
  refine lv_aload_n hx hb dX2_copyFrom_45 rfl (lv_at hl 0 rfl) ?_
  refine lv_aload_n hx hb dX2_copyFrom_46 rfl (lv_at hl 1 rfl) ?_
  refine va_get (D := g.1) (ci := 2) (v := .int nl) (C := RX2) (T := TX2) (N := 4) hx hb hts iX2 hown hK hP 4 rfl rfl 3 (by decide) (hts (.fieldLink RX2 26 "StepAxis$Loads" "size" "I") (List.mem_of_getElem? (i := 8) rfl)) (fun _ h9 => h9) rfl dX2_copyFrom_47 ?_
  refine va_put (D := g.1) (ci := 2) (v := .int nl) (ty := .int) (C := RX2) (T := TX2) (N := 4) hx hb hts iX2 tyX2 tyX2_ok nmX2 hown hK hP hD hS 0 rfl rfl 3 (by decide) (hts (.fieldLink RX2 26 "StepAxis$Loads" "size" "I") (List.mem_of_getElem? (i := 8) rfl)) (fun _ h9 => h9) rfl (by decide +kernel) rfl rfl (Nat.le_of_ble_eq_true rfl) dX2_copyFrom_50 (fun H locs hP hD hS => ?_)
  have hP : va_P g.1 vwCl [(d2, oB 2 [.ref d3, .ref d4, .ref d5, .int nl]), (d3, aI g 6 fr), (d4, aI g 6 to), (d5, aI g 6 wt), (a2, oB 2 [.ref a3, .ref a4, .ref a5, .int nl]), (a3, aI g 6 fr), (a4, aI g 6 to), (a5, aI g 6 wt)] H := hP
  have hD : va_D A [(d2, oB 2 [.ref d3, .ref d4, .ref d5, .int nl]), (d3, aI g 6 fr), (d4, aI g 6 to), (d5, aI g 6 wt), (a2, oB 2 [.ref a3, .ref a4, .ref a5, .int nl]), (a3, aI g 6 fr), (a4, aI g 6 to), (a5, aI g 6 wt)] := hD
  exact zEv (ws' := [(d2, oB 2 [.ref d3, .ref d4, .ref d5, .int nl]), (d3, aI g 6 fr), (d4, aI g 6 to), (d5, aI g 6 wt), (a2, oB 2 [.ref a3, .ref a4, .ref a5, .int nl]), (a3, aI g 6 fr), (a4, aI g 6 to), (a5, aI g 6 wt)]) hx hb hlocks hr hK hP hD hS [0, 1, 2, 3, 4, 5, 6, 7] rfl rfl rfl dX2_copyFrom_53
set_option maxHeartbeats 4000000 in
set_option maxRecDepth 100000 in
theorem m_keep (l : Launch) (g : G3) (a6 a7 : Nat) (nm : Int32) (mv : Nat → Int32) (fm tg ms tm gr : Int32) (hnm : 0 ≤ nm.toInt ∧ nm.toInt ≤ 5) : MV l yX3_keep wsX3_keep (rk 1 60) g [.ref a6, .int fm, .int tg, .int ms, .int tm, .int gr] [(a6, oB 3 [.ref a7, .int nm]), (a7, aI g 25 mv)] [(a6, oB 3 [.ref a7, .int (kpN nm)]), (a7, aI g 25 (kpF mv fm tg ms tm gr))] := by
  refine zWalk.met (Qc := fun A => zQv g [(a6, oB 3 [.ref a7, .int (kpN nm)]), (a7, aI g 25 (kpF mv fm tg ms tm gr))] A) (cc := cX3_keep) (maxL := 6) (ret := none) ?_ (by decide) rfl (Nat.le_of_ble_eq_true rfl)
  intro pg ev sx mi args below meth cd A H locs ls hx hb hr hml hown hts hlocks hA hE hK hP hD hS hl
  have iX3 : ∀ w ∈ u_ws RX3 TX3 2, w ∈ wsX3_keep := (fun _ h => (List.mem_cons_of_mem _ (List.mem_append_right _ h)))
  have hl : lv_has ls 6 [(0, .ref a6), (1, .int fm), (2, .int tg), (3, .int ms), (4, .int tm), (5, .int gr)] := hl
  refine lv_aload_n hx hb dX3_keep_0 rfl (lv_at hl 0 rfl) ?_
  refine va_get (D := g.1) (ci := 3) (v := .ref a7) (C := RX3) (T := TX3) (N := 2) hx hb hts iX3 hown hK hP 0 rfl rfl 0 (by decide) (hts (.fieldLink RX3 9 "StepAxis$Moves" "cells" "[I") (List.mem_of_getElem? (i := 1) rfl)) (fun _ h9 => h9) rfl dX3_keep_1 ?_
  refine lv_iconst (v := 0) hx hb dX3_keep_4 (by decide +kernel) ?_
  refine lv_aload_n hx hb dX3_keep_5 rfl (lv_at hl 0 rfl) ?_
  refine va_get (D := g.1) (ci := 3) (v := .ref a7) (C := RX3) (T := TX3) (N := 2) hx hb hts iX3 hown hK hP 0 rfl rfl 0 (by decide) (hts (.fieldLink RX3 9 "StepAxis$Moves" "cells" "[I") (List.mem_of_getElem? (i := 1) rfl)) (fun _ h9 => h9) rfl dX3_keep_6 ?_
  refine lv_iconst (v := 5) hx hb dX3_keep_9 (by decide +kernel) ?_
  refine lv_aload_n hx hb dX3_keep_10 rfl (lv_at hl 0 rfl) ?_
  refine va_get (D := g.1) (ci := 3) (v := .ref a7) (C := RX3) (T := TX3) (N := 2) hx hb hts iX3 hown hK hP 0 rfl rfl 0 (by decide) (hts (.fieldLink RX3 9 "StepAxis$Moves" "cells" "[I") (List.mem_of_getElem? (i := 1) rfl)) (fun _ h9 => h9) rfl dX3_keep_11 ?_
  refine va_alen (v := 25) hx hb hK hP 1 0 rfl (ty := .int) rfl rfl dX3_keep_14 ?_
  refine lv_iconst (v := 5) hx hb dX3_keep_15 (by decide +kernel) ?_
  refine lv_isub hx hb dX3_keep_16 ?_
  refine zTop (y := 20) rfl ?_
  refine va_copyi hx hb (hml.trans hl.1.symm) hown (hts (.methodLink RX3 15 arraycopyName) (List.mem_of_getElem? (i := 2) rfl)) (hts (.native arraycopyName) (List.mem_of_getElem? (i := 3) rfl)) (hts (.static arraycopyName) (List.mem_of_getElem? (i := 4) rfl)) (hts (.initialized "java/lang/System") (List.mem_of_getElem? (i := 5) rfl)) hK hP hD hS 1 1 0 0 rfl rfl rfl rfl rfl (by decide +kernel) (by decide +kernel) (by decide +kernel) (by decide +kernel) (by decide +kernel) (fun _ _ => rfl) (Nat.le_of_ble_eq_true rfl) (Nat.le_of_ble_eq_true rfl) dX3_keep_17 (fun H locs hP hD hS => ?_)
  have hP : va_P g.1 vwCl [(a6, oB 3 [.ref a7, .int nm]), (a7, aI g 25 (va_cpy mv mv 0 5 20))] H := hP
  have hD : va_D A [(a6, oB 3 [.ref a7, .int nm]), (a7, aI g 25 (va_cpy mv mv 0 5 20))] := hD
  refine lv_aload_n hx hb dX3_keep_20 rfl (lv_at hl 0 rfl) ?_
  refine va_get (D := g.1) (ci := 3) (v := .ref a7) (C := RX3) (T := TX3) (N := 2) hx hb hts iX3 hown hK hP 0 rfl rfl 0 (by decide) (hts (.fieldLink RX3 9 "StepAxis$Moves" "cells" "[I") (List.mem_of_getElem? (i := 1) rfl)) (fun _ h9 => h9) rfl dX3_keep_21 ?_
  refine lv_iconst (v := 0) hx hb dX3_keep_24 (by decide +kernel) ?_
  refine lv_iload_n hx hb dX3_keep_25 rfl (lv_at hl 1 rfl) ?_
  refine zast (k := 0) hx hb hK hP hD hS 1 0 rfl rfl (IX.lit (by decide +kernel)) dX3_keep_26 (fun H locs hP hD hS => ?_)
  have hP : va_P g.1 vwCl [(a6, oB 3 [.ref a7, .int nm]), (a7, aI g 25 (upd (va_cpy mv mv 0 5 20) 0 fm))] H := hP
  have hD : va_D A [(a6, oB 3 [.ref a7, .int nm]), (a7, aI g 25 (upd (va_cpy mv mv 0 5 20) 0 fm))] := hD
  refine lv_aload_n hx hb dX3_keep_27 rfl (lv_at hl 0 rfl) ?_
  refine va_get (D := g.1) (ci := 3) (v := .ref a7) (C := RX3) (T := TX3) (N := 2) hx hb hts iX3 hown hK hP 0 rfl rfl 0 (by decide) (hts (.fieldLink RX3 9 "StepAxis$Moves" "cells" "[I") (List.mem_of_getElem? (i := 1) rfl)) (fun _ h9 => h9) rfl dX3_keep_28 ?_
  refine lv_iconst (v := 1) hx hb dX3_keep_31 (by decide +kernel) ?_
  refine lv_iload_n hx hb dX3_keep_32 rfl (lv_at hl 2 rfl) ?_
  refine zast (k := 1) hx hb hK hP hD hS 1 0 rfl rfl (IX.lit (by decide +kernel)) dX3_keep_33 (fun H locs hP hD hS => ?_)
  have hP : va_P g.1 vwCl [(a6, oB 3 [.ref a7, .int nm]), (a7, aI g 25 (upd (upd (va_cpy mv mv 0 5 20) 0 fm) 1 tg))] H := hP
  have hD : va_D A [(a6, oB 3 [.ref a7, .int nm]), (a7, aI g 25 (upd (upd (va_cpy mv mv 0 5 20) 0 fm) 1 tg))] := hD
  refine lv_aload_n hx hb dX3_keep_34 rfl (lv_at hl 0 rfl) ?_
  refine va_get (D := g.1) (ci := 3) (v := .ref a7) (C := RX3) (T := TX3) (N := 2) hx hb hts iX3 hown hK hP 0 rfl rfl 0 (by decide) (hts (.fieldLink RX3 9 "StepAxis$Moves" "cells" "[I") (List.mem_of_getElem? (i := 1) rfl)) (fun _ h9 => h9) rfl dX3_keep_35 ?_
  refine lv_iconst (v := 2) hx hb dX3_keep_38 (by decide +kernel) ?_
  refine lv_iload_n hx hb dX3_keep_39 rfl (lv_at hl 3 rfl) ?_
  refine zast (k := 2) hx hb hK hP hD hS 1 0 rfl rfl (IX.lit (by decide +kernel)) dX3_keep_40 (fun H locs hP hD hS => ?_)
  have hP : va_P g.1 vwCl [(a6, oB 3 [.ref a7, .int nm]), (a7, aI g 25 (upd (upd (upd (va_cpy mv mv 0 5 20) 0 fm) 1 tg) 2 ms))] H := hP
  have hD : va_D A [(a6, oB 3 [.ref a7, .int nm]), (a7, aI g 25 (upd (upd (upd (va_cpy mv mv 0 5 20) 0 fm) 1 tg) 2 ms))] := hD
  refine lv_aload_n hx hb dX3_keep_41 rfl (lv_at hl 0 rfl) ?_
  refine va_get (D := g.1) (ci := 3) (v := .ref a7) (C := RX3) (T := TX3) (N := 2) hx hb hts iX3 hown hK hP 0 rfl rfl 0 (by decide) (hts (.fieldLink RX3 9 "StepAxis$Moves" "cells" "[I") (List.mem_of_getElem? (i := 1) rfl)) (fun _ h9 => h9) rfl dX3_keep_42 ?_
  refine lv_iconst (v := 3) hx hb dX3_keep_45 (by decide +kernel) ?_
  refine lv_iload hx hb dX3_keep_46 (lv_at hl 4 rfl) ?_
  refine zast (k := 3) hx hb hK hP hD hS 1 0 rfl rfl (IX.lit (by decide +kernel)) dX3_keep_48 (fun H locs hP hD hS => ?_)
  have hP : va_P g.1 vwCl [(a6, oB 3 [.ref a7, .int nm]), (a7, aI g 25 (upd (upd (upd (upd (va_cpy mv mv 0 5 20) 0 fm) 1 tg) 2 ms) 3 tm))] H := hP
  have hD : va_D A [(a6, oB 3 [.ref a7, .int nm]), (a7, aI g 25 (upd (upd (upd (upd (va_cpy mv mv 0 5 20) 0 fm) 1 tg) 2 ms) 3 tm))] := hD
  refine lv_aload_n hx hb dX3_keep_49 rfl (lv_at hl 0 rfl) ?_
  refine va_get (D := g.1) (ci := 3) (v := .ref a7) (C := RX3) (T := TX3) (N := 2) hx hb hts iX3 hown hK hP 0 rfl rfl 0 (by decide) (hts (.fieldLink RX3 9 "StepAxis$Moves" "cells" "[I") (List.mem_of_getElem? (i := 1) rfl)) (fun _ h9 => h9) rfl dX3_keep_50 ?_
  refine lv_iconst (v := 4) hx hb dX3_keep_53 (by decide +kernel) ?_
  refine lv_iload hx hb dX3_keep_54 (lv_at hl 5 rfl) ?_
  refine zast (k := 4) hx hb hK hP hD hS 1 0 rfl rfl (IX.lit (by decide +kernel)) dX3_keep_56 (fun H locs hP hD hS => ?_)
  have hP : va_P g.1 vwCl [(a6, oB 3 [.ref a7, .int nm]), (a7, aI g 25 (upd (upd (upd (upd (upd (va_cpy mv mv 0 5 20) 0 fm) 1 tg) 2 ms) 3 tm) 4 gr))] H := hP
  have hD : va_D A [(a6, oB 3 [.ref a7, .int nm]), (a7, aI g 25 (upd (upd (upd (upd (upd (va_cpy mv mv 0 5 20) 0 fm) 1 tg) 2 ms) 3 tm) 4 gr))] := hD
  have hP := zP_arr (f' := kpF mv fm tg ms tm gr) 1 rfl (fun k hk => kpF_eq mv fm tg ms tm gr k hk) hP
  have hD := hD.set (p := 1) (e := aI g 25 (kpF mv fm tg ms tm gr)) rfl
  have hP : va_P g.1 vwCl [(a6, oB 3 [.ref a7, .int nm]), (a7, aI g 25 (kpF mv fm tg ms tm gr))] H := hP
  have hD : va_D A [(a6, oB 3 [.ref a7, .int nm]), (a7, aI g 25 (kpF mv fm tg ms tm gr))] := hD
  refine lv_aload_n hx hb dX3_keep_57 rfl (lv_at hl 0 rfl) ?_
  refine va_get (D := g.1) (ci := 3) (v := .int nm) (C := RX3) (T := TX3) (N := 2) hx hb hts iX3 hown hK hP 0 rfl rfl 1 (by decide) (hts (.fieldLink RX3 21 "StepAxis$Moves" "size" "I") (List.mem_of_getElem? (i := 6) rfl)) (fun _ h9 => h9) rfl dX3_keep_58 ?_
  refine lv_iconst (v := 5) hx hb dX3_keep_61 (by decide +kernel) ?_
  refine lv_icmp_ge (tgt := 75) hx hb dX3_keep_62 (by decide) (fun c62 => ?_) (fun c62 => ?_)
  · exact zEv (ws' := [(a6, oB 3 [.ref a7, .int nm]), (a7, aI g 25 (kpF mv fm tg ms tm gr))]) hx hb hlocks hr hK hP hD hS [0, 1] rfl rfl (by rw [show kpN nm = nm from (if_neg (zgt c62)).trans (by rw [zeq]; rw [zle] at c62; have e := i5; omega)]) dX3_keep_75
  · refine lv_aload_n hx hb dX3_keep_65 rfl (lv_at hl 0 rfl) ?_
    refine lv_dup hx hb dX3_keep_66 rfl ?_
    refine va_get (D := g.1) (ci := 3) (v := .int nm) (C := RX3) (T := TX3) (N := 2) hx hb hts iX3 hown hK hP 0 rfl rfl 1 (by decide) (hts (.fieldLink RX3 21 "StepAxis$Moves" "size" "I") (List.mem_of_getElem? (i := 6) rfl)) (fun _ h9 => h9) rfl dX3_keep_67 ?_
    refine lv_iconst (v := 1) hx hb dX3_keep_70 (by decide +kernel) ?_
    refine lv_iadd hx hb dX3_keep_71 ?_
    refine va_put (D := g.1) (ci := 3) (v := .int (nm + 1)) (ty := .int) (C := RX3) (T := TX3) (N := 2) hx hb hts iX3 tyX3 tyX3_ok nmX3 hown hK hP hD hS 0 rfl rfl 1 (by decide) (hts (.fieldLink RX3 21 "StepAxis$Moves" "size" "I") (List.mem_of_getElem? (i := 6) rfl)) (fun _ h9 => h9) rfl (by decide +kernel) rfl rfl (Nat.le_of_ble_eq_true rfl) dX3_keep_72 (fun H locs hP hD hS => ?_)
    have hP : va_P g.1 vwCl [(a6, oB 3 [.ref a7, .int (nm + 1)]), (a7, aI g 25 (kpF mv fm tg ms tm gr))] H := hP
    have hD : va_D A [(a6, oB 3 [.ref a7, .int (nm + 1)]), (a7, aI g 25 (kpF mv fm tg ms tm gr))] := hD
    exact zEv (ws' := [(a6, oB 3 [.ref a7, .int (nm + 1)]), (a7, aI g 25 (kpF mv fm tg ms tm gr))]) hx hb hlocks hr hK hP hD hS [0, 1] rfl rfl (by rw [show kpN nm = nm + 1 from if_pos (znle c62)]) dX3_keep_75
set_option maxHeartbeats 4000000 in
set_option maxRecDepth 100000 in
theorem m_mpart (l : Launch) (g : G3) (a6 a7 : Nat) (nm : Int32) (mv : Nat → Int32) (j w : Int32) (hnm : 0 ≤ nm.toInt ∧ nm.toInt ≤ 5) : MI l yX3_part wsX3_part (rk 1 22) g [.ref a6, .int j, .int w] [(a6, oB 3 [.ref a7, .int nm]), (a7, aI g 25 mv)] (mvR mv nm j w) [(a6, oB 3 [.ref a7, .int nm]), (a7, aI g 25 mv)] := by
  refine zWalk.met (Qc := fun A => zQi g (mvR mv nm j w) [(a6, oB 3 [.ref a7, .int nm]), (a7, aI g 25 mv)] A) (cc := cX3_part) (maxL := 3) (ret := (some .int)) ?_ (by decide) rfl (Nat.le_of_ble_eq_true rfl)
  intro pg ev sx mi args below meth cd A H locs ls hx hb hr hml hown hts hlocks hA hE hK hP hD hS hl
  have iX3 : ∀ w ∈ u_ws RX3 TX3 2, w ∈ wsX3_part := (fun _ h => (List.mem_cons_of_mem _ (List.mem_append_right _ h)))
  have hl : lv_has ls 3 [(0, .ref a6), (1, .int j), (2, .int w)] := hl
  refine lv_iload_n hx hb dX3_part_0 rfl (lv_at hl 1 rfl) ?_
  refine lv_if_lt (tgt := 13) hx hb dX3_part_1 (by decide) (fun c1 => ?_) (fun c1 => ?_)
  · refine lv_ldc hx hb hown (hts (.constant RX3 29 (-1000001)) (List.mem_of_getElem? (i := 1) rfl)) dX3_part_13 ?_
    exact zEi (v := (-1000001)) (ws' := [(a6, oB 3 [.ref a7, .int nm]), (a7, aI g 25 mv)]) hx hb hlocks hr rfl hK hP hD hS [0, 1] rfl rfl (by unfold mvR; rw [if_neg (fun h => h.1 c1)]) rfl dX3_part_15
  · refine lv_iload_n hx hb dX3_part_4 rfl (lv_at hl 2 rfl) ?_
    refine lv_iconst (v := 0) hx hb dX3_part_5 (by decide +kernel) ?_
    refine lv_iconst (v := 4) hx hb dX3_part_6 (by decide +kernel) ?_
    refine zNI (As := [.int w, .int 0, .int 4]) (rest := []) (wc := []) (wr := [(a6, oB 3 [.ref a7, .int nm]), (a7, aI g 25 mv)]) (wc' := []) ⟨hx, hb, hml, hown, hts⟩ (m_within l g w 0 4) ⟨va_cnB 3 hts gX3_part_X8_within_n25 rfl rfl rfl (nwm_9 hE.1) (hts (.initialized RX8) (List.mem_of_getElem? (i := 6) rfl)) (by decide +kernel) ⟨Nat.le_of_ble_eq_true rfl, Nat.le_of_ble_eq_true rfl⟩, (hts (.static yX8_within) (List.mem_of_getElem? (i := 5) rfl)), trivial⟩ hE hK hP hD hS hA [] [0, 1] rfl rfl rfl rfl (by decide) rfl hl.1 rfl (lv_room (Nat.le_of_ble_eq_true rfl)) ⟨Nat.zero_le _, Nat.zero_le _⟩ dX3_part_7 (fun H locs hP hD hS => ?_)
    have hP : va_P g.1 vwCl [(a6, oB 3 [.ref a7, .int nm]), (a7, aI g 25 mv)] H := hP
    have hD : va_D A [(a6, oB 3 [.ref a7, .int nm]), (a7, aI g 25 mv)] := hD
    refine lv_if_ne (tgt := 16) hx hb dX3_part_10 (by decide) (fun c10 => ?_) (fun c10 => ?_)
    · have c10 := b01_t c10
      refine lv_iload_n hx hb dX3_part_16 rfl (lv_at hl 1 rfl) ?_
      refine lv_aload_n hx hb dX3_part_17 rfl (lv_at hl 0 rfl) ?_
      refine va_get (D := g.1) (ci := 3) (v := .int nm) (C := RX3) (T := TX3) (N := 2) hx hb hts iX3 hown hK hP 0 rfl rfl 1 (by decide) (hts (.fieldLink RX3 21 "StepAxis$Moves" "size" "I") (List.mem_of_getElem? (i := 2) rfl)) (fun _ h9 => h9) rfl dX3_part_18 ?_
      refine lv_icmp_ge (tgt := 37) hx hb dX3_part_21 (by decide) (fun c21 => ?_) (fun c21 => ?_)
      · refine lv_ldc hx hb hown (hts (.constant RX3 30 (-1000004)) (List.mem_of_getElem? (i := 4) rfl)) dX3_part_37 ?_
        exact zEi (v := (-1000004)) (ws' := [(a6, oB 3 [.ref a7, .int nm]), (a7, aI g 25 mv)]) hx hb hlocks hr rfl hK hP hD hS [0, 1] rfl rfl (by unfold mvR; rw [if_pos ⟨c1, c10⟩, if_neg (zgt c21)]) rfl dX3_part_39
      · refine lv_aload_n hx hb dX3_part_24 rfl (lv_at hl 0 rfl) ?_
        refine va_get (D := g.1) (ci := 3) (v := .ref a7) (C := RX3) (T := TX3) (N := 2) hx hb hts iX3 hown hK hP 0 rfl rfl 0 (by decide) (hts (.fieldLink RX3 9 "StepAxis$Moves" "cells" "[I") (List.mem_of_getElem? (i := 3) rfl)) (fun _ h9 => h9) rfl dX3_part_25 ?_
        refine lv_iload_n hx hb dX3_part_28 rfl (lv_at hl 1 rfl) ?_
        refine lv_iconst (v := 5) hx hb dX3_part_29 (by decide +kernel) ?_
        refine lv_imul hx hb dX3_part_30 ?_
        refine lv_iload_n hx hb dX3_part_31 rfl (lv_at hl 2 rfl) ?_
        refine lv_iadd hx hb dX3_part_32 ?_
        refine zald (k := (5 * j.toInt.toNat + w.toInt.toNat)) hx hb hK hP 1 0 rfl rfl (IX.of (ix5 (n := nm.toInt.toNat) c1 (by have := (zlt _ _).mp (znle c21); omega) (by omega) c10).1 (ix5 (n := nm.toInt.toNat) c1 (by have := (zlt _ _).mp (znle c21); omega) (by omega) c10).2 (by decide)) dX3_part_33 ?_
        refine lv_goto (tgt := 39) hx hb dX3_part_34 (by decide) ?_
        exact zEi (v := mv (5 * j.toInt.toNat + w.toInt.toNat)) (ws' := [(a6, oB 3 [.ref a7, .int nm]), (a7, aI g 25 mv)]) hx hb hlocks hr rfl hK hP hD hS [0, 1] rfl rfl (by unfold mvR; rw [if_pos ⟨c1, c10⟩, if_pos (znle c21)]) rfl dX3_part_39
    · have c10 := b01_f c10
      refine lv_ldc hx hb hown (hts (.constant RX3 29 (-1000001)) (List.mem_of_getElem? (i := 1) rfl)) dX3_part_13 ?_
      exact zEi (v := (-1000001)) (ws' := [(a6, oB 3 [.ref a7, .int nm]), (a7, aI g 25 mv)]) hx hb hlocks hr rfl hK hP hD hS [0, 1] rfl rfl (by unfold mvR; rw [if_neg (fun h => c10 h.2)]) rfl dX3_part_15
set_option maxHeartbeats 4000000 in
set_option maxRecDepth 100000 in
theorem m_empty (l : Launch) (g : G3) (a6 a7 : Nat) (nm : Int32) (mv : Nat → Int32) : MI l yX3_empty wsX3_empty (rk 0 0) g [.ref a6] [(a6, oB 3 [.ref a7, .int nm]), (a7, aI g 25 mv)] nm [(a6, oB 3 [.ref a7, .int 0]), (a7, aI g 25 mv)] := by
  refine zWalk.met (Qc := fun A => zQi g nm [(a6, oB 3 [.ref a7, .int 0]), (a7, aI g 25 mv)] A) (cc := cX3_empty) (maxL := 2) (ret := (some .int)) ?_ (by decide) rfl (Nat.le_of_ble_eq_true rfl)
  intro pg ev sx mi args below meth cd A H locs ls hx hb hr hml hown hts hlocks hA hE hK hP hD hS hl
  have iX3 : ∀ w ∈ u_ws RX3 TX3 2, w ∈ wsX3_empty := (fun _ h => (List.mem_cons_of_mem _ (List.mem_append_right _ h)))
  have hl : lv_has ls 2 [(0, .ref a6)] := hl
  refine lv_aload_n hx hb dX3_empty_0 rfl (lv_at hl 0 rfl) ?_
  refine va_get (D := g.1) (ci := 3) (v := .int nm) (C := RX3) (T := TX3) (N := 2) hx hb hts iX3 hown hK hP 0 rfl rfl 1 (by decide) (hts (.fieldLink RX3 21 "StepAxis$Moves" "size" "I") (List.mem_of_getElem? (i := 1) rfl)) (fun _ h9 => h9) rfl dX3_empty_1 ?_
  refine lv_istore_n (lv' := [(1, .int nm), (0, .ref a6)]) hx hb dX3_empty_4 rfl hl (by decide) rfl (fun ls hl => ?_)
  refine lv_aload_n hx hb dX3_empty_5 rfl (lv_at hl 1 rfl) ?_
  refine lv_iconst (v := 0) hx hb dX3_empty_6 (by decide +kernel) ?_
  refine va_put (D := g.1) (ci := 3) (v := .int 0) (ty := .int) (C := RX3) (T := TX3) (N := 2) hx hb hts iX3 tyX3 tyX3_ok nmX3 hown hK hP hD hS 0 rfl rfl 1 (by decide) (hts (.fieldLink RX3 21 "StepAxis$Moves" "size" "I") (List.mem_of_getElem? (i := 1) rfl)) (fun _ h9 => h9) rfl (by decide +kernel) rfl rfl (Nat.le_of_ble_eq_true rfl) dX3_empty_7 (fun H locs hP hD hS => ?_)
  have hP : va_P g.1 vwCl [(a6, oB 3 [.ref a7, .int 0]), (a7, aI g 25 mv)] H := hP
  have hD : va_D A [(a6, oB 3 [.ref a7, .int 0]), (a7, aI g 25 mv)] := hD
  refine lv_iload_n hx hb dX3_empty_10 rfl (lv_at hl 0 rfl) ?_
  exact zEi (v := nm) (ws' := [(a6, oB 3 [.ref a7, .int 0]), (a7, aI g 25 mv)]) hx hb hlocks hr rfl hK hP hD hS [0, 1] rfl rfl rfl rfl dX3_empty_11
set_option maxHeartbeats 4000000 in
set_option maxRecDepth 100000 in
theorem m_mcopy (l : Launch) (g : G3) (d6 d7 : Nat) (nm2 : Int32) (mv2 : Nat → Int32) (a6 a7 : Nat) (nm : Int32) (mv : Nat → Int32) : MV l yX3_copyFrom wsX3_copyFrom (rk 1 60) g [.ref d6, .ref a6] [(d6, oB 3 [.ref d7, .int nm2]), (d7, aI g 25 mv2), (a6, oB 3 [.ref a7, .int nm]), (a7, aI g 25 mv)] [(d6, oB 3 [.ref d7, .int nm]), (d7, aI g 25 mv), (a6, oB 3 [.ref a7, .int nm]), (a7, aI g 25 mv)] := by
  refine zWalk.met (Qc := fun A => zQv g [(d6, oB 3 [.ref d7, .int nm]), (d7, aI g 25 mv), (a6, oB 3 [.ref a7, .int nm]), (a7, aI g 25 mv)] A) (cc := cX3_copyFrom) (maxL := 2) (ret := none) ?_ (by decide) rfl (Nat.le_of_ble_eq_true rfl)
  intro pg ev sx mi args below meth cd A H locs ls hx hb hr hml hown hts hlocks hA hE hK hP hD hS hl
  have iX3 : ∀ w ∈ u_ws RX3 TX3 2, w ∈ wsX3_copyFrom := (fun _ h => (List.mem_cons_of_mem _ (List.mem_append_right _ h)))
  have hl : lv_has ls 2 [(0, .ref d6), (1, .ref a6)] := hl
  refine lv_aload_n hx hb dX3_copyFrom_0 rfl (lv_at hl 1 rfl) ?_
  refine va_get (D := g.1) (ci := 3) (v := .ref a7) (C := RX3) (T := TX3) (N := 2) hx hb hts iX3 hown hK hP 2 rfl rfl 0 (by decide) (hts (.fieldLink RX3 9 "StepAxis$Moves" "cells" "[I") (List.mem_of_getElem? (i := 1) rfl)) (fun _ h9 => h9) rfl dX3_copyFrom_1 ?_
  refine lv_iconst (v := 0) hx hb dX3_copyFrom_4 (by decide +kernel) ?_
  refine lv_aload_n hx hb dX3_copyFrom_5 rfl (lv_at hl 0 rfl) ?_
  refine va_get (D := g.1) (ci := 3) (v := .ref d7) (C := RX3) (T := TX3) (N := 2) hx hb hts iX3 hown hK hP 0 rfl rfl 0 (by decide) (hts (.fieldLink RX3 9 "StepAxis$Moves" "cells" "[I") (List.mem_of_getElem? (i := 1) rfl)) (fun _ h9 => h9) rfl dX3_copyFrom_6 ?_
  refine lv_iconst (v := 0) hx hb dX3_copyFrom_9 (by decide +kernel) ?_
  refine lv_aload_n hx hb dX3_copyFrom_10 rfl (lv_at hl 0 rfl) ?_
  refine va_get (D := g.1) (ci := 3) (v := .ref d7) (C := RX3) (T := TX3) (N := 2) hx hb hts iX3 hown hK hP 0 rfl rfl 0 (by decide) (hts (.fieldLink RX3 9 "StepAxis$Moves" "cells" "[I") (List.mem_of_getElem? (i := 1) rfl)) (fun _ h9 => h9) rfl dX3_copyFrom_11 ?_
  refine va_alen (v := 25) hx hb hK hP 1 0 rfl (ty := .int) rfl rfl dX3_copyFrom_14 ?_
  refine va_copyi hx hb (hml.trans hl.1.symm) hown (hts (.methodLink RX3 15 arraycopyName) (List.mem_of_getElem? (i := 2) rfl)) (hts (.native arraycopyName) (List.mem_of_getElem? (i := 3) rfl)) (hts (.static arraycopyName) (List.mem_of_getElem? (i := 4) rfl)) (hts (.initialized "java/lang/System") (List.mem_of_getElem? (i := 5) rfl)) hK hP hD hS 3 1 0 0 rfl rfl rfl rfl rfl (by decide +kernel) (by decide +kernel) (by decide +kernel) (by decide +kernel) (by decide +kernel) (fun _ _ => rfl) (Nat.le_of_ble_eq_true rfl) (Nat.le_of_ble_eq_true rfl) dX3_copyFrom_15 (fun H locs hP hD hS => ?_)
  have hP : va_P g.1 vwCl [(d6, oB 3 [.ref d7, .int nm2]), (d7, aI g 25 (va_cpy mv mv2 0 0 25)), (a6, oB 3 [.ref a7, .int nm]), (a7, aI g 25 mv)] H := hP
  have hD : va_D A [(d6, oB 3 [.ref d7, .int nm2]), (d7, aI g 25 (va_cpy mv mv2 0 0 25)), (a6, oB 3 [.ref a7, .int nm]), (a7, aI g 25 mv)] := hD
  have hP := zP_arr (f' := mv) 1 rfl (fun k hk => by unfold va_cpy; rw [if_pos (by omega), Nat.zero_add]; rfl) hP
  have hD := hD.set (p := 1) (e := aI g 25 mv) rfl
  have hP : va_P g.1 vwCl [(d6, oB 3 [.ref d7, .int nm2]), (d7, aI g 25 mv), (a6, oB 3 [.ref a7, .int nm]), (a7, aI g 25 mv)] H := hP
  have hD : va_D A [(d6, oB 3 [.ref d7, .int nm2]), (d7, aI g 25 mv), (a6, oB 3 [.ref a7, .int nm]), (a7, aI g 25 mv)] := hD
  refine lv_aload_n hx hb dX3_copyFrom_18 rfl (lv_at hl 0 rfl) ?_
  refine lv_aload_n hx hb dX3_copyFrom_19 rfl (lv_at hl 1 rfl) ?_
  refine va_get (D := g.1) (ci := 3) (v := .int nm) (C := RX3) (T := TX3) (N := 2) hx hb hts iX3 hown hK hP 2 rfl rfl 1 (by decide) (hts (.fieldLink RX3 21 "StepAxis$Moves" "size" "I") (List.mem_of_getElem? (i := 6) rfl)) (fun _ h9 => h9) rfl dX3_copyFrom_20 ?_
  refine va_put (D := g.1) (ci := 3) (v := .int nm) (ty := .int) (C := RX3) (T := TX3) (N := 2) hx hb hts iX3 tyX3 tyX3_ok nmX3 hown hK hP hD hS 0 rfl rfl 1 (by decide) (hts (.fieldLink RX3 21 "StepAxis$Moves" "size" "I") (List.mem_of_getElem? (i := 6) rfl)) (fun _ h9 => h9) rfl (by decide +kernel) rfl rfl (Nat.le_of_ble_eq_true rfl) dX3_copyFrom_23 (fun H locs hP hD hS => ?_)
  have hP : va_P g.1 vwCl [(d6, oB 3 [.ref d7, .int nm]), (d7, aI g 25 mv), (a6, oB 3 [.ref a7, .int nm]), (a7, aI g 25 mv)] H := hP
  have hD : va_D A [(d6, oB 3 [.ref d7, .int nm]), (d7, aI g 25 mv), (a6, oB 3 [.ref a7, .int nm]), (a7, aI g 25 mv)] := hD
  exact zEv (ws' := [(d6, oB 3 [.ref d7, .int nm]), (d7, aI g 25 mv), (a6, oB 3 [.ref a7, .int nm]), (a7, aI g 25 mv)]) hx hb hlocks hr hK hP hD hS [0, 1, 2, 3] rfl rfl rfl dX3_copyFrom_26
set_option maxHeartbeats 4000000 in
set_option maxRecDepth 100000 in
theorem m_putSetting (l : Launch) (g : G3) (a0 a1 a2 a6 : Nat) (low high told pc hd hm cl sp ms tm : Int32) (st : Nat → Int32) (w v : Int32) : MI l yX7_putSetting wsX7_putSetting (rk 1 22) g [.ref a0, .int w, .int v] [(a0, oB 7 [.ref a1, .ref a2, .ref a6, .int low, .int high, .int told, .int pc, .int hd, .int hm, .int cl, .int sp, .int ms, .int tm]), (a1, aI g 8 st)] (stR st w v) [(a0, oB 7 [.ref a1, .ref a2, .ref a6, .int low, .int high, .int told, .int pc, .int hd, .int hm, .int cl, .int sp, .int ms, .int tm]), (a1, aI g 8 (if stP w v then upd st w.toInt.toNat v else st))] := by
  refine zWalk.met (Qc := fun A => zQi g (stR st w v) [(a0, oB 7 [.ref a1, .ref a2, .ref a6, .int low, .int high, .int told, .int pc, .int hd, .int hm, .int cl, .int sp, .int ms, .int tm]), (a1, aI g 8 (if stP w v then upd st w.toInt.toNat v else st))] A) (cc := cX7_putSetting) (maxL := 4) (ret := (some .int)) ?_ (by decide) rfl (Nat.le_of_ble_eq_true rfl)
  intro pg ev sx mi args below meth cd A H locs ls hx hb hr hml hown hts hlocks hA hE hK hP hD hS hl
  have iX7 : ∀ w ∈ u_ws RX7 TX7 13, w ∈ wsX7_putSetting := (fun _ h => (List.mem_cons_of_mem _ (List.mem_append_right _ h)))
  have hl : lv_has ls 4 [(0, .ref a0), (1, .int w), (2, .int v)] := hl
  obtain ⟨t2, hZ2, hT2⟩ := hE.2.2.1
  obtain ⟨t3, hZ3, hT3⟩ := hE.2.2.2
  refine lv_iload_n hx hb dX7_putSetting_0 rfl (lv_at hl 1 rfl) ?_
  refine lv_iconst (v := 0) hx hb dX7_putSetting_1 (by decide +kernel) ?_
  refine lv_bipush (v := 7) hx hb dX7_putSetting_2 (by decide +kernel) ?_
  refine zNI (As := [.int w, .int 0, .int 7]) (rest := []) (wc := []) (wr := [(a0, oB 7 [.ref a1, .ref a2, .ref a6, .int low, .int high, .int told, .int pc, .int hd, .int hm, .int cl, .int sp, .int ms, .int tm]), (a1, aI g 8 st)]) (wc' := []) ⟨hx, hb, hml, hown, hts⟩ (m_within l g w 0 7) ⟨va_cnB 3 hts gX7_putSetting_X8_within_n44 rfl rfl rfl (nwm_10 hE.1) (hts (.initialized RX8) (List.mem_of_getElem? (i := 4) rfl)) (by decide +kernel) ⟨Nat.le_of_ble_eq_true rfl, Nat.le_of_ble_eq_true rfl⟩, (hts (.static yX8_within) (List.mem_of_getElem? (i := 3) rfl)), trivial⟩ hE hK hP hD hS hA [] [0, 1] rfl rfl rfl rfl (by decide) rfl hl.1 rfl (lv_room (Nat.le_of_ble_eq_true rfl)) ⟨Nat.zero_le _, Nat.zero_le _⟩ dX7_putSetting_4 (fun H locs hP hD hS => ?_)
  have hP : va_P g.1 vwCl [(a0, oB 7 [.ref a1, .ref a2, .ref a6, .int low, .int high, .int told, .int pc, .int hd, .int hm, .int cl, .int sp, .int ms, .int tm]), (a1, aI g 8 st)] H := hP
  have hD : va_D A [(a0, oB 7 [.ref a1, .ref a2, .ref a6, .int low, .int high, .int told, .int pc, .int hd, .int hm, .int cl, .int sp, .int ms, .int tm]), (a1, aI g 8 st)] := hD
  refine lv_if_eq (tgt := 27) hx hb dX7_putSetting_7 (by decide) (fun c7 => ?_) (fun c7 => ?_)
  · have c7 := b01_f c7
    refine lv_ldc hx hb hown (hts (.constant RX7 54 (-1000001)) (List.mem_of_getElem? (i := 1) rfl)) dX7_putSetting_27 ?_
    exact zEi (v := (-1000001)) (ws' := [(a0, oB 7 [.ref a1, .ref a2, .ref a6, .int low, .int high, .int told, .int pc, .int hd, .int hm, .int cl, .int sp, .int ms, .int tm]), (a1, aI g 8 st)]) hx hb hlocks hr rfl hK hP hD hS [0, 1] rfl rfl (by unfold stR; rw [if_neg (fun h => c7 h.1)]) (by rw [if_neg (show ¬ stP w v from fun h => c7 h.1)]) dX7_putSetting_29
  · have c7 := b01_t c7
    refine lv_iload_n hx hb dX7_putSetting_10 rfl (lv_at hl 2 rfl) ?_
    refine va_getsN (host := "StepAxis") (ref := "StepAxis") (own := RX7) hx hb hZ2 hS hown (nwf_29 hE.1) (fun _ h9 => h9) dX7_putSetting_11 ?_
    refine lv_iload_n hx hb dX7_putSetting_14 rfl (lv_at hl 1 rfl) ?_
    refine zti (k := w.toInt.toNat) hx hb hT2 hS (IX.z (zp0 c7.1) (by have := (zle _ _).mp c7.2; have e := i7; omega)) dX7_putSetting_15 ?_
    refine zTop (y := leT w) (least_eq c7) ?_
    refine va_getsN (host := "StepAxis") (ref := "StepAxis") (own := RX7) hx hb hZ3 hS hown (nwf_30 hE.1) (fun _ h9 => h9) dX7_putSetting_16 ?_
    refine lv_iload_n hx hb dX7_putSetting_19 rfl (lv_at hl 1 rfl) ?_
    refine zti (k := w.toInt.toNat) hx hb hT3 hS (IX.z (zp0 c7.1) (by have := (zle _ _).mp c7.2; have e := i7; omega)) dX7_putSetting_20 ?_
    refine zTop (y := moT w) (great_eq c7) ?_
    refine zNI (As := [.int v, .int (leT w), .int (moT w)]) (rest := []) (wc := []) (wr := [(a0, oB 7 [.ref a1, .ref a2, .ref a6, .int low, .int high, .int told, .int pc, .int hd, .int hm, .int cl, .int sp, .int ms, .int tm]), (a1, aI g 8 st)]) (wc' := []) ⟨hx, hb, hml, hown, hts⟩ (m_within l g v (leT w) (moT w)) ⟨va_cnB 3 hts gX7_putSetting_X8_within_n44 rfl rfl rfl (nwm_10 hE.1) (hts (.initialized RX8) (List.mem_of_getElem? (i := 4) rfl)) (by decide +kernel) ⟨Nat.le_of_ble_eq_true rfl, Nat.le_of_ble_eq_true rfl⟩, (hts (.static yX8_within) (List.mem_of_getElem? (i := 3) rfl)), trivial⟩ hE hK hP hD hS hA [] [0, 1] rfl rfl rfl rfl (by decide) rfl hl.1 rfl (lv_room (Nat.le_of_ble_eq_true rfl)) ⟨Nat.zero_le _, Nat.zero_le _⟩ dX7_putSetting_21 (fun H locs hP hD hS => ?_)
    have hP : va_P g.1 vwCl [(a0, oB 7 [.ref a1, .ref a2, .ref a6, .int low, .int high, .int told, .int pc, .int hd, .int hm, .int cl, .int sp, .int ms, .int tm]), (a1, aI g 8 st)] H := hP
    have hD : va_D A [(a0, oB 7 [.ref a1, .ref a2, .ref a6, .int low, .int high, .int told, .int pc, .int hd, .int hm, .int cl, .int sp, .int ms, .int tm]), (a1, aI g 8 st)] := hD
    refine lv_if_ne (tgt := 30) hx hb dX7_putSetting_24 (by decide) (fun c24 => ?_) (fun c24 => ?_)
    · have c24 := b01_t c24
      refine lv_aload_n hx hb dX7_putSetting_30 rfl (lv_at hl 0 rfl) ?_
      refine va_get (D := g.1) (ci := 7) (v := .ref a1) (C := RX7) (T := TX7) (N := 13) hx hb hts iX7 hown hK hP 0 rfl rfl 0 (by decide) (hts (.fieldLink RX7 18 "StepAxis$State" "settings" "[I") (List.mem_of_getElem? (i := 2) rfl)) (fun _ h9 => h9) rfl dX7_putSetting_31 ?_
      refine lv_iload_n hx hb dX7_putSetting_34 rfl (lv_at hl 1 rfl) ?_
      refine zald (k := w.toInt.toNat) hx hb hK hP 1 0 rfl rfl (IX.z (zp0 c7.1) (by have := (zle _ _).mp c7.2; have e := i7; omega)) dX7_putSetting_35 ?_
      refine lv_istore_n (lv' := [(3, .int (st w.toInt.toNat)), (0, .ref a0), (1, .int w), (2, .int v)]) hx hb dX7_putSetting_36 rfl hl (by decide) rfl (fun ls hl => ?_)
      refine lv_aload_n hx hb dX7_putSetting_37 rfl (lv_at hl 1 rfl) ?_
      refine va_get (D := g.1) (ci := 7) (v := .ref a1) (C := RX7) (T := TX7) (N := 13) hx hb hts iX7 hown hK hP 0 rfl rfl 0 (by decide) (hts (.fieldLink RX7 18 "StepAxis$State" "settings" "[I") (List.mem_of_getElem? (i := 2) rfl)) (fun _ h9 => h9) rfl dX7_putSetting_38 ?_
      refine lv_iload_n hx hb dX7_putSetting_41 rfl (lv_at hl 2 rfl) ?_
      refine lv_iload_n hx hb dX7_putSetting_42 rfl (lv_at hl 3 rfl) ?_
      refine zast (k := w.toInt.toNat) hx hb hK hP hD hS 1 0 rfl rfl (IX.z (zp0 c7.1) (by have := (zle _ _).mp c7.2; have e := i7; omega)) dX7_putSetting_43 (fun H locs hP hD hS => ?_)
      have hP : va_P g.1 vwCl [(a0, oB 7 [.ref a1, .ref a2, .ref a6, .int low, .int high, .int told, .int pc, .int hd, .int hm, .int cl, .int sp, .int ms, .int tm]), (a1, aI g 8 (upd st w.toInt.toNat v))] H := hP
      have hD : va_D A [(a0, oB 7 [.ref a1, .ref a2, .ref a6, .int low, .int high, .int told, .int pc, .int hd, .int hm, .int cl, .int sp, .int ms, .int tm]), (a1, aI g 8 (upd st w.toInt.toNat v))] := hD
      refine lv_iload_n hx hb dX7_putSetting_44 rfl (lv_at hl 0 rfl) ?_
      exact zEi (v := st w.toInt.toNat) (ws' := [(a0, oB 7 [.ref a1, .ref a2, .ref a6, .int low, .int high, .int told, .int pc, .int hd, .int hm, .int cl, .int sp, .int ms, .int tm]), (a1, aI g 8 (upd st w.toInt.toNat v))]) hx hb hlocks hr rfl hK hP hD hS [0, 1] rfl rfl (by unfold stR; rw [if_pos ⟨c7, c24⟩]) (by rw [if_pos (show stP w v from ⟨c7, c24⟩)]) dX7_putSetting_45
    · have c24 := b01_f c24
      refine lv_ldc hx hb hown (hts (.constant RX7 54 (-1000001)) (List.mem_of_getElem? (i := 1) rfl)) dX7_putSetting_27 ?_
      exact zEi (v := (-1000001)) (ws' := [(a0, oB 7 [.ref a1, .ref a2, .ref a6, .int low, .int high, .int told, .int pc, .int hd, .int hm, .int cl, .int sp, .int ms, .int tm]), (a1, aI g 8 st)]) hx hb hlocks hr rfl hK hP hD hS [0, 1] rfl rfl (by unfold stR; rw [if_neg (fun h => c24 h.2)]) (by rw [if_neg (show ¬ stP w v from fun h => c24 h.2)]) dX7_putSetting_29
set_option maxHeartbeats 4000000 in
set_option maxRecDepth 100000 in
theorem m_putLimits (l : Launch) (g : G3) (a0 a1 a2 a6 : Nat) (low high told pc hd hm cl sp ms tm : Int32) (p q : Int32) : MI l yX7_putLimits wsX7_putLimits (rk 1 22) g [.ref a0, .int p, .int q] [(a0, oB 7 [.ref a1, .ref a2, .ref a6, .int low, .int high, .int told, .int pc, .int hd, .int hm, .int cl, .int sp, .int ms, .int tm])] (lmR told p q) [(a0, oB 7 [.ref a1, .ref a2, .ref a6, .int (if lmP p q then p else low), .int (if lmP p q then q else high), .int told, .int pc, .int hd, .int hm, .int cl, .int sp, .int ms, .int tm])] := by
  refine zWalk.met (Qc := fun A => zQi g (lmR told p q) [(a0, oB 7 [.ref a1, .ref a2, .ref a6, .int (if lmP p q then p else low), .int (if lmP p q then q else high), .int told, .int pc, .int hd, .int hm, .int cl, .int sp, .int ms, .int tm])] A) (cc := cX7_putLimits) (maxL := 3) (ret := (some .int)) ?_ (by decide) rfl (Nat.le_of_ble_eq_true rfl)
  intro pg ev sx mi args below meth cd A H locs ls hx hb hr hml hown hts hlocks hA hE hK hP hD hS hl
  have iX7 : ∀ w ∈ u_ws RX7 TX7 13, w ∈ wsX7_putLimits := (fun _ h => (List.mem_cons_of_mem _ (List.mem_append_right _ h)))
  have hl : lv_has ls 3 [(0, .ref a0), (1, .int p), (2, .int q)] := hl
  refine lv_iload_n hx hb dX7_putLimits_0 rfl (lv_at hl 1 rfl) ?_
  refine lv_sipush (v := (-2000)) hx hb dX7_putLimits_1 (by decide +kernel) ?_
  refine lv_sipush (v := 2000) hx hb dX7_putLimits_4 (by decide +kernel) ?_
  refine zNI (As := [.int p, .int (-2000), .int 2000]) (rest := []) (wc := []) (wr := [(a0, oB 7 [.ref a1, .ref a2, .ref a6, .int low, .int high, .int told, .int pc, .int hd, .int hm, .int cl, .int sp, .int ms, .int tm])]) (wc' := []) ⟨hx, hb, hml, hown, hts⟩ (m_within l g p (-2000) 2000) ⟨va_cnB 3 hts gX7_putLimits_X8_within_n44 rfl rfl rfl (nwm_10 hE.1) (hts (.initialized RX8) (List.mem_of_getElem? (i := 6) rfl)) (by decide +kernel) ⟨Nat.le_of_ble_eq_true rfl, Nat.le_of_ble_eq_true rfl⟩, (hts (.static yX8_within) (List.mem_of_getElem? (i := 5) rfl)), trivial⟩ hE hK hP hD hS hA [] [0] rfl rfl rfl rfl (by decide) rfl hl.1 rfl (lv_room (Nat.le_of_ble_eq_true rfl)) ⟨Nat.zero_le _, Nat.zero_le _⟩ dX7_putLimits_7 (fun H locs hP hD hS => ?_)
  have hP : va_P g.1 vwCl [(a0, oB 7 [.ref a1, .ref a2, .ref a6, .int low, .int high, .int told, .int pc, .int hd, .int hm, .int cl, .int sp, .int ms, .int tm])] H := hP
  have hD : va_D A [(a0, oB 7 [.ref a1, .ref a2, .ref a6, .int low, .int high, .int told, .int pc, .int hd, .int hm, .int cl, .int sp, .int ms, .int tm])] := hD
  refine lv_if_eq (tgt := 24) hx hb dX7_putLimits_10 (by decide) (fun c10 => ?_) (fun c10 => ?_)
  · have c10 := b01_f c10
    refine lv_ldc hx hb hown (hts (.constant RX7 54 (-1000001)) (List.mem_of_getElem? (i := 1) rfl)) dX7_putLimits_24 ?_
    exact zEi (v := (-1000001)) (ws' := [(a0, oB 7 [.ref a1, .ref a2, .ref a6, .int low, .int high, .int told, .int pc, .int hd, .int hm, .int cl, .int sp, .int ms, .int tm])]) hx hb hlocks hr rfl hK hP hD hS [0] rfl rfl (by unfold lmR; rw [if_neg (fun h => c10 h.1)]) (by simp only [if_neg (show ¬ lmP p q from fun h => c10 h.1)]) dX7_putLimits_26
  · have c10 := b01_t c10
    refine lv_iload_n hx hb dX7_putLimits_13 rfl (lv_at hl 2 rfl) ?_
    refine lv_iload_n hx hb dX7_putLimits_14 rfl (lv_at hl 1 rfl) ?_
    refine lv_sipush (v := 2000) hx hb dX7_putLimits_15 (by decide +kernel) ?_
    refine zNI (As := [.int q, .int p, .int 2000]) (rest := []) (wc := []) (wr := [(a0, oB 7 [.ref a1, .ref a2, .ref a6, .int low, .int high, .int told, .int pc, .int hd, .int hm, .int cl, .int sp, .int ms, .int tm])]) (wc' := []) ⟨hx, hb, hml, hown, hts⟩ (m_within l g q p 2000) ⟨va_cnB 3 hts gX7_putLimits_X8_within_n44 rfl rfl rfl (nwm_10 hE.1) (hts (.initialized RX8) (List.mem_of_getElem? (i := 6) rfl)) (by decide +kernel) ⟨Nat.le_of_ble_eq_true rfl, Nat.le_of_ble_eq_true rfl⟩, (hts (.static yX8_within) (List.mem_of_getElem? (i := 5) rfl)), trivial⟩ hE hK hP hD hS hA [] [0] rfl rfl rfl rfl (by decide) rfl hl.1 rfl (lv_room (Nat.le_of_ble_eq_true rfl)) ⟨Nat.zero_le _, Nat.zero_le _⟩ dX7_putLimits_18 (fun H locs hP hD hS => ?_)
    have hP : va_P g.1 vwCl [(a0, oB 7 [.ref a1, .ref a2, .ref a6, .int low, .int high, .int told, .int pc, .int hd, .int hm, .int cl, .int sp, .int ms, .int tm])] H := hP
    have hD : va_D A [(a0, oB 7 [.ref a1, .ref a2, .ref a6, .int low, .int high, .int told, .int pc, .int hd, .int hm, .int cl, .int sp, .int ms, .int tm])] := hD
    refine lv_if_ne (tgt := 27) hx hb dX7_putLimits_21 (by decide) (fun c21 => ?_) (fun c21 => ?_)
    · have c21 := b01_t c21
      refine lv_aload_n hx hb dX7_putLimits_27 rfl (lv_at hl 0 rfl) ?_
      refine lv_iload_n hx hb dX7_putLimits_28 rfl (lv_at hl 1 rfl) ?_
      refine va_put (D := g.1) (ci := 7) (v := .int p) (ty := .int) (C := RX7) (T := TX7) (N := 13) hx hb hts iX7 tyX7 tyX7_ok nmX7 hown hK hP hD hS 0 rfl rfl 3 (by decide) (hts (.fieldLink RX7 37 "StepAxis$State" "low" "I") (List.mem_of_getElem? (i := 2) rfl)) (fun _ h9 => h9) rfl (by decide +kernel) rfl rfl (Nat.le_of_ble_eq_true rfl) dX7_putLimits_29 (fun H locs hP hD hS => ?_)
      have hP : va_P g.1 vwCl [(a0, oB 7 [.ref a1, .ref a2, .ref a6, .int p, .int high, .int told, .int pc, .int hd, .int hm, .int cl, .int sp, .int ms, .int tm])] H := hP
      have hD : va_D A [(a0, oB 7 [.ref a1, .ref a2, .ref a6, .int p, .int high, .int told, .int pc, .int hd, .int hm, .int cl, .int sp, .int ms, .int tm])] := hD
      refine lv_aload_n hx hb dX7_putLimits_32 rfl (lv_at hl 0 rfl) ?_
      refine lv_iload_n hx hb dX7_putLimits_33 rfl (lv_at hl 2 rfl) ?_
      refine va_put (D := g.1) (ci := 7) (v := .int q) (ty := .int) (C := RX7) (T := TX7) (N := 13) hx hb hts iX7 tyX7 tyX7_ok nmX7 hown hK hP hD hS 0 rfl rfl 4 (by decide) (hts (.fieldLink RX7 41 "StepAxis$State" "high" "I") (List.mem_of_getElem? (i := 3) rfl)) (fun _ h9 => h9) rfl (by decide +kernel) rfl rfl (Nat.le_of_ble_eq_true rfl) dX7_putLimits_34 (fun H locs hP hD hS => ?_)
      have hP : va_P g.1 vwCl [(a0, oB 7 [.ref a1, .ref a2, .ref a6, .int p, .int q, .int told, .int pc, .int hd, .int hm, .int cl, .int sp, .int ms, .int tm])] H := hP
      have hD : va_D A [(a0, oB 7 [.ref a1, .ref a2, .ref a6, .int p, .int q, .int told, .int pc, .int hd, .int hm, .int cl, .int sp, .int ms, .int tm])] := hD
      refine lv_aload_n hx hb dX7_putLimits_37 rfl (lv_at hl 0 rfl) ?_
      refine va_get (D := g.1) (ci := 7) (v := .int told) (C := RX7) (T := TX7) (N := 13) hx hb hts iX7 hown hK hP 0 rfl rfl 5 (by decide) (hts (.fieldLink RX7 55 "StepAxis$State" "told" "I") (List.mem_of_getElem? (i := 4) rfl)) (fun _ h9 => h9) rfl dX7_putLimits_38 ?_
      refine lv_iload_n hx hb dX7_putLimits_41 rfl (lv_at hl 1 rfl) ?_
      refine lv_iload_n hx hb dX7_putLimits_42 rfl (lv_at hl 2 rfl) ?_
      refine zNI (As := [.int told, .int p, .int q]) (rest := []) (wc := []) (wr := [(a0, oB 7 [.ref a1, .ref a2, .ref a6, .int p, .int q, .int told, .int pc, .int hd, .int hm, .int cl, .int sp, .int ms, .int tm])]) (wc' := []) ⟨hx, hb, hml, hown, hts⟩ (m_within l g told p q) ⟨va_cnB 3 hts gX7_putLimits_X8_within_n44 rfl rfl rfl (nwm_10 hE.1) (hts (.initialized RX8) (List.mem_of_getElem? (i := 6) rfl)) (by decide +kernel) ⟨Nat.le_of_ble_eq_true rfl, Nat.le_of_ble_eq_true rfl⟩, (hts (.static yX8_within) (List.mem_of_getElem? (i := 5) rfl)), trivial⟩ hE hK hP hD hS hA [] [0] rfl rfl rfl rfl (by decide) rfl hl.1 rfl (lv_room (Nat.le_of_ble_eq_true rfl)) ⟨Nat.zero_le _, Nat.zero_le _⟩ dX7_putLimits_43 (fun H locs hP hD hS => ?_)
      have hP : va_P g.1 vwCl [(a0, oB 7 [.ref a1, .ref a2, .ref a6, .int p, .int q, .int told, .int pc, .int hd, .int hm, .int cl, .int sp, .int ms, .int tm])] H := hP
      have hD : va_D A [(a0, oB 7 [.ref a1, .ref a2, .ref a6, .int p, .int q, .int told, .int pc, .int hd, .int hm, .int cl, .int sp, .int ms, .int tm])] := hD
      refine lv_if_eq (tgt := 53) hx hb dX7_putLimits_46 (by decide) (fun c46 => ?_) (fun c46 => ?_)
      · have c46 := b01_f c46
        refine lv_iconst (v := 0) hx hb dX7_putLimits_53 (by decide +kernel) ?_
        exact zEi (v := 0) (ws' := [(a0, oB 7 [.ref a1, .ref a2, .ref a6, .int p, .int q, .int told, .int pc, .int hd, .int hm, .int cl, .int sp, .int ms, .int tm])]) hx hb hlocks hr rfl hK hP hD hS [0] rfl rfl (by unfold lmR; rw [if_pos ⟨c10, c21⟩]; exact (b01_0 c46).symm) (by simp only [if_pos (show lmP p q from ⟨c10, c21⟩)]) dX7_putLimits_54
      · have c46 := b01_t c46
        refine lv_iconst (v := 1) hx hb dX7_putLimits_49 (by decide +kernel) ?_
        refine lv_goto (tgt := 54) hx hb dX7_putLimits_50 (by decide) ?_
        exact zEi (v := 1) (ws' := [(a0, oB 7 [.ref a1, .ref a2, .ref a6, .int p, .int q, .int told, .int pc, .int hd, .int hm, .int cl, .int sp, .int ms, .int tm])]) hx hb hlocks hr rfl hK hP hD hS [0] rfl rfl (by unfold lmR; rw [if_pos ⟨c10, c21⟩]; exact (b01_1 c46).symm) (by simp only [if_pos (show lmP p q from ⟨c10, c21⟩)]) dX7_putLimits_54
    · have c21 := b01_f c21
      refine lv_ldc hx hb hown (hts (.constant RX7 54 (-1000001)) (List.mem_of_getElem? (i := 1) rfl)) dX7_putLimits_24 ?_
      exact zEi (v := (-1000001)) (ws' := [(a0, oB 7 [.ref a1, .ref a2, .ref a6, .int low, .int high, .int told, .int pc, .int hd, .int hm, .int cl, .int sp, .int ms, .int tm])]) hx hb hlocks hr rfl hK hP hD hS [0] rfl rfl (by unfold lmR; rw [if_neg (fun h => c21 h.2)]) (by simp only [if_neg (show ¬ lmP p q from fun h => c21 h.2)]) dX7_putLimits_26
set_option maxHeartbeats 4000000 in
set_option maxRecDepth 100000 in
theorem m_becomeHomed (l : Launch) (g : G3) (a0 a1 a2 a6 : Nat) (low high told pc hd hm cl sp ms tm : Int32) : MV l yX7_becomeHomed wsX7_becomeHomed (rk 0 0) g [.ref a0] [(a0, oB 7 [.ref a1, .ref a2, .ref a6, .int low, .int high, .int told, .int pc, .int hd, .int hm, .int cl, .int sp, .int ms, .int tm])] [(a0, oB 7 [.ref a1, .ref a2, .ref a6, .int low, .int high, .int 0, .int pc, .int (-pc), .int 1, .int cl, .int sp, .int ms, .int tm])] := by
  refine zWalk.met (Qc := fun A => zQv g [(a0, oB 7 [.ref a1, .ref a2, .ref a6, .int low, .int high, .int 0, .int pc, .int (-pc), .int 1, .int cl, .int sp, .int ms, .int tm])] A) (cc := cX7_becomeHomed) (maxL := 1) (ret := none) ?_ (by decide) rfl (Nat.le_of_ble_eq_true rfl)
  intro pg ev sx mi args below meth cd A H locs ls hx hb hr hml hown hts hlocks hA hE hK hP hD hS hl
  have iX7 : ∀ w ∈ u_ws RX7 TX7 13, w ∈ wsX7_becomeHomed := (fun _ h => (List.mem_cons_of_mem _ (List.mem_append_right _ h)))
  have hl : lv_has ls 1 [(0, .ref a0)] := hl
  refine lv_aload_n hx hb dX7_becomeHomed_0 rfl (lv_at hl 0 rfl) ?_
  refine lv_iconst (v := 0) hx hb dX7_becomeHomed_1 (by decide +kernel) ?_
  refine va_put (D := g.1) (ci := 7) (v := .int 0) (ty := .int) (C := RX7) (T := TX7) (N := 13) hx hb hts iX7 tyX7 tyX7_ok nmX7 hown hK hP hD hS 0 rfl rfl 5 (by decide) (hts (.fieldLink RX7 55 "StepAxis$State" "told" "I") (List.mem_of_getElem? (i := 1) rfl)) (fun _ h9 => h9) rfl (by decide +kernel) rfl rfl (Nat.le_of_ble_eq_true rfl) dX7_becomeHomed_2 (fun H locs hP hD hS => ?_)
  have hP : va_P g.1 vwCl [(a0, oB 7 [.ref a1, .ref a2, .ref a6, .int low, .int high, .int 0, .int pc, .int hd, .int hm, .int cl, .int sp, .int ms, .int tm])] H := hP
  have hD : va_D A [(a0, oB 7 [.ref a1, .ref a2, .ref a6, .int low, .int high, .int 0, .int pc, .int hd, .int hm, .int cl, .int sp, .int ms, .int tm])] := hD
  refine lv_aload_n hx hb dX7_becomeHomed_5 rfl (lv_at hl 0 rfl) ?_
  refine lv_iconst (v := 1) hx hb dX7_becomeHomed_6 (by decide +kernel) ?_
  refine va_put (D := g.1) (ci := 7) (v := .int 1) (ty := .boolean) (C := RX7) (T := TX7) (N := 13) hx hb hts iX7 tyX7 tyX7_ok nmX7 hown hK hP hD hS 0 rfl rfl 8 (by decide) (hts (.fieldLink RX7 86 "StepAxis$State" "homed" "Z") (List.mem_of_getElem? (i := 2) rfl)) (fun _ h9 => h9) rfl (by decide +kernel) rfl rfl (Nat.le_of_ble_eq_true rfl) dX7_becomeHomed_7 (fun H locs hP hD hS => ?_)
  have hP : va_P g.1 vwCl [(a0, oB 7 [.ref a1, .ref a2, .ref a6, .int low, .int high, .int 0, .int pc, .int hd, .int 1, .int cl, .int sp, .int ms, .int tm])] H := hP
  have hD : va_D A [(a0, oB 7 [.ref a1, .ref a2, .ref a6, .int low, .int high, .int 0, .int pc, .int hd, .int 1, .int cl, .int sp, .int ms, .int tm])] := hD
  refine lv_aload_n hx hb dX7_becomeHomed_10 rfl (lv_at hl 0 rfl) ?_
  refine lv_aload_n hx hb dX7_becomeHomed_11 rfl (lv_at hl 0 rfl) ?_
  refine va_get (D := g.1) (ci := 7) (v := .int pc) (C := RX7) (T := TX7) (N := 13) hx hb hts iX7 hown hK hP 0 rfl rfl 6 (by decide) (hts (.fieldLink RX7 58 "StepAxis$State" "place" "I") (List.mem_of_getElem? (i := 3) rfl)) (fun _ h9 => h9) rfl dX7_becomeHomed_12 ?_
  refine lv_ineg hx hb dX7_becomeHomed_15 ?_
  refine va_put (D := g.1) (ci := 7) (v := .int (-pc)) (ty := .int) (C := RX7) (T := TX7) (N := 13) hx hb hts iX7 tyX7 tyX7_ok nmX7 hown hK hP hD hS 0 rfl rfl 7 (by decide) (hts (.fieldLink RX7 89 "StepAxis$State" "homeDifference" "I") (List.mem_of_getElem? (i := 4) rfl)) (fun _ h9 => h9) rfl (by decide +kernel) rfl rfl (Nat.le_of_ble_eq_true rfl) dX7_becomeHomed_16 (fun H locs hP hD hS => ?_)
  have hP : va_P g.1 vwCl [(a0, oB 7 [.ref a1, .ref a2, .ref a6, .int low, .int high, .int 0, .int pc, .int (-pc), .int 1, .int cl, .int sp, .int ms, .int tm])] H := hP
  have hD : va_D A [(a0, oB 7 [.ref a1, .ref a2, .ref a6, .int low, .int high, .int 0, .int pc, .int (-pc), .int 1, .int cl, .int sp, .int ms, .int tm])] := hD
  exact zEv (ws' := [(a0, oB 7 [.ref a1, .ref a2, .ref a6, .int low, .int high, .int 0, .int pc, .int (-pc), .int 1, .int cl, .int sp, .int ms, .int tm])]) hx hb hlocks hr hK hP hD hS [0] rfl rfl rfl dX7_becomeHomed_19
