set_option maxHeartbeats 4000000 in
set_option maxRecDepth 100000 in
theorem m_note (l : Launch) (g : G3) (g0 : Nat) (dn po rs ca v : Int32) : MV l yX5_note wsX5_note (rk 1 20) g [.ref g0, .int v] [(g0, oB 5 [.int dn, .int po, .int rs, .int ca])] [(g0, oB 5 [.int (ntD dn v), .int po, .int (ntR rs v), .int (ntC ca v)])] := by
  refine zWalk.met (Qc := fun A => zQv g [(g0, oB 5 [.int (ntD dn v), .int po, .int (ntR rs v), .int (ntC ca v)])] A) (cc := cX5_note) (maxL := 2) (ret := none) ?_ (by decide) rfl (Nat.le_of_ble_eq_true rfl)
  intro pg ev sx mi args below meth cd A H locs ls hx hb hr hml hown hts hlocks hA hE hK hP hD hS hl
  have iX5 : ∀ w ∈ u_ws RX5 TX5 4, w ∈ wsX5_note := (fun _ h => (List.mem_cons_of_mem _ (List.mem_append_right _ h)))
  have hl : lv_has ls 2 [(0, .ref g0), (1, .int v)] := hl
  refine lv_iload_n hx hb dX5_note_0 rfl (lv_at hl 1 rfl) ?_
  refine zNI (As := [.int v]) (rest := []) (wc := []) (wr := [(g0, oB 5 [.int dn, .int po, .int rs, .int ca])]) (wc' := []) ⟨hx, hb, hml, hown, hts⟩ (m_isError l g v) ⟨va_cnB 1 hts gX5_note_X8_isError_n42 rfl rfl rfl (nwm_16 hE.1) (hts (.initialized RX8) (List.mem_of_getElem? (i := 5) rfl)) (by decide +kernel) ⟨Nat.le_of_ble_eq_true rfl, Nat.le_of_ble_eq_true rfl⟩, (hts (.static yX8_isError) (List.mem_of_getElem? (i := 4) rfl)), trivial⟩ hE hK hP hD hS hA [] [0] rfl rfl rfl rfl (by decide) rfl hl.1 rfl (lv_room (Nat.le_of_ble_eq_true rfl)) ⟨Nat.zero_le _, Nat.zero_le _⟩ dX5_note_1 (fun H locs hP hD hS => ?_)
  have hP : va_P g.1 vwCl [(g0, oB 5 [.int dn, .int po, .int rs, .int ca])] H := hP
  have hD : va_D A [(g0, oB 5 [.int dn, .int po, .int rs, .int ca])] := hD
  refine lv_if_eq (tgt := 20) hx hb dX5_note_4 (by decide) (fun c4 => ?_) (fun c4 => ?_)
  · have c4 := b01_f c4
    refine lv_aload_n hx hb dX5_note_20 rfl (lv_at hl 0 rfl) ?_
    refine lv_dup hx hb dX5_note_21 rfl ?_
    refine va_get (D := g.1) (ci := 5) (v := .int dn) (C := RX5) (T := TX5) (N := 4) hx hb hts iX5 hown hK hP 0 rfl rfl 0 (by decide) (hts (.fieldLink RX5 9 "StepAxis$Rehearsal" "done" "I") (List.mem_of_getElem? (i := 3) rfl)) (fun _ h9 => h9) rfl dX5_note_22 ?_
    refine lv_iconst (v := 1) hx hb dX5_note_25 (by decide +kernel) ?_
    refine lv_iadd hx hb dX5_note_26 ?_
    refine va_put (D := g.1) (ci := 5) (v := .int (dn + 1)) (ty := .int) (C := RX5) (T := TX5) (N := 4) hx hb hts iX5 tyX5 tyX5_ok nmX5 hown hK hP hD hS 0 rfl rfl 0 (by decide) (hts (.fieldLink RX5 9 "StepAxis$Rehearsal" "done" "I") (List.mem_of_getElem? (i := 3) rfl)) (fun _ h9 => h9) rfl (by decide +kernel) rfl rfl (Nat.le_of_ble_eq_true rfl) dX5_note_27 (fun H locs hP hD hS => ?_)
    have hP : va_P g.1 vwCl [(g0, oB 5 [.int (dn + 1), .int po, .int rs, .int ca])] H := hP
    have hD : va_D A [(g0, oB 5 [.int (dn + 1), .int po, .int rs, .int ca])] := hD
    exact zEv (ws' := [(g0, oB 5 [.int (dn + 1), .int po, .int rs, .int ca])]) hx hb hlocks hr hK hP hD hS [0] rfl rfl (by unfold ntD ntR ntC; rw [if_neg c4, if_neg c4, if_neg c4]) dX5_note_30
  · have c4 := b01_t c4
    refine lv_aload_n hx hb dX5_note_7 rfl (lv_at hl 0 rfl) ?_
    refine lv_iconst (v := 2) hx hb dX5_note_8 (by decide +kernel) ?_
    refine va_put (D := g.1) (ci := 5) (v := .int 2) (ty := .int) (C := RX5) (T := TX5) (N := 4) hx hb hts iX5 tyX5 tyX5_ok nmX5 hown hK hP hD hS 0 rfl rfl 2 (by decide) (hts (.fieldLink RX5 15 "StepAxis$Rehearsal" "reason" "I") (List.mem_of_getElem? (i := 1) rfl)) (fun _ h9 => h9) rfl (by decide +kernel) rfl rfl (Nat.le_of_ble_eq_true rfl) dX5_note_9 (fun H locs hP hD hS => ?_)
    have hP : va_P g.1 vwCl [(g0, oB 5 [.int dn, .int po, .int 2, .int ca])] H := hP
    have hD : va_D A [(g0, oB 5 [.int dn, .int po, .int 2, .int ca])] := hD
    refine lv_aload_n hx hb dX5_note_12 rfl (lv_at hl 0 rfl) ?_
    refine lv_iload_n hx hb dX5_note_13 rfl (lv_at hl 1 rfl) ?_
    refine va_put (D := g.1) (ci := 5) (v := .int v) (ty := .int) (C := RX5) (T := TX5) (N := 4) hx hb hts iX5 tyX5 tyX5_ok nmX5 hown hK hP hD hS 0 rfl rfl 3 (by decide) (hts (.fieldLink RX5 46 "StepAxis$Rehearsal" "cause" "I") (List.mem_of_getElem? (i := 2) rfl)) (fun _ h9 => h9) rfl (by decide +kernel) rfl rfl (Nat.le_of_ble_eq_true rfl) dX5_note_14 (fun H locs hP hD hS => ?_)
    have hP : va_P g.1 vwCl [(g0, oB 5 [.int dn, .int po, .int 2, .int v])] H := hP
    have hD : va_D A [(g0, oB 5 [.int dn, .int po, .int 2, .int v])] := hD
    refine lv_goto (tgt := 30) hx hb dX5_note_17 (by decide) ?_
    exact zEv (ws' := [(g0, oB 5 [.int dn, .int po, .int 2, .int v])]) hx hb hlocks hr hK hP hD hS [0] rfl rfl (by unfold ntD ntR ntC; rw [if_pos c4, if_pos c4, if_pos c4]) dX5_note_30
