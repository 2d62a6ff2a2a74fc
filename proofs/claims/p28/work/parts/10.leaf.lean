set_option maxHeartbeats 4000000 in
set_option maxRecDepth 100000 in
theorem m_within (l : Launch) (g : G3) (v lo hi : Int32) : MI l yX8_within wsX8_within (rk 0 0) g [.int v, .int lo, .int hi] [] (b01 (lo ≤ v ∧ v ≤ hi)) [] := by
  refine zWalk.met (Qc := fun A => zQi g (b01 (lo ≤ v ∧ v ≤ hi)) [] A) (cc := cX8_within) (maxL := 3) (ret := (some .boolean)) ?_ (by decide) rfl (Nat.le_of_ble_eq_true rfl)
  intro pg ev sx mi args below meth cd A H locs ls hx hb hr hml hown hts hlocks hA hE hK hP hD hS hl
  have hl : lv_has ls 3 [(0, .int v), (1, .int lo), (2, .int hi)] := hl
  refine lv_iload_n hx hb dX8_within_0 rfl (lv_at hl 0 rfl) ?_
  refine lv_iload_n hx hb dX8_within_1 rfl (lv_at hl 1 rfl) ?_
  refine lv_icmp_lt (tgt := 14) hx hb dX8_within_2 (by decide) (fun c2 => ?_) (fun c2 => ?_)
  · refine lv_iconst (v := 0) hx hb dX8_within_14 (by decide +kernel) ?_
    exact zEi (v := 0) (ws' := []) hx hb hlocks hr rfl hK hP hD hS [] rfl rfl (b01_0 (fun h => znlt c2 h.1)).symm rfl dX8_within_15
  · refine lv_iload_n hx hb dX8_within_5 rfl (lv_at hl 0 rfl) ?_
    refine lv_iload_n hx hb dX8_within_6 rfl (lv_at hl 2 rfl) ?_
    refine lv_icmp_gt (tgt := 14) hx hb dX8_within_7 (by decide) (fun c7 => ?_) (fun c7 => ?_)
    · refine lv_iconst (v := 0) hx hb dX8_within_14 (by decide +kernel) ?_
      exact zEi (v := 0) (ws' := []) hx hb hlocks hr rfl hK hP hD hS [] rfl rfl (b01_0 (fun h => znlt c7 h.2)).symm rfl dX8_within_15
    · refine lv_iconst (v := 1) hx hb dX8_within_10 (by decide +kernel) ?_
      refine lv_goto (tgt := 15) hx hb dX8_within_11 (by decide) ?_
      exact zEi (v := 1) (ws' := []) hx hb hlocks hr rfl hK hP hD hS [] rfl rfl (b01_1 ⟨zge c2, zge c7⟩).symm rfl dX8_within_15
set_option maxHeartbeats 4000000 in
set_option maxRecDepth 100000 in
theorem m_isBeyondEnd (l : Launch) (g : G3) (v : Int32) : MI l yX8_isBeyondEnd wsX8_isBeyondEnd (rk 0 0) g [.int v] [] (b01 (v < -3000 ∨ 3000 < v)) [] := by
  refine zWalk.met (Qc := fun A => zQi g (b01 (v < -3000 ∨ 3000 < v)) [] A) (cc := cX8_isBeyondEnd) (maxL := 1) (ret := (some .boolean)) ?_ (by decide) rfl (Nat.le_of_ble_eq_true rfl)
  intro pg ev sx mi args below meth cd A H locs ls hx hb hr hml hown hts hlocks hA hE hK hP hD hS hl
  have hl : lv_has ls 1 [(0, .int v)] := hl
  refine lv_iload_n hx hb dX8_isBeyondEnd_0 rfl (lv_at hl 0 rfl) ?_
  refine lv_sipush (v := (-3000)) hx hb dX8_isBeyondEnd_1 (by decide +kernel) ?_
  refine lv_icmp_lt (tgt := 14) hx hb dX8_isBeyondEnd_4 (by decide) (fun c4 => ?_) (fun c4 => ?_)
  · refine lv_iconst (v := 1) hx hb dX8_isBeyondEnd_14 (by decide +kernel) ?_
    refine lv_goto (tgt := 19) hx hb dX8_isBeyondEnd_15 (by decide) ?_
    exact zEi (v := 1) (ws' := []) hx hb hlocks hr rfl hK hP hD hS [] rfl rfl (b01_1 (Or.inl c4)).symm rfl dX8_isBeyondEnd_19
  · refine lv_iload_n hx hb dX8_isBeyondEnd_7 rfl (lv_at hl 0 rfl) ?_
    refine lv_sipush (v := 3000) hx hb dX8_isBeyondEnd_8 (by decide +kernel) ?_
    refine lv_icmp_le (tgt := 18) hx hb dX8_isBeyondEnd_11 (by decide) (fun c11 => ?_) (fun c11 => ?_)
    · refine lv_iconst (v := 0) hx hb dX8_isBeyondEnd_18 (by decide +kernel) ?_
      exact zEi (v := 0) (ws' := []) hx hb hlocks hr rfl hK hP hD hS [] rfl rfl (b01_0 (fun h => h.elim c4 (fun h => zgt c11 h))).symm rfl dX8_isBeyondEnd_19
    · refine lv_iconst (v := 1) hx hb dX8_isBeyondEnd_14 (by decide +kernel) ?_
      refine lv_goto (tgt := 19) hx hb dX8_isBeyondEnd_15 (by decide) ?_
      exact zEi (v := 1) (ws' := []) hx hb hlocks hr rfl hK hP hD hS [] rfl rfl (b01_1 (Or.inr (znle c11))).symm rfl dX8_isBeyondEnd_19
set_option maxHeartbeats 4000000 in
set_option maxRecDepth 100000 in
theorem m_isError (l : Launch) (g : G3) (v : Int32) : MI l yX8_isError wsX8_isError (rk 0 0) g [.int v] [] (b01 (v ≤ -1000001)) [] := by
  refine zWalk.met (Qc := fun A => zQi g (b01 (v ≤ -1000001)) [] A) (cc := cX8_isError) (maxL := 1) (ret := (some .boolean)) ?_ (by decide) rfl (Nat.le_of_ble_eq_true rfl)
  intro pg ev sx mi args below meth cd A H locs ls hx hb hr hml hown hts hlocks hA hE hK hP hD hS hl
  have hl : lv_has ls 1 [(0, .int v)] := hl
  refine lv_iload_n hx hb dX8_isError_0 rfl (lv_at hl 0 rfl) ?_
  refine lv_ldc hx hb hown (hts (.constant RX8 85 (-1000001)) (List.mem_of_getElem? (i := 1) rfl)) dX8_isError_1 ?_
  refine lv_icmp_gt (tgt := 10) hx hb dX8_isError_3 (by decide) (fun c3 => ?_) (fun c3 => ?_)
  · refine lv_iconst (v := 0) hx hb dX8_isError_10 (by decide +kernel) ?_
    exact zEi (v := 0) (ws' := []) hx hb hlocks hr rfl hK hP hD hS [] rfl rfl (b01_0 (znlt c3)).symm rfl dX8_isError_11
  · refine lv_iconst (v := 1) hx hb dX8_isError_6 (by decide +kernel) ?_
    refine lv_goto (tgt := 11) hx hb dX8_isError_7 (by decide) ?_
    exact zEi (v := 1) (ws' := []) hx hb hlocks hr rfl hK hP hD hS [] rfl rfl (b01_1 (zge c3)).symm rfl dX8_isError_11
set_option maxHeartbeats 4000000 in
set_option maxRecDepth 100000 in
theorem m_directionTo (l : Launch) (g : G3) (fm tg : Int32) : MI l yX0_directionTo wsX0_directionTo (rk 0 0) g [.int fm, .int tg] [] (dirT fm tg) [] := by
  refine zWalk.met (Qc := fun A => zQi g (dirT fm tg) [] A) (cc := cX0_directionTo) (maxL := 2) (ret := (some .int)) ?_ (by decide) rfl (Nat.le_of_ble_eq_true rfl)
  intro pg ev sx mi args below meth cd A H locs ls hx hb hr hml hown hts hlocks hA hE hK hP hD hS hl
  have hl : lv_has ls 2 [(0, .int fm), (1, .int tg)] := hl
  refine lv_iload_n hx hb dX0_directionTo_0 rfl (lv_at hl 1 rfl) ?_
  refine lv_iload_n hx hb dX0_directionTo_1 rfl (lv_at hl 0 rfl) ?_
  refine lv_icmp_ge (tgt := 9) hx hb dX0_directionTo_2 (by decide) (fun c2 => ?_) (fun c2 => ?_)
  · refine lv_iconst (v := 1) hx hb dX0_directionTo_9 (by decide +kernel) ?_
    exact zEi (v := 1) (ws' := []) hx hb hlocks hr rfl hK hP hD hS [] rfl rfl (if_neg (zgt c2)).symm rfl dX0_directionTo_10
  · refine lv_iconst (v := (-1)) hx hb dX0_directionTo_5 (by decide +kernel) ?_
    refine lv_goto (tgt := 10) hx hb dX0_directionTo_6 (by decide) ?_
    exact zEi (v := (-1)) (ws' := []) hx hb hlocks hr rfl hK hP hD hS [] rfl rfl (if_pos (znle c2)).symm rfl dX0_directionTo_10
set_option maxHeartbeats 4000000 in
set_option maxRecDepth 100000 in
theorem m_weightAt (l : Launch) (g : G3) (a2 a3 a4 a5 : Nat) (nl : Int32) (fr to wt : Nat → Int32) (pl : Int32) (hnl : 0 ≤ nl.toInt ∧ nl.toInt ≤ 6) : MI l yX2_weightAt wsX2_weightAt (rk 0 0) g [.ref a2, .int pl] [(a2, oB 2 [.ref a3, .ref a4, .ref a5, .int nl]), (a3, aI g 6 fr), (a4, aI g 6 to), (a5, aI g 6 wt)] (lsum fr to wt pl nl.toInt.toNat) [(a2, oB 2 [.ref a3, .ref a4, .ref a5, .int nl]), (a3, aI g 6 fr), (a4, aI g 6 to), (a5, aI g 6 wt)] := by
  refine zWalk.met (Qc := fun A => zQi g (lsum fr to wt pl nl.toInt.toNat) [(a2, oB 2 [.ref a3, .ref a4, .ref a5, .int nl]), (a3, aI g 6 fr), (a4, aI g 6 to), (a5, aI g 6 wt)] A) (cc := cX2_weightAt) (maxL := 4) (ret := (some .int)) ?_ (by decide) rfl (Nat.le_of_ble_eq_true rfl)
  intro pg ev sx mi args below meth cd A H locs ls hx hb hr hml hown hts hlocks hA hE hK hP hD hS hl
  have iX2 : ∀ w ∈ u_ws RX2 TX2 4, w ∈ wsX2_weightAt := (fun _ h => (List.mem_cons_of_mem _ (List.mem_append_right _ h)))
  have hl : lv_has ls 4 [(0, .ref a2), (1, .int pl)] := hl
  obtain ⟨n, hn⟩ : ∃ n, n = nl.toInt.toNat := ⟨_, rfl⟩
  have en : nl = nI n := by rw [hn]; exact zof hnl.1
  have hn6 : n ≤ 6 := by omega
  have eR : lsum fr to wt pl nl.toInt.toNat = lsum fr to wt pl n := by rw [hn]
  rw [eR]
  refine lv_iconst (v := 0) hx hb dX2_weightAt_0 (by decide +kernel) ?_
  refine lv_istore_n (lv' := [(2, .int 0), (0, .ref a2), (1, .int pl)]) hx hb dX2_weightAt_1 rfl hl (by decide) rfl (fun ls hl => ?_)
  refine lv_iconst (v := 0) hx hb dX2_weightAt_2 (by decide +kernel) ?_
  refine lv_istore_n (lv' := [(3, .int 0), (2, .int 0), (0, .ref a2), (1, .int pl)]) hx hb dX2_weightAt_3 rfl hl (by decide) rfl (fun ls hl => ?_)
  have lp4 : ∀ (fu : Nat) (k : Nat) (i : Int32) (sm : Int32), (k ≤ n) → (i = nI k) → (sm = lsum fr to wt pl k) → (n - k) < fu → ∀ (H : Heap) (locs : List Loc), va_P g.1 vwCl [(a2, oB 2 [.ref a3, .ref a4, .ref a5, .int nl]), (a3, aI g 6 fr), (a4, aI g 6 to), (a5, aI g 6 wt)] H → va_D A [(a2, oB 2 [.ref a3, .ref a4, .ref a5, .int nl]), (a3, aI g 6 fr), (a4, aI g 6 to), (a5, aI g 6 wt)] → va_S A sx.heap H locs → ∀ (ls : Array Slot), lv_has ls 4 [(3, .int i), (2, .int sm), (0, .ref a2), (1, .int pl)] → W pg l ev (rk 0 0) sx mi args below meth cd H locs 0 0 (MQ below (zQi g (lsum fr to wt pl n) [(a2, oB 2 [.ref a3, .ref a4, .ref a5, .int nl]), (a3, aI g 6 fr), (a4, aI g 6 to), (a5, aI g 6 wt)] A) args sx 0 0 A) (F0 mi 4 ls []) := by
    intro fu
    induction fu with
    | zero =>
      intro k i sm hk ei es hmu
      exact absurd hmu (Nat.not_lt_zero _)
    | succ fu ih =>
      intro k i sm hk ei es hmu H locs hP hD hS ls hl
      refine lv_iload_n hx hb dX2_weightAt_4 rfl (lv_at hl 0 rfl) ?_
      refine lv_aload_n hx hb dX2_weightAt_5 rfl (lv_at hl 2 rfl) ?_
      refine va_get (D := g.1) (ci := 2) (v := .int nl) (C := RX2) (T := TX2) (N := 4) hx hb hts iX2 hown hK hP 0 rfl rfl 3 (by decide) (hts (.fieldLink RX2 26 "StepAxis$Loads" "size" "I") (List.mem_of_getElem? (i := 1) rfl)) (fun _ h9 => h9) rfl dX2_weightAt_6 ?_
      refine lv_icmp_ge (tgt := 47) hx hb dX2_weightAt_9 (by decide) (fun c9 => ?_) (fun c9 => ?_)
      · have hkn : k = n := Nat.le_antisymm hk (nle_of (by omega) (by omega) (by rw [ei, en] at c9; exact c9))
        refine lv_iload_n hx hb dX2_weightAt_47 rfl (lv_at hl 1 rfl) ?_
        exact zEi (v := sm) (ws' := [(a2, oB 2 [.ref a3, .ref a4, .ref a5, .int nl]), (a3, aI g 6 fr), (a4, aI g 6 to), (a5, aI g 6 wt)]) hx hb hlocks hr rfl hK hP hD hS [0, 1, 2, 3] rfl rfl (by rw [es, hkn]) rfl dX2_weightAt_48
      · have hlt : k < n := nlt_of (by omega) (by rw [ei, en] at c9; exact c9)
        refine lv_iload_n hx hb dX2_weightAt_12 rfl (lv_at hl 3 rfl) ?_
        refine lv_aload_n hx hb dX2_weightAt_13 rfl (lv_at hl 2 rfl) ?_
        refine va_get (D := g.1) (ci := 2) (v := .ref a3) (C := RX2) (T := TX2) (N := 4) hx hb hts iX2 hown hK hP 0 rfl rfl 0 (by decide) (hts (.fieldLink RX2 9 "StepAxis$Loads" "from" "[I") (List.mem_of_getElem? (i := 2) rfl)) (fun _ h9 => h9) rfl dX2_weightAt_14 ?_
        refine lv_iload_n hx hb dX2_weightAt_17 rfl (lv_at hl 0 rfl) ?_
        refine zald (k := k) hx hb hK hP 1 0 rfl rfl (IX.of ei (by omega) (by decide)) dX2_weightAt_18 ?_
        refine lv_icmp_lt (tgt := 41) hx hb dX2_weightAt_19 (by decide) (fun c19 => ?_) (fun c19 => ?_)
        · refine lv_iinc (v := i + 1) (lv' := [(3, .int (i + 1)), (2, .int sm), (0, .ref a2), (1, .int pl)]) hx hb dX2_weightAt_41 hl (k := 0) rfl (by rfl) (by decide) rfl (fun ls hl => ?_)
          refine lv_goto (tgt := 4) hx hb dX2_weightAt_44 (by decide) ?_
          exact ih (k + 1) (i + 1) sm hlt (by rw [ei]; exact nI_1 k) (by rw [es]; exact (lsum_no (fun h => znlt c19 h.1)).symm) (by omega) _ _ (zP_sub hP [0, 1, 2, 3] rfl) (hD.sub [0, 1, 2, 3] rfl rfl) hS ls (lv_sub hl [0, 1, 2, 3] rfl)
        · refine lv_iload_n hx hb dX2_weightAt_22 rfl (lv_at hl 3 rfl) ?_
          refine lv_aload_n hx hb dX2_weightAt_23 rfl (lv_at hl 2 rfl) ?_
          refine va_get (D := g.1) (ci := 2) (v := .ref a4) (C := RX2) (T := TX2) (N := 4) hx hb hts iX2 hown hK hP 0 rfl rfl 1 (by decide) (hts (.fieldLink RX2 15 "StepAxis$Loads" "to" "[I") (List.mem_of_getElem? (i := 3) rfl)) (fun _ h9 => h9) rfl dX2_weightAt_24 ?_
          refine lv_iload_n hx hb dX2_weightAt_27 rfl (lv_at hl 0 rfl) ?_
          refine zald (k := k) hx hb hK hP 2 0 rfl rfl (IX.of ei (by omega) (by decide)) dX2_weightAt_28 ?_
          refine lv_icmp_gt (tgt := 41) hx hb dX2_weightAt_29 (by decide) (fun c29 => ?_) (fun c29 => ?_)
          · refine lv_iinc (v := i + 1) (lv' := [(3, .int (i + 1)), (2, .int sm), (0, .ref a2), (1, .int pl)]) hx hb dX2_weightAt_41 hl (k := 0) rfl (by rfl) (by decide) rfl (fun ls hl => ?_)
            refine lv_goto (tgt := 4) hx hb dX2_weightAt_44 (by decide) ?_
            exact ih (k + 1) (i + 1) sm hlt (by rw [ei]; exact nI_1 k) (by rw [es]; exact (lsum_no (fun h => znlt c29 h.2)).symm) (by omega) _ _ (zP_sub hP [0, 1, 2, 3] rfl) (hD.sub [0, 1, 2, 3] rfl rfl) hS ls (lv_sub hl [0, 1, 2, 3] rfl)
          · refine lv_iload_n hx hb dX2_weightAt_32 rfl (lv_at hl 1 rfl) ?_
            refine lv_aload_n hx hb dX2_weightAt_33 rfl (lv_at hl 2 rfl) ?_
            refine va_get (D := g.1) (ci := 2) (v := .ref a5) (C := RX2) (T := TX2) (N := 4) hx hb hts iX2 hown hK hP 0 rfl rfl 2 (by decide) (hts (.fieldLink RX2 18 "StepAxis$Loads" "weight" "[I") (List.mem_of_getElem? (i := 4) rfl)) (fun _ h9 => h9) rfl dX2_weightAt_34 ?_
            refine lv_iload_n hx hb dX2_weightAt_37 rfl (lv_at hl 0 rfl) ?_
            refine zald (k := k) hx hb hK hP 3 0 rfl rfl (IX.of ei (by omega) (by decide)) dX2_weightAt_38 ?_
            refine lv_iadd hx hb dX2_weightAt_39 ?_
            refine lv_istore_n (lv' := [(2, .int (sm + (wt k))), (3, .int i), (0, .ref a2), (1, .int pl)]) hx hb dX2_weightAt_40 rfl hl (by decide) rfl (fun ls hl => ?_)
            refine lv_iinc (v := i + 1) (lv' := [(3, .int (i + 1)), (2, .int (sm + (wt k))), (0, .ref a2), (1, .int pl)]) hx hb dX2_weightAt_41 hl (k := 1) rfl (by rfl) (by decide) rfl (fun ls hl => ?_)
            refine lv_goto (tgt := 4) hx hb dX2_weightAt_44 (by decide) ?_
            exact ih (k + 1) (i + 1) (sm + (wt k)) hlt (by rw [ei]; exact nI_1 k) (by rw [es]; exact (lsum_yes ⟨zge c19, zge c29⟩).symm) (by omega) _ _ (zP_sub hP [0, 1, 2, 3] rfl) (hD.sub [0, 1, 2, 3] rfl rfl) hS ls (lv_sub hl [0, 1, 2, 3] rfl)
  exact lp4 ((n - 0) + 1) 0 0 0 (Nat.zero_le n) rfl rfl (Nat.lt_succ_self _) _ _ (zP_sub hP [0, 1, 2, 3] rfl) (hD.sub [0, 1, 2, 3] rfl rfl) hS ls (lv_sub hl [0, 1, 2, 3] rfl)
set_option maxHeartbeats 4000000 in
set_option maxRecDepth 100000 in
theorem m_moveSwitch (l : Launch) (g : G3) (a0 a1 a2 a6 : Nat) (low high told pc hd hm cl sp ms tm : Int32) (st : Nat → Int32) : MV l yX7_moveSwitch wsX7_moveSwitch (rk 0 0) g [.ref a0] [(a0, oB 7 [.ref a1, .ref a2, .ref a6, .int low, .int high, .int told, .int pc, .int hd, .int hm, .int cl, .int sp, .int ms, .int tm]), (a1, aI g 8 st)] [(a0, oB 7 [.ref a1, .ref a2, .ref a6, .int low, .int high, .int told, .int pc, .int hd, .int hm, .int (swc pc (st 5) (st 6) cl), .int sp, .int ms, .int tm]), (a1, aI g 8 st)] := by
  refine zWalk.met (Qc := fun A => zQv g [(a0, oB 7 [.ref a1, .ref a2, .ref a6, .int low, .int high, .int told, .int pc, .int hd, .int hm, .int (swc pc (st 5) (st 6) cl), .int sp, .int ms, .int tm]), (a1, aI g 8 st)] A) (cc := cX7_moveSwitch) (maxL := 1) (ret := none) ?_ (by decide) rfl (Nat.le_of_ble_eq_true rfl)
  intro pg ev sx mi args below meth cd A H locs ls hx hb hr hml hown hts hlocks hA hE hK hP hD hS hl
  have iX7 : ∀ w ∈ u_ws RX7 TX7 13, w ∈ wsX7_moveSwitch := (fun _ h => (List.mem_cons_of_mem _ (List.mem_append_right _ h)))
  have hl : lv_has ls 1 [(0, .ref a0)] := hl
  refine lv_aload_n hx hb dX7_moveSwitch_0 rfl (lv_at hl 0 rfl) ?_
  refine va_get (D := g.1) (ci := 7) (v := .int pc) (C := RX7) (T := TX7) (N := 13) hx hb hts iX7 hown hK hP 0 rfl rfl 6 (by decide) (hts (.fieldLink RX7 58 "StepAxis$State" "place" "I") (List.mem_of_getElem? (i := 1) rfl)) (fun _ h9 => h9) rfl dX7_moveSwitch_1 ?_
  refine lv_aload_n hx hb dX7_moveSwitch_4 rfl (lv_at hl 0 rfl) ?_
  refine va_get (D := g.1) (ci := 7) (v := .ref a1) (C := RX7) (T := TX7) (N := 13) hx hb hts iX7 hown hK hP 0 rfl rfl 0 (by decide) (hts (.fieldLink RX7 18 "StepAxis$State" "settings" "[I") (List.mem_of_getElem? (i := 2) rfl)) (fun _ h9 => h9) rfl dX7_moveSwitch_5 ?_
  refine lv_iconst (v := 5) hx hb dX7_moveSwitch_8 (by decide +kernel) ?_
  refine zald (k := 5) hx hb hK hP 1 0 rfl rfl (IX.lit (by decide +kernel)) dX7_moveSwitch_9 ?_
  refine lv_icmp_gt (tgt := 21) hx hb dX7_moveSwitch_10 (by decide) (fun c10 => ?_) (fun c10 => ?_)
  · refine lv_aload_n hx hb dX7_moveSwitch_21 rfl (lv_at hl 0 rfl) ?_
    refine va_get (D := g.1) (ci := 7) (v := .int pc) (C := RX7) (T := TX7) (N := 13) hx hb hts iX7 hown hK hP 0 rfl rfl 6 (by decide) (hts (.fieldLink RX7 58 "StepAxis$State" "place" "I") (List.mem_of_getElem? (i := 1) rfl)) (fun _ h9 => h9) rfl dX7_moveSwitch_22 ?_
    refine lv_aload_n hx hb dX7_moveSwitch_25 rfl (lv_at hl 0 rfl) ?_
    refine va_get (D := g.1) (ci := 7) (v := .ref a1) (C := RX7) (T := TX7) (N := 13) hx hb hts iX7 hown hK hP 0 rfl rfl 0 (by decide) (hts (.fieldLink RX7 18 "StepAxis$State" "settings" "[I") (List.mem_of_getElem? (i := 2) rfl)) (fun _ h9 => h9) rfl dX7_moveSwitch_26 ?_
    refine lv_iconst (v := 5) hx hb dX7_moveSwitch_29 (by decide +kernel) ?_
    refine zald (k := 5) hx hb hK hP 1 0 rfl rfl (IX.lit (by decide +kernel)) dX7_moveSwitch_30 ?_
    refine lv_aload_n hx hb dX7_moveSwitch_31 rfl (lv_at hl 0 rfl) ?_
    refine va_get (D := g.1) (ci := 7) (v := .ref a1) (C := RX7) (T := TX7) (N := 13) hx hb hts iX7 hown hK hP 0 rfl rfl 0 (by decide) (hts (.fieldLink RX7 18 "StepAxis$State" "settings" "[I") (List.mem_of_getElem? (i := 2) rfl)) (fun _ h9 => h9) rfl dX7_moveSwitch_32 ?_
    refine lv_bipush (v := 6) hx hb dX7_moveSwitch_35 (by decide +kernel) ?_
    refine zald (k := 6) hx hb hK hP 1 0 rfl rfl (IX.lit (by decide +kernel)) dX7_moveSwitch_37 ?_
    refine lv_iadd hx hb dX7_moveSwitch_38 ?_
    refine lv_icmp_le (tgt := 47) hx hb dX7_moveSwitch_39 (by decide) (fun c39 => ?_) (fun c39 => ?_)
    · exact zEv (ws' := [(a0, oB 7 [.ref a1, .ref a2, .ref a6, .int low, .int high, .int told, .int pc, .int hd, .int hm, .int cl, .int sp, .int ms, .int tm]), (a1, aI g 8 st)]) hx hb hlocks hr hK hP hD hS [0, 1] rfl rfl (by rw [show swc pc (st 5) (st 6) cl = _ from (if_neg (znlt c10)).trans (if_neg (zgt c39))]) dX7_moveSwitch_47
    · refine lv_aload_n hx hb dX7_moveSwitch_42 rfl (lv_at hl 0 rfl) ?_
      refine lv_iconst (v := 0) hx hb dX7_moveSwitch_43 (by decide +kernel) ?_
      refine va_put (D := g.1) (ci := 7) (v := .int 0) (ty := .boolean) (C := RX7) (T := TX7) (N := 13) hx hb hts iX7 tyX7 tyX7_ok nmX7 hown hK hP hD hS 0 rfl rfl 9 (by decide) (hts (.fieldLink RX7 82 "StepAxis$State" "closed" "Z") (List.mem_of_getElem? (i := 3) rfl)) (fun _ h9 => h9) rfl (by decide +kernel) rfl rfl (Nat.le_of_ble_eq_true rfl) dX7_moveSwitch_44 (fun H locs hP hD hS => ?_)
      have hP : va_P g.1 vwCl [(a0, oB 7 [.ref a1, .ref a2, .ref a6, .int low, .int high, .int told, .int pc, .int hd, .int hm, .int 0, .int sp, .int ms, .int tm]), (a1, aI g 8 st)] H := hP
      have hD : va_D A [(a0, oB 7 [.ref a1, .ref a2, .ref a6, .int low, .int high, .int told, .int pc, .int hd, .int hm, .int 0, .int sp, .int ms, .int tm]), (a1, aI g 8 st)] := hD
      exact zEv (ws' := [(a0, oB 7 [.ref a1, .ref a2, .ref a6, .int low, .int high, .int told, .int pc, .int hd, .int hm, .int 0, .int sp, .int ms, .int tm]), (a1, aI g 8 st)]) hx hb hlocks hr hK hP hD hS [0, 1] rfl rfl (by rw [show swc pc (st 5) (st 6) cl = _ from (if_neg (znlt c10)).trans (if_pos (znle c39))]) dX7_moveSwitch_47
  · refine lv_aload_n hx hb dX7_moveSwitch_13 rfl (lv_at hl 0 rfl) ?_
    refine lv_iconst (v := 1) hx hb dX7_moveSwitch_14 (by decide +kernel) ?_
    refine va_put (D := g.1) (ci := 7) (v := .int 1) (ty := .boolean) (C := RX7) (T := TX7) (N := 13) hx hb hts iX7 tyX7 tyX7_ok nmX7 hown hK hP hD hS 0 rfl rfl 9 (by decide) (hts (.fieldLink RX7 82 "StepAxis$State" "closed" "Z") (List.mem_of_getElem? (i := 3) rfl)) (fun _ h9 => h9) rfl (by decide +kernel) rfl rfl (Nat.le_of_ble_eq_true rfl) dX7_moveSwitch_15 (fun H locs hP hD hS => ?_)
    have hP : va_P g.1 vwCl [(a0, oB 7 [.ref a1, .ref a2, .ref a6, .int low, .int high, .int told, .int pc, .int hd, .int hm, .int 1, .int sp, .int ms, .int tm]), (a1, aI g 8 st)] H := hP
    have hD : va_D A [(a0, oB 7 [.ref a1, .ref a2, .ref a6, .int low, .int high, .int told, .int pc, .int hd, .int hm, .int 1, .int sp, .int ms, .int tm]), (a1, aI g 8 st)] := hD
    refine lv_goto (tgt := 47) hx hb dX7_moveSwitch_18 (by decide) ?_
    exact zEv (ws' := [(a0, oB 7 [.ref a1, .ref a2, .ref a6, .int low, .int high, .int told, .int pc, .int hd, .int hm, .int 1, .int sp, .int ms, .int tm]), (a1, aI g 8 st)]) hx hb hlocks hr hK hP hD hS [0, 1] rfl rfl (by rw [show swc pc (st 5) (st 6) cl = _ from if_pos (zge c10)]) dX7_moveSwitch_47
set_option maxHeartbeats 4000000 in
set_option maxRecDepth 100000 in
theorem m_takeStep (l : Launch) (g : G3) (a0 a1 a2 a3 a4 a5 a6 : Nat) (low high told pc hd hm cl sp ms tm : Int32) (st : Nat → Int32) (nl : Int32) (fr to wt : Nat → Int32) (dir iv pull : Int32) (hnl : 0 ≤ nl.toInt ∧ nl.toInt ≤ 6) : MV l yX7_takeStep wsX7_takeStep (rk 1 23) g [.ref a0, .int dir, .int iv, .int pull] [(a0, oB 7 [.ref a1, .ref a2, .ref a6, .int low, .int high, .int told, .int pc, .int hd, .int hm, .int cl, .int sp, .int ms, .int tm]), (a1, aI g 8 st), (a2, oB 2 [.ref a3, .ref a4, .ref a5, .int nl]), (a3, aI g 6 fr), (a4, aI g 6 to), (a5, aI g 6 wt)] [(a0, oB 7 [.ref a1, .ref a2, .ref a6, .int low, .int high, .int (told + dir), .int (if missP (lsum fr to wt pc nl.toInt.toNat) pull (pc + dir) then pc else pc + dir), .int hd, .int hm, .int (swc (if missP (lsum fr to wt pc nl.toInt.toNat) pull (pc + dir) then pc else pc + dir) (st 5) (st 6) cl), .int (sp + 1), .int (if missP (lsum fr to wt pc nl.toInt.toNat) pull (pc + dir) then ms + 1 else ms), .int (rem1 (tm + iv))]), (a1, aI g 8 st), (a2, oB 2 [.ref a3, .ref a4, .ref a5, .int nl]), (a3, aI g 6 fr), (a4, aI g 6 to), (a5, aI g 6 wt)] := by
  refine zWalk.met (Qc := fun A => zQv g [(a0, oB 7 [.ref a1, .ref a2, .ref a6, .int low, .int high, .int (told + dir), .int (if missP (lsum fr to wt pc nl.toInt.toNat) pull (pc + dir) then pc else pc + dir), .int hd, .int hm, .int (swc (if missP (lsum fr to wt pc nl.toInt.toNat) pull (pc + dir) then pc else pc + dir) (st 5) (st 6) cl), .int (sp + 1), .int (if missP (lsum fr to wt pc nl.toInt.toNat) pull (pc + dir) then ms + 1 else ms), .int (rem1 (tm + iv))]), (a1, aI g 8 st), (a2, oB 2 [.ref a3, .ref a4, .ref a5, .int nl]), (a3, aI g 6 fr), (a4, aI g 6 to), (a5, aI g 6 wt)] A) (cc := cX7_takeStep) (maxL := 5) (ret := none) ?_ (by decide) rfl (Nat.le_of_ble_eq_true rfl)
  intro pg ev sx mi args below meth cd A H locs ls hx hb hr hml hown hts hlocks hA hE hK hP hD hS hl
  have iX7 : ∀ w ∈ u_ws RX7 TX7 13, w ∈ wsX7_takeStep := (fun _ h => (List.mem_cons_of_mem _ (List.mem_append_left _ (List.mem_append_right _ h))))
  have hl : lv_has ls 5 [(0, .ref a0), (1, .int dir), (2, .int iv), (3, .int pull)] := hl
  refine lv_aload_n hx hb dX7_takeStep_0 rfl (lv_at hl 0 rfl) ?_
  refine va_get (D := g.1) (ci := 7) (v := .int pc) (C := RX7) (T := TX7) (N := 13) hx hb hts iX7 hown hK hP 0 rfl rfl 6 (by decide) (hts (.fieldLink RX7 58 "StepAxis$State" "place" "I") (List.mem_of_getElem? (i := 1) rfl)) (fun _ h9 => h9) rfl dX7_takeStep_1 ?_
  refine lv_iload_n hx hb dX7_takeStep_4 rfl (lv_at hl 1 rfl) ?_
  refine lv_iadd hx hb dX7_takeStep_5 ?_
  refine lv_istore (lv' := [(4, .int (pc + dir)), (0, .ref a0), (1, .int dir), (2, .int iv), (3, .int pull)]) hx hb dX7_takeStep_6 hl (by decide) rfl (fun ls hl => ?_)
  refine lv_aload_n hx hb dX7_takeStep_8 rfl (lv_at hl 1 rfl) ?_
  refine lv_dup hx hb dX7_takeStep_9 rfl ?_
  refine va_get (D := g.1) (ci := 7) (v := .int told) (C := RX7) (T := TX7) (N := 13) hx hb hts iX7 hown hK hP 0 rfl rfl 5 (by decide) (hts (.fieldLink RX7 55 "StepAxis$State" "told" "I") (List.mem_of_getElem? (i := 2) rfl)) (fun _ h9 => h9) rfl dX7_takeStep_10 ?_
  refine lv_iload_n hx hb dX7_takeStep_13 rfl (lv_at hl 2 rfl) ?_
  refine lv_iadd hx hb dX7_takeStep_14 ?_
  refine va_put (D := g.1) (ci := 7) (v := .int (told + dir)) (ty := .int) (C := RX7) (T := TX7) (N := 13) hx hb hts iX7 tyX7 tyX7_ok nmX7 hown hK hP hD hS 0 rfl rfl 5 (by decide) (hts (.fieldLink RX7 55 "StepAxis$State" "told" "I") (List.mem_of_getElem? (i := 2) rfl)) (fun _ h9 => h9) rfl (by decide +kernel) rfl rfl (Nat.le_of_ble_eq_true rfl) dX7_takeStep_15 (fun H locs hP hD hS => ?_)
  have hP : va_P g.1 vwCl [(a0, oB 7 [.ref a1, .ref a2, .ref a6, .int low, .int high, .int (told + dir), .int pc, .int hd, .int hm, .int cl, .int sp, .int ms, .int tm]), (a1, aI g 8 st), (a2, oB 2 [.ref a3, .ref a4, .ref a5, .int nl]), (a3, aI g 6 fr), (a4, aI g 6 to), (a5, aI g 6 wt)] H := hP
  have hD : va_D A [(a0, oB 7 [.ref a1, .ref a2, .ref a6, .int low, .int high, .int (told + dir), .int pc, .int hd, .int hm, .int cl, .int sp, .int ms, .int tm]), (a1, aI g 8 st), (a2, oB 2 [.ref a3, .ref a4, .ref a5, .int nl]), (a3, aI g 6 fr), (a4, aI g 6 to), (a5, aI g 6 wt)] := hD
  refine lv_iload hx hb dX7_takeStep_18 (lv_at hl 0 rfl) ?_
  refine zNI (As := [.int (pc + dir)]) (rest := []) (wc := []) (wr := [(a0, oB 7 [.ref a1, .ref a2, .ref a6, .int low, .int high, .int (told + dir), .int pc, .int hd, .int hm, .int cl, .int sp, .int ms, .int tm]), (a1, aI g 8 st), (a2, oB 2 [.ref a3, .ref a4, .ref a5, .int nl]), (a3, aI g 6 fr), (a4, aI g 6 to), (a5, aI g 6 wt)]) (wc' := []) ⟨hx, hb, hml, hown, hts⟩ (m_isBeyondEnd l g (pc + dir)) ⟨va_cnB 1 hts gX7_takeStep_X8_isBeyondEnd_n61 rfl rfl rfl (nwm_13 hE.1) (hts (.initialized RX8) (List.mem_of_getElem? (i := 9) rfl)) (by decide +kernel) ⟨Nat.le_of_ble_eq_true rfl, Nat.le_of_ble_eq_true rfl⟩, (hts (.static yX8_isBeyondEnd) (List.mem_of_getElem? (i := 8) rfl)), trivial⟩ hE hK hP hD hS hA [] [0, 1, 2, 3, 4, 5] rfl rfl rfl rfl (by decide) rfl hl.1 rfl (lv_room (Nat.le_of_ble_eq_true rfl)) ⟨Nat.zero_le _, Nat.zero_le _⟩ dX7_takeStep_20 (fun H locs hP hD hS => ?_)
  have hP : va_P g.1 vwCl [(a0, oB 7 [.ref a1, .ref a2, .ref a6, .int low, .int high, .int (told + dir), .int pc, .int hd, .int hm, .int cl, .int sp, .int ms, .int tm]), (a1, aI g 8 st), (a2, oB 2 [.ref a3, .ref a4, .ref a5, .int nl]), (a3, aI g 6 fr), (a4, aI g 6 to), (a5, aI g 6 wt)] H := hP
  have hD : va_D A [(a0, oB 7 [.ref a1, .ref a2, .ref a6, .int low, .int high, .int (told + dir), .int pc, .int hd, .int hm, .int cl, .int sp, .int ms, .int tm]), (a1, aI g 8 st), (a2, oB 2 [.ref a3, .ref a4, .ref a5, .int nl]), (a3, aI g 6 fr), (a4, aI g 6 to), (a5, aI g 6 wt)] := hD
  refine lv_if_ne (tgt := 41) hx hb dX7_takeStep_23 (by decide) (fun c23 => ?_) (fun c23 => ?_)
  · have c23 := b01_t c23
    refine lv_aload_n hx hb dX7_takeStep_41 rfl (lv_at hl 1 rfl) ?_
    refine lv_dup hx hb dX7_takeStep_42 rfl ?_
    refine va_get (D := g.1) (ci := 7) (v := .int ms) (C := RX7) (T := TX7) (N := 13) hx hb hts iX7 hown hK hP 0 rfl rfl 11 (by decide) (hts (.fieldLink RX7 69 "StepAxis$State" "missed" "I") (List.mem_of_getElem? (i := 4) rfl)) (fun _ h9 => h9) rfl dX7_takeStep_43 ?_
    refine lv_iconst (v := 1) hx hb dX7_takeStep_46 (by decide +kernel) ?_
    refine lv_iadd hx hb dX7_takeStep_47 ?_
    refine va_put (D := g.1) (ci := 7) (v := .int (ms + 1)) (ty := .int) (C := RX7) (T := TX7) (N := 13) hx hb hts iX7 tyX7 tyX7_ok nmX7 hown hK hP hD hS 0 rfl rfl 11 (by decide) (hts (.fieldLink RX7 69 "StepAxis$State" "missed" "I") (List.mem_of_getElem? (i := 4) rfl)) (fun _ h9 => h9) rfl (by decide +kernel) rfl rfl (Nat.le_of_ble_eq_true rfl) dX7_takeStep_48 (fun H locs hP hD hS => ?_)
    have hP : va_P g.1 vwCl [(a0, oB 7 [.ref a1, .ref a2, .ref a6, .int low, .int high, .int (told + dir), .int pc, .int hd, .int hm, .int cl, .int sp, .int (ms + 1), .int tm]), (a1, aI g 8 st), (a2, oB 2 [.ref a3, .ref a4, .ref a5, .int nl]), (a3, aI g 6 fr), (a4, aI g 6 to), (a5, aI g 6 wt)] H := hP
    have hD : va_D A [(a0, oB 7 [.ref a1, .ref a2, .ref a6, .int low, .int high, .int (told + dir), .int pc, .int hd, .int hm, .int cl, .int sp, .int (ms + 1), .int tm]), (a1, aI g 8 st), (a2, oB 2 [.ref a3, .ref a4, .ref a5, .int nl]), (a3, aI g 6 fr), (a4, aI g 6 to), (a5, aI g 6 wt)] := hD
    refine lv_goto (tgt := 60) hx hb dX7_takeStep_51 (by decide) ?_
    refine lv_aload_n hx hb dX7_takeStep_60 rfl (lv_at hl 1 rfl) ?_
    refine lv_dup hx hb dX7_takeStep_61 rfl ?_
    refine va_get (D := g.1) (ci := 7) (v := .int sp) (C := RX7) (T := TX7) (N := 13) hx hb hts iX7 hown hK hP 0 rfl rfl 10 (by decide) (hts (.fieldLink RX7 72 "StepAxis$State" "steps" "I") (List.mem_of_getElem? (i := 5) rfl)) (fun _ h9 => h9) rfl dX7_takeStep_62 ?_
    refine lv_iconst (v := 1) hx hb dX7_takeStep_65 (by decide +kernel) ?_
    refine lv_iadd hx hb dX7_takeStep_66 ?_
    refine va_put (D := g.1) (ci := 7) (v := .int (sp + 1)) (ty := .int) (C := RX7) (T := TX7) (N := 13) hx hb hts iX7 tyX7 tyX7_ok nmX7 hown hK hP hD hS 0 rfl rfl 10 (by decide) (hts (.fieldLink RX7 72 "StepAxis$State" "steps" "I") (List.mem_of_getElem? (i := 5) rfl)) (fun _ h9 => h9) rfl (by decide +kernel) rfl rfl (Nat.le_of_ble_eq_true rfl) dX7_takeStep_67 (fun H locs hP hD hS => ?_)
    have hP : va_P g.1 vwCl [(a0, oB 7 [.ref a1, .ref a2, .ref a6, .int low, .int high, .int (told + dir), .int pc, .int hd, .int hm, .int cl, .int (sp + 1), .int (ms + 1), .int tm]), (a1, aI g 8 st), (a2, oB 2 [.ref a3, .ref a4, .ref a5, .int nl]), (a3, aI g 6 fr), (a4, aI g 6 to), (a5, aI g 6 wt)] H := hP
    have hD : va_D A [(a0, oB 7 [.ref a1, .ref a2, .ref a6, .int low, .int high, .int (told + dir), .int pc, .int hd, .int hm, .int cl, .int (sp + 1), .int (ms + 1), .int tm]), (a1, aI g 8 st), (a2, oB 2 [.ref a3, .ref a4, .ref a5, .int nl]), (a3, aI g 6 fr), (a4, aI g 6 to), (a5, aI g 6 wt)] := hD
    refine lv_aload_n hx hb dX7_takeStep_70 rfl (lv_at hl 1 rfl) ?_
    refine lv_aload_n hx hb dX7_takeStep_71 rfl (lv_at hl 1 rfl) ?_
    refine va_get (D := g.1) (ci := 7) (v := .int tm) (C := RX7) (T := TX7) (N := 13) hx hb hts iX7 hown hK hP 0 rfl rfl 12 (by decide) (hts (.fieldLink RX7 75 "StepAxis$State" "time" "I") (List.mem_of_getElem? (i := 6) rfl)) (fun _ h9 => h9) rfl dX7_takeStep_72 ?_
    refine lv_iload_n hx hb dX7_takeStep_75 rfl (lv_at hl 3 rfl) ?_
    refine lv_iadd hx hb dX7_takeStep_76 ?_
    refine lv_ldc hx hb hown (hts (.constant RX7 78 (1000000)) (List.mem_of_getElem? (i := 7) rfl)) dX7_takeStep_77 ?_
    refine lv_irem hx hb dX7_takeStep_79 (by decide +kernel) ?_
    refine va_put (D := g.1) (ci := 7) (v := .int ((tm + iv) - (tm + iv) / 1000000 * 1000000)) (ty := .int) (C := RX7) (T := TX7) (N := 13) hx hb hts iX7 tyX7 tyX7_ok nmX7 hown hK hP hD hS 0 rfl rfl 12 (by decide) (hts (.fieldLink RX7 75 "StepAxis$State" "time" "I") (List.mem_of_getElem? (i := 6) rfl)) (fun _ h9 => h9) rfl (by decide +kernel) rfl rfl (Nat.le_of_ble_eq_true rfl) dX7_takeStep_80 (fun H locs hP hD hS => ?_)
    have hP : va_P g.1 vwCl [(a0, oB 7 [.ref a1, .ref a2, .ref a6, .int low, .int high, .int (told + dir), .int pc, .int hd, .int hm, .int cl, .int (sp + 1), .int (ms + 1), .int ((tm + iv) - (tm + iv) / 1000000 * 1000000)]), (a1, aI g 8 st), (a2, oB 2 [.ref a3, .ref a4, .ref a5, .int nl]), (a3, aI g 6 fr), (a4, aI g 6 to), (a5, aI g 6 wt)] H := hP
    have hD : va_D A [(a0, oB 7 [.ref a1, .ref a2, .ref a6, .int low, .int high, .int (told + dir), .int pc, .int hd, .int hm, .int cl, .int (sp + 1), .int (ms + 1), .int ((tm + iv) - (tm + iv) / 1000000 * 1000000)]), (a1, aI g 8 st), (a2, oB 2 [.ref a3, .ref a4, .ref a5, .int nl]), (a3, aI g 6 fr), (a4, aI g 6 to), (a5, aI g 6 wt)] := hD
    refine lv_aload_n hx hb dX7_takeStep_83 rfl (lv_at hl 1 rfl) ?_
    refine zVV (As := []) (rest := []) (wc := [(a0, oB 7 [.ref a1, .ref a2, .ref a6, .int low, .int high, .int (told + dir), .int pc, .int hd, .int hm, .int cl, .int (sp + 1), .int (ms + 1), .int ((tm + iv) - (tm + iv) / 1000000 * 1000000)]), (a1, aI g 8 st)]) (wr := [(a2, oB 2 [.ref a3, .ref a4, .ref a5, .int nl]), (a3, aI g 6 fr), (a4, aI g 6 to), (a5, aI g 6 wt)]) (wc' := [(a0, oB 7 [.ref a1, .ref a2, .ref a6, .int low, .int high, .int (told + dir), .int pc, .int hd, .int hm, .int (swc pc (st 5) (st 6) cl), .int (sp + 1), .int (ms + 1), .int ((tm + iv) - (tm + iv) / 1000000 * 1000000)]), (a1, aI g 8 st)]) ⟨hx, hb, hml, hown, hts⟩ (m_moveSwitch l g a0 a1 a2 a6 low high (told + dir) pc hd hm cl (sp + 1) (ms + 1) ((tm + iv) - (tm + iv) / 1000000 * 1000000) st) (cwV 0 hts gX7_takeStep_X7_moveSwitch rfl rfl rfl (by decide +kernel) ⟨Nat.le_of_ble_eq_true rfl, Nat.le_of_ble_eq_true rfl⟩) hE hK hP hD hS hA 0 7 rfl rfl rfl [0, 1] [2, 3, 4, 5] rfl rfl rfl rfl (by decide) rfl hl.1 rfl (lv_room (Nat.le_of_ble_eq_true rfl)) ⟨Nat.zero_le _, Nat.zero_le _⟩ dX7_takeStep_84 (fun H locs hP hD hS => ?_)
    have hP : va_P g.1 vwCl [(a2, oB 2 [.ref a3, .ref a4, .ref a5, .int nl]), (a3, aI g 6 fr), (a4, aI g 6 to), (a5, aI g 6 wt), (a0, oB 7 [.ref a1, .ref a2, .ref a6, .int low, .int high, .int (told + dir), .int pc, .int hd, .int hm, .int (swc pc (st 5) (st 6) cl), .int (sp + 1), .int (ms + 1), .int ((tm + iv) - (tm + iv) / 1000000 * 1000000)]), (a1, aI g 8 st)] H := hP
    have hD : va_D A [(a2, oB 2 [.ref a3, .ref a4, .ref a5, .int nl]), (a3, aI g 6 fr), (a4, aI g 6 to), (a5, aI g 6 wt), (a0, oB 7 [.ref a1, .ref a2, .ref a6, .int low, .int high, .int (told + dir), .int pc, .int hd, .int hm, .int (swc pc (st 5) (st 6) cl), .int (sp + 1), .int (ms + 1), .int ((tm + iv) - (tm + iv) / 1000000 * 1000000)]), (a1, aI g 8 st)] := hD
    exact zEv (ws' := [(a0, oB 7 [.ref a1, .ref a2, .ref a6, .int low, .int high, .int (told + dir), .int pc, .int hd, .int hm, .int (swc pc (st 5) (st 6) cl), .int (sp + 1), .int (ms + 1), .int ((tm + iv) - (tm + iv) / 1000000 * 1000000)]), (a1, aI g 8 st), (a2, oB 2 [.ref a3, .ref a4, .ref a5, .int nl]), (a3, aI g 6 fr), (a4, aI g 6 to), (a5, aI g 6 wt)]) hx hb hlocks hr hK hP hD hS [4, 5, 0, 1, 2, 3] rfl rfl (by rw [if_pos (Or.inl c23), if_pos (Or.inl c23)]; rfl) dX7_takeStep_87
  · have c23 := b01_f c23
    refine lv_aload_n hx hb dX7_takeStep_26 rfl (lv_at hl 1 rfl) ?_
    refine va_get (D := g.1) (ci := 7) (v := .ref a2) (C := RX7) (T := TX7) (N := 13) hx hb hts iX7 hown hK hP 0 rfl rfl 1 (by decide) (hts (.fieldLink RX7 26 "StepAxis$State" "loads" "LStepAxis$Loads;") (List.mem_of_getElem? (i := 3) rfl)) (fun _ h9 => h9) rfl dX7_takeStep_27 ?_
    refine lv_aload_n hx hb dX7_takeStep_30 rfl (lv_at hl 1 rfl) ?_
    refine va_get (D := g.1) (ci := 7) (v := .int pc) (C := RX7) (T := TX7) (N := 13) hx hb hts iX7 hown hK hP 0 rfl rfl 6 (by decide) (hts (.fieldLink RX7 58 "StepAxis$State" "place" "I") (List.mem_of_getElem? (i := 1) rfl)) (fun _ h9 => h9) rfl dX7_takeStep_31 ?_
    refine zVI (As := [.int pc]) (rest := []) (wc := [(a2, oB 2 [.ref a3, .ref a4, .ref a5, .int nl]), (a3, aI g 6 fr), (a4, aI g 6 to), (a5, aI g 6 wt)]) (wr := [(a0, oB 7 [.ref a1, .ref a2, .ref a6, .int low, .int high, .int (told + dir), .int pc, .int hd, .int hm, .int cl, .int sp, .int ms, .int tm]), (a1, aI g 8 st)]) (wc' := [(a2, oB 2 [.ref a3, .ref a4, .ref a5, .int nl]), (a3, aI g 6 fr), (a4, aI g 6 to), (a5, aI g 6 wt)]) ⟨hx, hb, hml, hown, hts⟩ (m_weightAt l g a2 a3 a4 a5 nl fr to wt pc hnl) (cwV 1 hts gX7_takeStep_X2_weightAt rfl rfl rfl (by decide +kernel) ⟨Nat.le_of_ble_eq_true rfl, Nat.le_of_ble_eq_true rfl⟩) hE hK hP hD hS hA 2 2 rfl rfl rfl [2, 3, 4, 5] [0, 1] rfl rfl rfl rfl (by decide) rfl hl.1 rfl (lv_room (Nat.le_of_ble_eq_true rfl)) ⟨Nat.zero_le _, Nat.zero_le _⟩ dX7_takeStep_34 (fun H locs hP hD hS => ?_)
    have hP : va_P g.1 vwCl [(a0, oB 7 [.ref a1, .ref a2, .ref a6, .int low, .int high, .int (told + dir), .int pc, .int hd, .int hm, .int cl, .int sp, .int ms, .int tm]), (a1, aI g 8 st), (a2, oB 2 [.ref a3, .ref a4, .ref a5, .int nl]), (a3, aI g 6 fr), (a4, aI g 6 to), (a5, aI g 6 wt)] H := hP
    have hD : va_D A [(a0, oB 7 [.ref a1, .ref a2, .ref a6, .int low, .int high, .int (told + dir), .int pc, .int hd, .int hm, .int cl, .int sp, .int ms, .int tm]), (a1, aI g 8 st), (a2, oB 2 [.ref a3, .ref a4, .ref a5, .int nl]), (a3, aI g 6 fr), (a4, aI g 6 to), (a5, aI g 6 wt)] := hD
    refine lv_iload_n hx hb dX7_takeStep_37 rfl (lv_at hl 4 rfl) ?_
    refine lv_icmp_le (tgt := 54) hx hb dX7_takeStep_38 (by decide) (fun c38 => ?_) (fun c38 => ?_)
    · refine lv_aload_n hx hb dX7_takeStep_54 rfl (lv_at hl 1 rfl) ?_
      refine lv_iload hx hb dX7_takeStep_55 (lv_at hl 0 rfl) ?_
      refine va_put (D := g.1) (ci := 7) (v := .int (pc + dir)) (ty := .int) (C := RX7) (T := TX7) (N := 13) hx hb hts iX7 tyX7 tyX7_ok nmX7 hown hK hP hD hS 0 rfl rfl 6 (by decide) (hts (.fieldLink RX7 58 "StepAxis$State" "place" "I") (List.mem_of_getElem? (i := 1) rfl)) (fun _ h9 => h9) rfl (by decide +kernel) rfl rfl (Nat.le_of_ble_eq_true rfl) dX7_takeStep_57 (fun H locs hP hD hS => ?_)
      have hP : va_P g.1 vwCl [(a0, oB 7 [.ref a1, .ref a2, .ref a6, .int low, .int high, .int (told + dir), .int (pc + dir), .int hd, .int hm, .int cl, .int sp, .int ms, .int tm]), (a1, aI g 8 st), (a2, oB 2 [.ref a3, .ref a4, .ref a5, .int nl]), (a3, aI g 6 fr), (a4, aI g 6 to), (a5, aI g 6 wt)] H := hP
      have hD : va_D A [(a0, oB 7 [.ref a1, .ref a2, .ref a6, .int low, .int high, .int (told + dir), .int (pc + dir), .int hd, .int hm, .int cl, .int sp, .int ms, .int tm]), (a1, aI g 8 st), (a2, oB 2 [.ref a3, .ref a4, .ref a5, .int nl]), (a3, aI g 6 fr), (a4, aI g 6 to), (a5, aI g 6 wt)] := hD
      refine lv_aload_n hx hb dX7_takeStep_60 rfl (lv_at hl 1 rfl) ?_
      refine lv_dup hx hb dX7_takeStep_61 rfl ?_
      refine va_get (D := g.1) (ci := 7) (v := .int sp) (C := RX7) (T := TX7) (N := 13) hx hb hts iX7 hown hK hP 0 rfl rfl 10 (by decide) (hts (.fieldLink RX7 72 "StepAxis$State" "steps" "I") (List.mem_of_getElem? (i := 5) rfl)) (fun _ h9 => h9) rfl dX7_takeStep_62 ?_
      refine lv_iconst (v := 1) hx hb dX7_takeStep_65 (by decide +kernel) ?_
      refine lv_iadd hx hb dX7_takeStep_66 ?_
      refine va_put (D := g.1) (ci := 7) (v := .int (sp + 1)) (ty := .int) (C := RX7) (T := TX7) (N := 13) hx hb hts iX7 tyX7 tyX7_ok nmX7 hown hK hP hD hS 0 rfl rfl 10 (by decide) (hts (.fieldLink RX7 72 "StepAxis$State" "steps" "I") (List.mem_of_getElem? (i := 5) rfl)) (fun _ h9 => h9) rfl (by decide +kernel) rfl rfl (Nat.le_of_ble_eq_true rfl) dX7_takeStep_67 (fun H locs hP hD hS => ?_)
      have hP : va_P g.1 vwCl [(a0, oB 7 [.ref a1, .ref a2, .ref a6, .int low, .int high, .int (told + dir), .int (pc + dir), .int hd, .int hm, .int cl, .int (sp + 1), .int ms, .int tm]), (a1, aI g 8 st), (a2, oB 2 [.ref a3, .ref a4, .ref a5, .int nl]), (a3, aI g 6 fr), (a4, aI g 6 to), (a5, aI g 6 wt)] H := hP
      have hD : va_D A [(a0, oB 7 [.ref a1, .ref a2, .ref a6, .int low, .int high, .int (told + dir), .int (pc + dir), .int hd, .int hm, .int cl, .int (sp + 1), .int ms, .int tm]), (a1, aI g 8 st), (a2, oB 2 [.ref a3, .ref a4, .ref a5, .int nl]), (a3, aI g 6 fr), (a4, aI g 6 to), (a5, aI g 6 wt)] := hD
      refine lv_aload_n hx hb dX7_takeStep_70 rfl (lv_at hl 1 rfl) ?_
      refine lv_aload_n hx hb dX7_takeStep_71 rfl (lv_at hl 1 rfl) ?_
      refine va_get (D := g.1) (ci := 7) (v := .int tm) (C := RX7) (T := TX7) (N := 13) hx hb hts iX7 hown hK hP 0 rfl rfl 12 (by decide) (hts (.fieldLink RX7 75 "StepAxis$State" "time" "I") (List.mem_of_getElem? (i := 6) rfl)) (fun _ h9 => h9) rfl dX7_takeStep_72 ?_
      refine lv_iload_n hx hb dX7_takeStep_75 rfl (lv_at hl 3 rfl) ?_
      refine lv_iadd hx hb dX7_takeStep_76 ?_
      refine lv_ldc hx hb hown (hts (.constant RX7 78 (1000000)) (List.mem_of_getElem? (i := 7) rfl)) dX7_takeStep_77 ?_
      refine lv_irem hx hb dX7_takeStep_79 (by decide +kernel) ?_
      refine va_put (D := g.1) (ci := 7) (v := .int ((tm + iv) - (tm + iv) / 1000000 * 1000000)) (ty := .int) (C := RX7) (T := TX7) (N := 13) hx hb hts iX7 tyX7 tyX7_ok nmX7 hown hK hP hD hS 0 rfl rfl 12 (by decide) (hts (.fieldLink RX7 75 "StepAxis$State" "time" "I") (List.mem_of_getElem? (i := 6) rfl)) (fun _ h9 => h9) rfl (by decide +kernel) rfl rfl (Nat.le_of_ble_eq_true rfl) dX7_takeStep_80 (fun H locs hP hD hS => ?_)
      have hP : va_P g.1 vwCl [(a0, oB 7 [.ref a1, .ref a2, .ref a6, .int low, .int high, .int (told + dir), .int (pc + dir), .int hd, .int hm, .int cl, .int (sp + 1), .int ms, .int ((tm + iv) - (tm + iv) / 1000000 * 1000000)]), (a1, aI g 8 st), (a2, oB 2 [.ref a3, .ref a4, .ref a5, .int nl]), (a3, aI g 6 fr), (a4, aI g 6 to), (a5, aI g 6 wt)] H := hP
      have hD : va_D A [(a0, oB 7 [.ref a1, .ref a2, .ref a6, .int low, .int high, .int (told + dir), .int (pc + dir), .int hd, .int hm, .int cl, .int (sp + 1), .int ms, .int ((tm + iv) - (tm + iv) / 1000000 * 1000000)]), (a1, aI g 8 st), (a2, oB 2 [.ref a3, .ref a4, .ref a5, .int nl]), (a3, aI g 6 fr), (a4, aI g 6 to), (a5, aI g 6 wt)] := hD
      refine lv_aload_n hx hb dX7_takeStep_83 rfl (lv_at hl 1 rfl) ?_
      refine zVV (As := []) (rest := []) (wc := [(a0, oB 7 [.ref a1, .ref a2, .ref a6, .int low, .int high, .int (told + dir), .int (pc + dir), .int hd, .int hm, .int cl, .int (sp + 1), .int ms, .int ((tm + iv) - (tm + iv) / 1000000 * 1000000)]), (a1, aI g 8 st)]) (wr := [(a2, oB 2 [.ref a3, .ref a4, .ref a5, .int nl]), (a3, aI g 6 fr), (a4, aI g 6 to), (a5, aI g 6 wt)]) (wc' := [(a0, oB 7 [.ref a1, .ref a2, .ref a6, .int low, .int high, .int (told + dir), .int (pc + dir), .int hd, .int hm, .int (swc (pc + dir) (st 5) (st 6) cl), .int (sp + 1), .int ms, .int ((tm + iv) - (tm + iv) / 1000000 * 1000000)]), (a1, aI g 8 st)]) ⟨hx, hb, hml, hown, hts⟩ (m_moveSwitch l g a0 a1 a2 a6 low high (told + dir) (pc + dir) hd hm cl (sp + 1) ms ((tm + iv) - (tm + iv) / 1000000 * 1000000) st) (cwV 0 hts gX7_takeStep_X7_moveSwitch rfl rfl rfl (by decide +kernel) ⟨Nat.le_of_ble_eq_true rfl, Nat.le_of_ble_eq_true rfl⟩) hE hK hP hD hS hA 0 7 rfl rfl rfl [0, 1] [2, 3, 4, 5] rfl rfl rfl rfl (by decide) rfl hl.1 rfl (lv_room (Nat.le_of_ble_eq_true rfl)) ⟨Nat.zero_le _, Nat.zero_le _⟩ dX7_takeStep_84 (fun H locs hP hD hS => ?_)
      have hP : va_P g.1 vwCl [(a2, oB 2 [.ref a3, .ref a4, .ref a5, .int nl]), (a3, aI g 6 fr), (a4, aI g 6 to), (a5, aI g 6 wt), (a0, oB 7 [.ref a1, .ref a2, .ref a6, .int low, .int high, .int (told + dir), .int (pc + dir), .int hd, .int hm, .int (swc (pc + dir) (st 5) (st 6) cl), .int (sp + 1), .int ms, .int ((tm + iv) - (tm + iv) / 1000000 * 1000000)]), (a1, aI g 8 st)] H := hP
      have hD : va_D A [(a2, oB 2 [.ref a3, .ref a4, .ref a5, .int nl]), (a3, aI g 6 fr), (a4, aI g 6 to), (a5, aI g 6 wt), (a0, oB 7 [.ref a1, .ref a2, .ref a6, .int low, .int high, .int (told + dir), .int (pc + dir), .int hd, .int hm, .int (swc (pc + dir) (st 5) (st 6) cl), .int (sp + 1), .int ms, .int ((tm + iv) - (tm + iv) / 1000000 * 1000000)]), (a1, aI g 8 st)] := hD
      exact zEv (ws' := [(a0, oB 7 [.ref a1, .ref a2, .ref a6, .int low, .int high, .int (told + dir), .int (pc + dir), .int hd, .int hm, .int (swc (pc + dir) (st 5) (st 6) cl), .int (sp + 1), .int ms, .int ((tm + iv) - (tm + iv) / 1000000 * 1000000)]), (a1, aI g 8 st), (a2, oB 2 [.ref a3, .ref a4, .ref a5, .int nl]), (a3, aI g 6 fr), (a4, aI g 6 to), (a5, aI g 6 wt)]) hx hb hlocks hr hK hP hD hS [4, 5, 0, 1, 2, 3] rfl rfl (by rw [if_neg (fun h => h.elim c23 (fun h => zgt c38 h)), if_neg (fun h => h.elim c23 (fun h => zgt c38 h))]; rfl) dX7_takeStep_87
    · refine lv_aload_n hx hb dX7_takeStep_41 rfl (lv_at hl 1 rfl) ?_
      refine lv_dup hx hb dX7_takeStep_42 rfl ?_
      refine va_get (D := g.1) (ci := 7) (v := .int ms) (C := RX7) (T := TX7) (N := 13) hx hb hts iX7 hown hK hP 0 rfl rfl 11 (by decide) (hts (.fieldLink RX7 69 "StepAxis$State" "missed" "I") (List.mem_of_getElem? (i := 4) rfl)) (fun _ h9 => h9) rfl dX7_takeStep_43 ?_
      refine lv_iconst (v := 1) hx hb dX7_takeStep_46 (by decide +kernel) ?_
      refine lv_iadd hx hb dX7_takeStep_47 ?_
      refine va_put (D := g.1) (ci := 7) (v := .int (ms + 1)) (ty := .int) (C := RX7) (T := TX7) (N := 13) hx hb hts iX7 tyX7 tyX7_ok nmX7 hown hK hP hD hS 0 rfl rfl 11 (by decide) (hts (.fieldLink RX7 69 "StepAxis$State" "missed" "I") (List.mem_of_getElem? (i := 4) rfl)) (fun _ h9 => h9) rfl (by decide +kernel) rfl rfl (Nat.le_of_ble_eq_true rfl) dX7_takeStep_48 (fun H locs hP hD hS => ?_)
      have hP : va_P g.1 vwCl [(a0, oB 7 [.ref a1, .ref a2, .ref a6, .int low, .int high, .int (told + dir), .int pc, .int hd, .int hm, .int cl, .int sp, .int (ms + 1), .int tm]), (a1, aI g 8 st), (a2, oB 2 [.ref a3, .ref a4, .ref a5, .int nl]), (a3, aI g 6 fr), (a4, aI g 6 to), (a5, aI g 6 wt)] H := hP
      have hD : va_D A [(a0, oB 7 [.ref a1, .ref a2, .ref a6, .int low, .int high, .int (told + dir), .int pc, .int hd, .int hm, .int cl, .int sp, .int (ms + 1), .int tm]), (a1, aI g 8 st), (a2, oB 2 [.ref a3, .ref a4, .ref a5, .int nl]), (a3, aI g 6 fr), (a4, aI g 6 to), (a5, aI g 6 wt)] := hD
      refine lv_goto (tgt := 60) hx hb dX7_takeStep_51 (by decide) ?_
      refine lv_aload_n hx hb dX7_takeStep_60 rfl (lv_at hl 1 rfl) ?_
      refine lv_dup hx hb dX7_takeStep_61 rfl ?_
      refine va_get (D := g.1) (ci := 7) (v := .int sp) (C := RX7) (T := TX7) (N := 13) hx hb hts iX7 hown hK hP 0 rfl rfl 10 (by decide) (hts (.fieldLink RX7 72 "StepAxis$State" "steps" "I") (List.mem_of_getElem? (i := 5) rfl)) (fun _ h9 => h9) rfl dX7_takeStep_62 ?_
      refine lv_iconst (v := 1) hx hb dX7_takeStep_65 (by decide +kernel) ?_
      refine lv_iadd hx hb dX7_takeStep_66 ?_
      refine va_put (D := g.1) (ci := 7) (v := .int (sp + 1)) (ty := .int) (C := RX7) (T := TX7) (N := 13) hx hb hts iX7 tyX7 tyX7_ok nmX7 hown hK hP hD hS 0 rfl rfl 10 (by decide) (hts (.fieldLink RX7 72 "StepAxis$State" "steps" "I") (List.mem_of_getElem? (i := 5) rfl)) (fun _ h9 => h9) rfl (by decide +kernel) rfl rfl (Nat.le_of_ble_eq_true rfl) dX7_takeStep_67 (fun H locs hP hD hS => ?_)
      have hP : va_P g.1 vwCl [(a0, oB 7 [.ref a1, .ref a2, .ref a6, .int low, .int high, .int (told + dir), .int pc, .int hd, .int hm, .int cl, .int (sp + 1), .int (ms + 1), .int tm]), (a1, aI g 8 st), (a2, oB 2 [.ref a3, .ref a4, .ref a5, .int nl]), (a3, aI g 6 fr), (a4, aI g 6 to), (a5, aI g 6 wt)] H := hP
      have hD : va_D A [(a0, oB 7 [.ref a1, .ref a2, .ref a6, .int low, .int high, .int (told + dir), .int pc, .int hd, .int hm, .int cl, .int (sp + 1), .int (ms + 1), .int tm]), (a1, aI g 8 st), (a2, oB 2 [.ref a3, .ref a4, .ref a5, .int nl]), (a3, aI g 6 fr), (a4, aI g 6 to), (a5, aI g 6 wt)] := hD
      refine lv_aload_n hx hb dX7_takeStep_70 rfl (lv_at hl 1 rfl) ?_
      refine lv_aload_n hx hb dX7_takeStep_71 rfl (lv_at hl 1 rfl) ?_
      refine va_get (D := g.1) (ci := 7) (v := .int tm) (C := RX7) (T := TX7) (N := 13) hx hb hts iX7 hown hK hP 0 rfl rfl 12 (by decide) (hts (.fieldLink RX7 75 "StepAxis$State" "time" "I") (List.mem_of_getElem? (i := 6) rfl)) (fun _ h9 => h9) rfl dX7_takeStep_72 ?_
      refine lv_iload_n hx hb dX7_takeStep_75 rfl (lv_at hl 3 rfl) ?_
      refine lv_iadd hx hb dX7_takeStep_76 ?_
      refine lv_ldc hx hb hown (hts (.constant RX7 78 (1000000)) (List.mem_of_getElem? (i := 7) rfl)) dX7_takeStep_77 ?_
      refine lv_irem hx hb dX7_takeStep_79 (by decide +kernel) ?_
      refine va_put (D := g.1) (ci := 7) (v := .int ((tm + iv) - (tm + iv) / 1000000 * 1000000)) (ty := .int) (C := RX7) (T := TX7) (N := 13) hx hb hts iX7 tyX7 tyX7_ok nmX7 hown hK hP hD hS 0 rfl rfl 12 (by decide) (hts (.fieldLink RX7 75 "StepAxis$State" "time" "I") (List.mem_of_getElem? (i := 6) rfl)) (fun _ h9 => h9) rfl (by decide +kernel) rfl rfl (Nat.le_of_ble_eq_true rfl) dX7_takeStep_80 (fun H locs hP hD hS => ?_)
      have hP : va_P g.1 vwCl [(a0, oB 7 [.ref a1, .ref a2, .ref a6, .int low, .int high, .int (told + dir), .int pc, .int hd, .int hm, .int cl, .int (sp + 1), .int (ms + 1), .int ((tm + iv) - (tm + iv) / 1000000 * 1000000)]), (a1, aI g 8 st), (a2, oB 2 [.ref a3, .ref a4, .ref a5, .int nl]), (a3, aI g 6 fr), (a4, aI g 6 to), (a5, aI g 6 wt)] H := hP
      have hD : va_D A [(a0, oB 7 [.ref a1, .ref a2, .ref a6, .int low, .int high, .int (told + dir), .int pc, .int hd, .int hm, .int cl, .int (sp + 1), .int (ms + 1), .int ((tm + iv) - (tm + iv) / 1000000 * 1000000)]), (a1, aI g 8 st), (a2, oB 2 [.ref a3, .ref a4, .ref a5, .int nl]), (a3, aI g 6 fr), (a4, aI g 6 to), (a5, aI g 6 wt)] := hD
      refine lv_aload_n hx hb dX7_takeStep_83 rfl (lv_at hl 1 rfl) ?_
      refine zVV (As := []) (rest := []) (wc := [(a0, oB 7 [.ref a1, .ref a2, .ref a6, .int low, .int high, .int (told + dir), .int pc, .int hd, .int hm, .int cl, .int (sp + 1), .int (ms + 1), .int ((tm + iv) - (tm + iv) / 1000000 * 1000000)]), (a1, aI g 8 st)]) (wr := [(a2, oB 2 [.ref a3, .ref a4, .ref a5, .int nl]), (a3, aI g 6 fr), (a4, aI g 6 to), (a5, aI g 6 wt)]) (wc' := [(a0, oB 7 [.ref a1, .ref a2, .ref a6, .int low, .int high, .int (told + dir), .int pc, .int hd, .int hm, .int (swc pc (st 5) (st 6) cl), .int (sp + 1), .int (ms + 1), .int ((tm + iv) - (tm + iv) / 1000000 * 1000000)]), (a1, aI g 8 st)]) ⟨hx, hb, hml, hown, hts⟩ (m_moveSwitch l g a0 a1 a2 a6 low high (told + dir) pc hd hm cl (sp + 1) (ms + 1) ((tm + iv) - (tm + iv) / 1000000 * 1000000) st) (cwV 0 hts gX7_takeStep_X7_moveSwitch rfl rfl rfl (by decide +kernel) ⟨Nat.le_of_ble_eq_true rfl, Nat.le_of_ble_eq_true rfl⟩) hE hK hP hD hS hA 0 7 rfl rfl rfl [0, 1] [2, 3, 4, 5] rfl rfl rfl rfl (by decide) rfl hl.1 rfl (lv_room (Nat.le_of_ble_eq_true rfl)) ⟨Nat.zero_le _, Nat.zero_le _⟩ dX7_takeStep_84 (fun H locs hP hD hS => ?_)
      have hP : va_P g.1 vwCl [(a2, oB 2 [.ref a3, .ref a4, .ref a5, .int nl]), (a3, aI g 6 fr), (a4, aI g 6 to), (a5, aI g 6 wt), (a0, oB 7 [.ref a1, .ref a2, .ref a6, .int low, .int high, .int (told + dir), .int pc, .int hd, .int hm, .int (swc pc (st 5) (st 6) cl), .int (sp + 1), .int (ms + 1), .int ((tm + iv) - (tm + iv) / 1000000 * 1000000)]), (a1, aI g 8 st)] H := hP
      have hD : va_D A [(a2, oB 2 [.ref a3, .ref a4, .ref a5, .int nl]), (a3, aI g 6 fr), (a4, aI g 6 to), (a5, aI g 6 wt), (a0, oB 7 [.ref a1, .ref a2, .ref a6, .int low, .int high, .int (told + dir), .int pc, .int hd, .int hm, .int (swc pc (st 5) (st 6) cl), .int (sp + 1), .int (ms + 1), .int ((tm + iv) - (tm + iv) / 1000000 * 1000000)]), (a1, aI g 8 st)] := hD
      exact zEv (ws' := [(a0, oB 7 [.ref a1, .ref a2, .ref a6, .int low, .int high, .int (told + dir), .int pc, .int hd, .int hm, .int (swc pc (st 5) (st 6) cl), .int (sp + 1), .int (ms + 1), .int ((tm + iv) - (tm + iv) / 1000000 * 1000000)]), (a1, aI g 8 st), (a2, oB 2 [.ref a3, .ref a4, .ref a5, .int nl]), (a3, aI g 6 fr), (a4, aI g 6 to), (a5, aI g 6 wt)]) hx hb hlocks hr hK hP hD hS [4, 5, 0, 1, 2, 3] rfl rfl (by rw [if_pos (Or.inr (znle c38)), if_pos (Or.inr (znle c38))]; rfl) dX7_takeStep_87
