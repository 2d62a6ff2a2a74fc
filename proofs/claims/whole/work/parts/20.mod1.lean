set_option maxHeartbeats 4000000 in
set_option maxRecDepth 100000 in
theorem r_in (l : Launch) (g : G3) (v lo hi : Int32) : MI l yX9_in wsX9_in (rk 0 0) g [.int v, .int lo, .int hi] [] (b01 (lo ≤ v ∧ v ≤ hi)) [] := by
  refine zWalk.met (Qc := fun A => zQi g (b01 (lo ≤ v ∧ v ≤ hi)) [] A) (cc := cX9_in) (maxL := 3) (ret := (some .boolean)) ?_ (by decide) rfl (Nat.le_of_ble_eq_true rfl)
  intro pg ev sx mi args below meth cd A H locs ls hx hb hr hml hown hts hlocks hA hE hK hP hD hS hl
  have hl : lv_has ls 3 [(0, .int v), (1, .int lo), (2, .int hi)] := hl
  refine lv_iload_n hx hb dX9_in_0 rfl (lv_at hl 0 rfl) ?_
  refine lv_iload_n hx hb dX9_in_1 rfl (lv_at hl 1 rfl) ?_
  refine lv_icmp_lt (tgt := 14) hx hb dX9_in_2 (by decide) (fun c2 => ?_) (fun c2 => ?_)
  · refine lv_iconst (v := 0) hx hb dX9_in_14 (by decide +kernel) ?_
    exact zEi (v := 0) (ws' := []) hx hb hlocks hr rfl hK hP hD hS [] rfl rfl (b01_0 (fun h => znlt c2 h.1)).symm rfl dX9_in_15
  · refine lv_iload_n hx hb dX9_in_5 rfl (lv_at hl 0 rfl) ?_
    refine lv_iload_n hx hb dX9_in_6 rfl (lv_at hl 2 rfl) ?_
    refine lv_icmp_gt (tgt := 14) hx hb dX9_in_7 (by decide) (fun c7 => ?_) (fun c7 => ?_)
    · refine lv_iconst (v := 0) hx hb dX9_in_14 (by decide +kernel) ?_
      exact zEi (v := 0) (ws' := []) hx hb hlocks hr rfl hK hP hD hS [] rfl rfl (b01_0 (fun h => znlt c7 h.2)).symm rfl dX9_in_15
    · refine lv_iconst (v := 1) hx hb dX9_in_10 (by decide +kernel) ?_
      refine lv_goto (tgt := 15) hx hb dX9_in_11 (by decide) ?_
      exact zEi (v := 1) (ws' := []) hx hb hlocks hr rfl hK hP hD hS [] rfl rfl (b01_1 ⟨zge c2, zge c7⟩).symm rfl dX9_in_15
set_option maxHeartbeats 4000000 in
set_option maxRecDepth 100000 in
theorem r_leastOf (l : Launch) (g : G3) (w : Int32) : MI l yX9_leastOf wsX9_leastOf (rk 0 0) g [.int w] [] (leT w) [] := by
  refine zWalk.met (Qc := fun A => zQi g (leT w) [] A) (cc := cX9_leastOf) (maxL := 1) (ret := (some .int)) ?_ (by decide) rfl (Nat.le_of_ble_eq_true rfl)
  intro pg ev sx mi args below meth cd A H locs ls hx hb hr hml hown hts hlocks hA hE hK hP hD hS hl
  have hl : lv_has ls 1 [(0, .int w)] := hl
  refine lv_iload_n hx hb dX9_leastOf_0 rfl (lv_at hl 0 rfl) ?_
  refine lv_if_ne (tgt := 9) hx hb dX9_leastOf_1 (by decide) (fun c1 => ?_) (fun c1 => ?_)
  · refine lv_iload_n hx hb dX9_leastOf_9 rfl (lv_at hl 0 rfl) ?_
    refine lv_iconst (v := 1) hx hb dX9_leastOf_10 (by decide +kernel) ?_
    refine lv_icmp_ne (tgt := 19) hx hb dX9_leastOf_11 (by decide) (fun c11 => ?_) (fun c11 => ?_)
    · refine lv_iload_n hx hb dX9_leastOf_19 rfl (lv_at hl 0 rfl) ?_
      refine lv_iconst (v := 3) hx hb dX9_leastOf_20 (by decide +kernel) ?_
      refine lv_icmp_ne (tgt := 28) hx hb dX9_leastOf_21 (by decide) (fun c21 => ?_) (fun c21 => ?_)
      · refine lv_iload_n hx hb dX9_leastOf_28 rfl (lv_at hl 0 rfl) ?_
        refine lv_iconst (v := 5) hx hb dX9_leastOf_29 (by decide +kernel) ?_
        refine lv_icmp_ne (tgt := 39) hx hb dX9_leastOf_30 (by decide) (fun c30 => ?_) (fun c30 => ?_)
        · refine lv_iconst (v := 0) hx hb dX9_leastOf_39 (by decide +kernel) ?_
          exact zEi (v := 0) (ws' := []) hx hb hlocks hr rfl hK hP hD hS [] rfl rfl (by unfold leT; rw [if_neg c1, if_neg c11, if_neg c21, if_neg c30]) rfl dX9_leastOf_40
        · refine lv_sipush (v := (-2900)) hx hb dX9_leastOf_33 (by decide +kernel) ?_
          refine lv_goto (tgt := 40) hx hb dX9_leastOf_36 (by decide) ?_
          exact zEi (v := (-2900)) (ws' := []) hx hb hlocks hr rfl hK hP hD hS [] rfl rfl (by unfold leT; rw [if_neg c1, if_neg c11, if_neg c21, if_pos c30]) rfl dX9_leastOf_40
      · refine lv_iconst (v := 1) hx hb dX9_leastOf_24 (by decide +kernel) ?_
        refine lv_goto (tgt := 40) hx hb dX9_leastOf_25 (by decide) ?_
        exact zEi (v := 1) (ws' := []) hx hb hlocks hr rfl hK hP hD hS [] rfl rfl (by unfold leT; rw [if_neg c1, if_neg c11, if_pos c21]) rfl dX9_leastOf_40
    · refine lv_bipush (v := 20) hx hb dX9_leastOf_14 (by decide +kernel) ?_
      refine lv_goto (tgt := 40) hx hb dX9_leastOf_16 (by decide) ?_
      exact zEi (v := 20) (ws' := []) hx hb hlocks hr rfl hK hP hD hS [] rfl rfl (by unfold leT; rw [if_neg c1, if_pos c11]) rfl dX9_leastOf_40
  · refine lv_bipush (v := 100) hx hb dX9_leastOf_4 (by decide +kernel) ?_
    refine lv_goto (tgt := 40) hx hb dX9_leastOf_6 (by decide) ?_
    exact zEi (v := 100) (ws' := []) hx hb hlocks hr rfl hK hP hD hS [] rfl rfl (by unfold leT; rw [if_pos c1]) rfl dX9_leastOf_40
set_option maxHeartbeats 4000000 in
set_option maxRecDepth 100000 in
theorem r_mostOf (l : Launch) (g : G3) (w : Int32) : MI l yX9_mostOf wsX9_mostOf (rk 0 0) g [.int w] [] (moT w) [] := by
  refine zWalk.met (Qc := fun A => zQi g (moT w) [] A) (cc := cX9_mostOf) (maxL := 1) (ret := (some .int)) ?_ (by decide) rfl (Nat.le_of_ble_eq_true rfl)
  intro pg ev sx mi args below meth cd A H locs ls hx hb hr hml hown hts hlocks hA hE hK hP hD hS hl
  have hl : lv_has ls 1 [(0, .int w)] := hl
  refine lv_iload_n hx hb dX9_mostOf_0 rfl (lv_at hl 0 rfl) ?_
  by_cases h0 : w = 0
  · refine lv_tableIn (off := 43) (tgt := 44) hx hb dX9_mostOf_1 (by rw [h0]; decide +kernel) (by rw [h0]; decide +kernel) (by rw [h0]; rfl) (by decide) ?_
    refine lv_sipush (v := 5000) hx hb dX9_mostOf_44 (by decide +kernel) ?_
    exact zEi (v := 5000) (ws' := []) hx hb hlocks hr rfl hK hP hD hS [] rfl rfl (by unfold moT; rw [if_pos h0]) rfl dX9_mostOf_47
  by_cases h1 : w = 1
  · refine lv_tableIn (off := 47) (tgt := 48) hx hb dX9_mostOf_1 (by rw [h1]; decide +kernel) (by rw [h1]; decide +kernel) (by rw [h1]; rfl) (by decide) ?_
    refine lv_sipush (v := 1000) hx hb dX9_mostOf_48 (by decide +kernel) ?_
    exact zEi (v := 1000) (ws' := []) hx hb hlocks hr rfl hK hP hD hS [] rfl rfl (by unfold moT; rw [if_neg h0, if_pos h1]) rfl dX9_mostOf_51
  by_cases h2 : w = 2
  · refine lv_tableIn (off := 65) (tgt := 66) hx hb dX9_mostOf_1 (by rw [h2]; decide +kernel) (by rw [h2]; decide +kernel) (by rw [h2]; rfl) (by decide) ?_
    refine lv_sipush (v := 200) hx hb dX9_mostOf_66 (by decide +kernel) ?_
    exact zEi (v := 200) (ws' := []) hx hb hlocks hr rfl hK hP hD hS [] rfl rfl (by unfold moT; rw [if_neg h0, if_neg h1, if_neg (by rw [h2]; decide), if_neg (by rw [h2]; decide), if_neg (by rw [h2]; decide), if_neg (by rw [h2]; decide)]) rfl dX9_mostOf_69
  by_cases h3 : w = 3
  · refine lv_tableIn (off := 51) (tgt := 52) hx hb dX9_mostOf_1 (by rw [h3]; decide +kernel) (by rw [h3]; decide +kernel) (by rw [h3]; rfl) (by decide) ?_
    refine lv_sipush (v := 300) hx hb dX9_mostOf_52 (by decide +kernel) ?_
    exact zEi (v := 300) (ws' := []) hx hb hlocks hr rfl hK hP hD hS [] rfl rfl (by unfold moT; rw [if_neg h0, if_neg h1, if_pos h3]) rfl dX9_mostOf_55
  by_cases h4 : w = 4
  · refine lv_tableIn (off := 55) (tgt := 56) hx hb dX9_mostOf_1 (by rw [h4]; decide +kernel) (by rw [h4]; decide +kernel) (by rw [h4]; rfl) (by decide) ?_
    refine lv_bipush (v := 100) hx hb dX9_mostOf_56 (by decide +kernel) ?_
    exact zEi (v := 100) (ws' := []) hx hb hlocks hr rfl hK hP hD hS [] rfl rfl (by unfold moT; rw [if_neg h0, if_neg h1, if_neg h3, if_pos h4]) rfl dX9_mostOf_58
  by_cases h5 : w = 5
  · refine lv_tableIn (off := 58) (tgt := 59) hx hb dX9_mostOf_1 (by rw [h5]; decide +kernel) (by rw [h5]; decide +kernel) (by rw [h5]; rfl) (by decide) ?_
    refine lv_sipush (v := 2900) hx hb dX9_mostOf_59 (by decide +kernel) ?_
    exact zEi (v := 2900) (ws' := []) hx hb hlocks hr rfl hK hP hD hS [] rfl rfl (by unfold moT; rw [if_neg h0, if_neg h1, if_neg h3, if_neg h4, if_pos h5]) rfl dX9_mostOf_62
  by_cases h6 : w = 6
  · refine lv_tableIn (off := 62) (tgt := 63) hx hb dX9_mostOf_1 (by rw [h6]; decide +kernel) (by rw [h6]; decide +kernel) (by rw [h6]; rfl) (by decide) ?_
    refine lv_bipush (v := 50) hx hb dX9_mostOf_63 (by decide +kernel) ?_
    exact zEi (v := 50) (ws' := []) hx hb hlocks hr rfl hK hP hD hS [] rfl rfl (by unfold moT; rw [if_neg h0, if_neg h1, if_neg h3, if_neg h4, if_neg h5, if_pos h6]) rfl dX9_mostOf_65
  refine lv_tableOut (tgt := 66) hx hb dX9_mostOf_1 (by have := sw_out (x := w) (n := 7) (by decide) (by intro k hk; match k, hk with | 0, _ => exact h0 | 1, _ => exact h1 | 2, _ => exact h2 | 3, _ => exact h3 | 4, _ => exact h4 | 5, _ => exact h5 | 6, _ => exact h6); omega) (by decide) ?_
  refine lv_sipush (v := 200) hx hb dX9_mostOf_66 (by decide +kernel) ?_
  exact zEi (v := 200) (ws' := []) hx hb hlocks hr rfl hK hP hD hS [] rfl rfl (by unfold moT; rw [if_neg h0, if_neg h1, if_neg h3, if_neg h4, if_neg h5, if_neg h6]) rfl dX9_mostOf_69
set_option maxHeartbeats 4000000 in
set_option maxRecDepth 100000 in
theorem r_copies (l : Launch) (g : G3) (x0 x1 : Nat) (f t : Nat → Int32) : MV l yX9_copies wsX9_copies (rk 0 0) g [.ref x0, .ref x1] [(x0, aI g 63 f), (x1, aI g 63 t)] [(x0, aI g 63 f), (x1, aI g 63 (fillT f t 63))] := by
  refine zWalk.met (Qc := fun A => zQv g [(x0, aI g 63 f), (x1, aI g 63 (fillT f t 63))] A) (cc := cX9_copies) (maxL := 3) (ret := none) ?_ (by decide) rfl (Nat.le_of_ble_eq_true rfl)
  intro pg ev sx mi args below meth cd A H locs ls hx hb hr hml hown hts hlocks hA hE hK hP hD hS hl
  have hl : lv_has ls 3 [(0, .ref x0), (1, .ref x1)] := hl
  refine lv_iconst (v := 0) hx hb dX9_copies_0 (by decide +kernel) ?_
  refine lv_istore_n (lv' := [(2, .int 0), (0, .ref x0), (1, .ref x1)]) hx hb dX9_copies_1 rfl hl (by decide) rfl (fun ls hl => ?_)
  rw [show t = fillT f t 0 from (fillT_0 f t).symm] at hP hD
  have lp2 : ∀ (fu : Nat) (k : Nat) (i : Int32), (k ≤ 63) → (i = nI k) → (63 - k) < fu → ∀ (H : Heap) (locs : List Loc), va_P g.1 vwCl [(x0, aI g 63 f), (x1, aI g 63 (fillT f t k))] H → va_D A [(x0, aI g 63 f), (x1, aI g 63 (fillT f t k))] → va_S A sx.heap H locs → ∀ (ls : Array Slot), lv_has ls 3 [(2, .int i), (0, .ref x0), (1, .ref x1)] → W pg l ev (rk 0 0) sx mi args below meth cd H locs 0 0 (MQ below (zQv g [(x0, aI g 63 f), (x1, aI g 63 (fillT f t 63))] A) args sx 0 0 A) (F0 mi 2 ls []) := by
    intro fu
    induction fu with
    | zero =>
      intro k i hk ei hmu
      exact absurd hmu (Nat.not_lt_zero _)
    | succ fu ih =>
      intro k i hk ei hmu H locs hP hD hS ls hl
      refine lv_iload_n hx hb dX9_copies_2 rfl (lv_at hl 0 rfl) ?_
      refine lv_bipush (v := 63) hx hb dX9_copies_3 (by decide +kernel) ?_
      refine lv_icmp_ge (tgt := 20) hx hb dX9_copies_5 (by decide) (fun c5 => ?_) (fun c5 => ?_)
      · have hkn : k = 63 := Nat.le_antisymm hk (nle_of (by decide) (by omega) (by rw [ei] at c5; exact c5))
        rw [hkn] at hP hD
        exact zEv (ws' := [(x0, aI g 63 f), (x1, aI g 63 (fillT f t 63))]) hx hb hlocks hr hK hP hD hS [0, 1] rfl rfl rfl dX9_copies_20
      · have hlt : k < 63 := nlt_of (by decide) (by rw [ei] at c5; exact c5)
        refine lv_aload_n hx hb dX9_copies_8 rfl (lv_at hl 2 rfl) ?_
        refine lv_iload_n hx hb dX9_copies_9 rfl (lv_at hl 0 rfl) ?_
        refine lv_aload_n hx hb dX9_copies_10 rfl (lv_at hl 1 rfl) ?_
        refine lv_iload_n hx hb dX9_copies_11 rfl (lv_at hl 0 rfl) ?_
        refine zald (k := k) hx hb hK hP 0 0 rfl rfl (IX.of ei (by omega) (by decide)) dX9_copies_12 ?_
        refine zast (k := k) hx hb hK hP hD hS 1 0 rfl rfl (IX.of ei (by omega) (by decide)) dX9_copies_13 (fun H locs hP hD hS => ?_)
        have hP : va_P g.1 vwCl [(x0, aI g 63 f), (x1, aI g 63 (upd (fillT f t k) k (f k)))] H := hP
        have hD : va_D A [(x0, aI g 63 f), (x1, aI g 63 (upd (fillT f t k) k (f k)))] := hD
        rw [show upd (fillT f t k) k (f k) = fillT f t (k + 1) from fillT_upd rfl] at hP hD
        refine lv_iinc (v := i + 1) (lv' := [(2, .int (i + 1)), (0, .ref x0), (1, .ref x1)]) hx hb dX9_copies_14 hl (k := 0) rfl (by rfl) (by decide) rfl (fun ls hl => ?_)
        refine lv_goto (tgt := 2) hx hb dX9_copies_17 (by decide) ?_
        exact ih (k + 1) (i + 1) hlt (by rw [ei]; exact nI_1 k) (by omega) _ _ (zP_sub hP [0, 1] rfl) (hD.sub [0, 1] rfl rfl) hS ls (lv_sub hl [0, 1, 2] rfl)
  exact lp2 ((63 - 0) + 1) 0 0 (by decide) rfl (Nat.lt_succ_self _) _ _ (zP_sub hP [0, 1] rfl) (hD.sub [0, 1] rfl rfl) hS ls (lv_sub hl [0, 1, 2] rfl)
set_option maxHeartbeats 4000000 in
set_option maxRecDepth 100000 in
theorem r_loadsAt (l : Launch) (g : G3) (m0 m1 m2 m3 m4 m5 m6 m7 m8 : Nat) (ps rn ty la mn ma sn so ca cm kd : Int32) (S : Nat → Int32) (p : Int32) (hnl : 0 ≤ (S 18).toInt ∧ (S 18).toInt ≤ 6) : MI l yX9_loadsAt wsX9_loadsAt (rk 1 22) g [.ref m0, .int p] [(m0, oB 9 [.ref m1, .ref m2, .ref m3, .ref m4, .int ps, .int rn, .ref m5, .int ty, .ref m6, .ref m7, .int la, .int mn, .int ma, .int sn, .int so, .int ca, .int cm, .int kd, .ref m8]), (m1, aI g 63 S)] (ldS S p) [(m0, oB 9 [.ref m1, .ref m2, .ref m3, .ref m4, .int ps, .int rn, .ref m5, .int ty, .ref m6, .ref m7, .int la, .int mn, .int ma, .int sn, .int so, .int ca, .int cm, .int kd, .ref m8]), (m1, aI g 63 S)] := by
  refine zWalk.met (Qc := fun A => zQi g (ldS S p) [(m0, oB 9 [.ref m1, .ref m2, .ref m3, .ref m4, .int ps, .int rn, .ref m5, .int ty, .ref m6, .ref m7, .int la, .int mn, .int ma, .int sn, .int so, .int ca, .int cm, .int kd, .ref m8]), (m1, aI g 63 S)] A) (cc := cX9_loadsAt) (maxL := 4) (ret := (some .int)) ?_ (by decide) rfl (Nat.le_of_ble_eq_true rfl)
  intro pg ev sx mi args below meth cd A H locs ls hx hb hr hml hown hts hlocks hA hE hK hP hD hS hl
  have iX9 : ∀ w ∈ u_ws RX9 TX9 19, w ∈ wsX9_loadsAt := (fun _ h => (List.mem_cons_of_mem _ (List.mem_append_right _ h)))
  have hl : lv_has ls 4 [(0, .ref m0), (1, .int p)] := hl
  obtain ⟨n, hn⟩ : ∃ n, n = (S 18).toInt.toNat := ⟨_, rfl⟩
  have en : S 18 = nI n := by rw [hn]; exact zof hnl.1
  have hn6 : n ≤ 6 := by omega
  rw [show ldS S p = lsum (frS S) (toS S) (wtS S) p n by unfold ldS; rw [hn]]
  refine lv_iconst (v := 0) hx hb dX9_loadsAt_0 (by decide +kernel) ?_
  refine lv_istore_n (lv' := [(2, .int 0), (0, .ref m0), (1, .int p)]) hx hb dX9_loadsAt_1 rfl hl (by decide) rfl (fun ls hl => ?_)
  refine lv_iconst (v := 0) hx hb dX9_loadsAt_2 (by decide +kernel) ?_
  refine lv_istore_n (lv' := [(3, .int 0), (2, .int 0), (0, .ref m0), (1, .int p)]) hx hb dX9_loadsAt_3 rfl hl (by decide) rfl (fun ls hl => ?_)
  have lp4 : ∀ (fu : Nat) (k : Nat) (i : Int32) (sm : Int32), (k ≤ n) → (i = nI k) → (sm = lsum (frS S) (toS S) (wtS S) p k) → (n - k) < fu → ∀ (H : Heap) (locs : List Loc), va_P g.1 vwCl [(m0, oB 9 [.ref m1, .ref m2, .ref m3, .ref m4, .int ps, .int rn, .ref m5, .int ty, .ref m6, .ref m7, .int la, .int mn, .int ma, .int sn, .int so, .int ca, .int cm, .int kd, .ref m8]), (m1, aI g 63 S)] H → va_D A [(m0, oB 9 [.ref m1, .ref m2, .ref m3, .ref m4, .int ps, .int rn, .ref m5, .int ty, .ref m6, .ref m7, .int la, .int mn, .int ma, .int sn, .int so, .int ca, .int cm, .int kd, .ref m8]), (m1, aI g 63 S)] → va_S A sx.heap H locs → ∀ (ls : Array Slot), lv_has ls 4 [(3, .int i), (2, .int sm), (0, .ref m0), (1, .int p)] → W pg l ev (rk 1 22) sx mi args below meth cd H locs 0 0 (MQ below (zQi g (lsum (frS S) (toS S) (wtS S) p n) [(m0, oB 9 [.ref m1, .ref m2, .ref m3, .ref m4, .int ps, .int rn, .ref m5, .int ty, .ref m6, .ref m7, .int la, .int mn, .int ma, .int sn, .int so, .int ca, .int cm, .int kd, .ref m8]), (m1, aI g 63 S)] A) args sx 0 0 A) (F0 mi 4 ls []) := by
    intro fu
    induction fu with
    | zero =>
      intro k i sm hk ei es hmu
      exact absurd hmu (Nat.not_lt_zero _)
    | succ fu ih =>
      intro k i sm hk ei es hmu H locs hP hD hS ls hl
      refine lv_iload_n hx hb dX9_loadsAt_4 rfl (lv_at hl 0 rfl) ?_
      refine lv_aload_n hx hb dX9_loadsAt_5 rfl (lv_at hl 2 rfl) ?_
      refine va_get (D := g.1) (ci := 9) (v := .ref m1) (C := RX9) (T := TX9) (N := 19) hx hb hts iX9 hown hK hP 0 rfl rfl 0 (by decide) (hts (.fieldLink RX9 7 "StepAxisModel" "s" "[I") (List.mem_of_getElem? (i := 1) rfl)) (fun _ h9 => h9) rfl dX9_loadsAt_6 ?_
      refine lv_bipush (v := 18) hx hb dX9_loadsAt_9 (by decide +kernel) ?_
      refine zald (k := 18) hx hb hK hP 1 0 rfl rfl (IX.lit (by decide +kernel)) dX9_loadsAt_11 ?_
      refine lv_icmp_ge (tgt := 72) hx hb dX9_loadsAt_12 (by decide) (fun c12 => ?_) (fun c12 => ?_)
      · have hkn : k = n := Nat.le_antisymm hk (nle_of (by omega) (by omega) (by rw [ei, en] at c12; exact c12))
        refine lv_iload_n hx hb dX9_loadsAt_72 rfl (lv_at hl 1 rfl) ?_
        exact zEi (v := sm) (ws' := [(m0, oB 9 [.ref m1, .ref m2, .ref m3, .ref m4, .int ps, .int rn, .ref m5, .int ty, .ref m6, .ref m7, .int la, .int mn, .int ma, .int sn, .int so, .int ca, .int cm, .int kd, .ref m8]), (m1, aI g 63 S)]) hx hb hlocks hr rfl hK hP hD hS [0, 1] rfl rfl (by rw [es, hkn]) rfl dX9_loadsAt_73
      · have hlt : k < n := nlt_of (by omega) (by rw [ei, en] at c12; exact c12)
        refine lv_iload_n hx hb dX9_loadsAt_15 rfl (lv_at hl 1 rfl) ?_
        refine lv_iload_n hx hb dX9_loadsAt_16 rfl (lv_at hl 3 rfl) ?_
        refine lv_aload_n hx hb dX9_loadsAt_17 rfl (lv_at hl 2 rfl) ?_
        refine va_get (D := g.1) (ci := 9) (v := .ref m1) (C := RX9) (T := TX9) (N := 19) hx hb hts iX9 hown hK hP 0 rfl rfl 0 (by decide) (hts (.fieldLink RX9 7 "StepAxisModel" "s" "[I") (List.mem_of_getElem? (i := 1) rfl)) (fun _ h9 => h9) rfl dX9_loadsAt_18 ?_
        refine lv_bipush (v := 19) hx hb dX9_loadsAt_21 (by decide +kernel) ?_
        refine lv_iconst (v := 3) hx hb dX9_loadsAt_23 (by decide +kernel) ?_
        refine lv_iload_n hx hb dX9_loadsAt_24 rfl (lv_at hl 0 rfl) ?_
        refine lv_imul hx hb dX9_loadsAt_25 ?_
        refine lv_iadd hx hb dX9_loadsAt_26 ?_
        refine zald (k := (19 + 3 * k)) hx hb hK hP 1 0 rfl rfl (IX.of (by rw [ei]; exact ldx k) (by omega) (by decide)) dX9_loadsAt_27 ?_
        refine lv_aload_n hx hb dX9_loadsAt_28 rfl (lv_at hl 2 rfl) ?_
        refine va_get (D := g.1) (ci := 9) (v := .ref m1) (C := RX9) (T := TX9) (N := 19) hx hb hts iX9 hown hK hP 0 rfl rfl 0 (by decide) (hts (.fieldLink RX9 7 "StepAxisModel" "s" "[I") (List.mem_of_getElem? (i := 1) rfl)) (fun _ h9 => h9) rfl dX9_loadsAt_29 ?_
        refine lv_bipush (v := 19) hx hb dX9_loadsAt_32 (by decide +kernel) ?_
        refine lv_iconst (v := 3) hx hb dX9_loadsAt_34 (by decide +kernel) ?_
        refine lv_iload_n hx hb dX9_loadsAt_35 rfl (lv_at hl 0 rfl) ?_
        refine lv_imul hx hb dX9_loadsAt_36 ?_
        refine lv_iadd hx hb dX9_loadsAt_37 ?_
        refine lv_iconst (v := 1) hx hb dX9_loadsAt_38 (by decide +kernel) ?_
        refine lv_iadd hx hb dX9_loadsAt_39 ?_
        refine zald (k := (19 + 3 * k + 1)) hx hb hK hP 1 0 rfl rfl (IX.of (by rw [ei]; exact ldx1 k) (by omega) (by decide)) dX9_loadsAt_40 ?_
        refine zSI (As := [.int p, .int (S (19 + 3 * k)), .int (S (19 + 3 * k + 1))]) (rest := [.int sm]) (wc := []) (wr := [(m0, oB 9 [.ref m1, .ref m2, .ref m3, .ref m4, .int ps, .int rn, .ref m5, .int ty, .ref m6, .ref m7, .int la, .int mn, .int ma, .int sn, .int so, .int ca, .int cm, .int kd, .ref m8]), (m1, aI g 63 S)]) (wc' := []) ⟨hx, hb, hml, hown, hts⟩ (r_in l g p (S (19 + 3 * k)) (S (19 + 3 * k + 1))) (va_cwS 3 hts gX9_loadsAt_X9_in rfl rfl rfl (by decide +kernel) ⟨Nat.le_of_ble_eq_true rfl, Nat.le_of_ble_eq_true rfl⟩) hE hK hP hD hS hA [] [0, 1] rfl rfl rfl rfl (by decide) rfl hl.1 rfl (lv_room (Nat.le_of_ble_eq_true rfl)) ⟨Nat.zero_le _, Nat.zero_le _⟩ dX9_loadsAt_41 (fun H locs hP hD hS => ?_)
        have hP : va_P g.1 vwCl [(m0, oB 9 [.ref m1, .ref m2, .ref m3, .ref m4, .int ps, .int rn, .ref m5, .int ty, .ref m6, .ref m7, .int la, .int mn, .int ma, .int sn, .int so, .int ca, .int cm, .int kd, .ref m8]), (m1, aI g 63 S)] H := hP
        have hD : va_D A [(m0, oB 9 [.ref m1, .ref m2, .ref m3, .ref m4, .int ps, .int rn, .ref m5, .int ty, .ref m6, .ref m7, .int la, .int mn, .int ma, .int sn, .int so, .int ca, .int cm, .int kd, .ref m8]), (m1, aI g 63 S)] := hD
        refine lv_if_eq (tgt := 63) hx hb dX9_loadsAt_44 (by decide) (fun c44 => ?_) (fun c44 => ?_)
        · have c44 := b01_f c44
          refine lv_iconst (v := 0) hx hb dX9_loadsAt_63 (by decide +kernel) ?_
          refine lv_iadd hx hb dX9_loadsAt_64 ?_
          refine lv_istore_n (lv' := [(2, .int (sm + 0)), (3, .int i), (0, .ref m0), (1, .int p)]) hx hb dX9_loadsAt_65 rfl hl (by decide) rfl (fun ls hl => ?_)
          refine lv_iinc (v := i + 1) (lv' := [(3, .int (i + 1)), (2, .int (sm + 0)), (0, .ref m0), (1, .int p)]) hx hb dX9_loadsAt_66 hl (k := 1) rfl (by rfl) (by decide) rfl (fun ls hl => ?_)
          refine lv_goto (tgt := 4) hx hb dX9_loadsAt_69 (by decide) ?_
          exact ih (k + 1) (i + 1) (sm + 0) hlt (by rw [ei]; exact nI_1 k) (by rw [es, Int32.add_zero]; exact (lsum_no c44).symm) (by omega) _ _ (zP_sub hP [0, 1] rfl) (hD.sub [0, 1] rfl rfl) hS ls (lv_sub hl [0, 1, 2, 3] rfl)
        · have c44 := b01_t c44
          refine lv_aload_n hx hb dX9_loadsAt_47 rfl (lv_at hl 2 rfl) ?_
          refine va_get (D := g.1) (ci := 9) (v := .ref m1) (C := RX9) (T := TX9) (N := 19) hx hb hts iX9 hown hK hP 0 rfl rfl 0 (by decide) (hts (.fieldLink RX9 7 "StepAxisModel" "s" "[I") (List.mem_of_getElem? (i := 1) rfl)) (fun _ h9 => h9) rfl dX9_loadsAt_48 ?_
          refine lv_bipush (v := 19) hx hb dX9_loadsAt_51 (by decide +kernel) ?_
          refine lv_iconst (v := 3) hx hb dX9_loadsAt_53 (by decide +kernel) ?_
          refine lv_iload_n hx hb dX9_loadsAt_54 rfl (lv_at hl 0 rfl) ?_
          refine lv_imul hx hb dX9_loadsAt_55 ?_
          refine lv_iadd hx hb dX9_loadsAt_56 ?_
          refine lv_iconst (v := 2) hx hb dX9_loadsAt_57 (by decide +kernel) ?_
          refine lv_iadd hx hb dX9_loadsAt_58 ?_
          refine zald (k := (19 + 3 * k + 2)) hx hb hK hP 1 0 rfl rfl (IX.of (by rw [ei]; exact ldx2 k) (by omega) (by decide)) dX9_loadsAt_59 ?_
          refine lv_goto (tgt := 64) hx hb dX9_loadsAt_60 (by decide) ?_
          refine lv_iadd hx hb dX9_loadsAt_64 ?_
          refine lv_istore_n (lv' := [(2, .int (sm + (S (19 + 3 * k + 2)))), (3, .int i), (0, .ref m0), (1, .int p)]) hx hb dX9_loadsAt_65 rfl hl (by decide) rfl (fun ls hl => ?_)
          refine lv_iinc (v := i + 1) (lv' := [(3, .int (i + 1)), (2, .int (sm + (S (19 + 3 * k + 2)))), (0, .ref m0), (1, .int p)]) hx hb dX9_loadsAt_66 hl (k := 1) rfl (by rfl) (by decide) rfl (fun ls hl => ?_)
          refine lv_goto (tgt := 4) hx hb dX9_loadsAt_69 (by decide) ?_
          exact ih (k + 1) (i + 1) (sm + (S (19 + 3 * k + 2))) hlt (by rw [ei]; exact nI_1 k) (by rw [es]; exact (lsum_yes c44).symm) (by omega) _ _ (zP_sub hP [0, 1] rfl) (hD.sub [0, 1] rfl rfl) hS ls (lv_sub hl [0, 1, 2, 3] rfl)
  exact lp4 ((n - 0) + 1) 0 0 0 (Nat.zero_le n) rfl rfl (Nat.lt_succ_self _) _ _ (zP_sub hP [0, 1] rfl) (hD.sub [0, 1] rfl rfl) hS ls (lv_sub hl [0, 1, 2, 3] rfl)
set_option maxHeartbeats 4000000 in
set_option maxRecDepth 100000 in
theorem r_pull (l : Launch) (g : G3) (m0 m1 m2 m3 m4 m5 m6 m7 m8 : Nat) (ps rn ty la mn ma sn so ca cm kd : Int32) (S : Nat → Int32) (n : Int32) : MI l yX9_pull wsX9_pull (rk 0 0) g [.ref m0, .int n] [(m0, oB 9 [.ref m1, .ref m2, .ref m3, .ref m4, .int ps, .int rn, .ref m5, .int ty, .ref m6, .ref m7, .int la, .int mn, .int ma, .int sn, .int so, .int ca, .int cm, .int kd, .ref m8]), (m1, aI g 63 S)] (puT (S 3) (S 4) n) [(m0, oB 9 [.ref m1, .ref m2, .ref m3, .ref m4, .int ps, .int rn, .ref m5, .int ty, .ref m6, .ref m7, .int la, .int mn, .int ma, .int sn, .int so, .int ca, .int cm, .int kd, .ref m8]), (m1, aI g 63 S)] := by
  refine zWalk.met (Qc := fun A => zQi g (puT (S 3) (S 4) n) [(m0, oB 9 [.ref m1, .ref m2, .ref m3, .ref m4, .int ps, .int rn, .ref m5, .int ty, .ref m6, .ref m7, .int la, .int mn, .int ma, .int sn, .int so, .int ca, .int cm, .int kd, .ref m8]), (m1, aI g 63 S)] A) (cc := cX9_pull) (maxL := 3) (ret := (some .int)) ?_ (by decide) rfl (Nat.le_of_ble_eq_true rfl)
  intro pg ev sx mi args below meth cd A H locs ls hx hb hr hml hown hts hlocks hA hE hK hP hD hS hl
  have iX9 : ∀ w ∈ u_ws RX9 TX9 19, w ∈ wsX9_pull := (fun _ h => (List.mem_cons_of_mem _ (List.mem_append_right _ h)))
  have hl : lv_has ls 3 [(0, .ref m0), (1, .int n)] := hl
  refine lv_aload_n hx hb dX9_pull_0 rfl (lv_at hl 0 rfl) ?_
  refine va_get (D := g.1) (ci := 9) (v := .ref m1) (C := RX9) (T := TX9) (N := 19) hx hb hts iX9 hown hK hP 0 rfl rfl 0 (by decide) (hts (.fieldLink RX9 7 "StepAxisModel" "s" "[I") (List.mem_of_getElem? (i := 1) rfl)) (fun _ h9 => h9) rfl dX9_pull_1 ?_
  refine lv_iconst (v := 3) hx hb dX9_pull_4 (by decide +kernel) ?_
  refine zald (k := 3) hx hb hK hP 1 0 rfl rfl (IX.lit (by decide +kernel)) dX9_pull_5 ?_
  refine lv_iload_n hx hb dX9_pull_6 rfl (lv_at hl 1 rfl) ?_
  refine lv_aload_n hx hb dX9_pull_7 rfl (lv_at hl 0 rfl) ?_
  refine va_get (D := g.1) (ci := 9) (v := .ref m1) (C := RX9) (T := TX9) (N := 19) hx hb hts iX9 hown hK hP 0 rfl rfl 0 (by decide) (hts (.fieldLink RX9 7 "StepAxisModel" "s" "[I") (List.mem_of_getElem? (i := 1) rfl)) (fun _ h9 => h9) rfl dX9_pull_8 ?_
  refine lv_iconst (v := 4) hx hb dX9_pull_11 (by decide +kernel) ?_
  refine zald (k := 4) hx hb hK hP 1 0 rfl rfl (IX.lit (by decide +kernel)) dX9_pull_12 ?_
  refine lv_imul hx hb dX9_pull_13 ?_
  refine lv_bipush (v := 16) hx hb dX9_pull_14 (by decide +kernel) ?_
  refine lv_idiv hx hb dX9_pull_16 (by decide +kernel) ?_
  refine lv_isub hx hb dX9_pull_17 ?_
  refine lv_istore_n (lv' := [(2, .int ((S 3) - ((n * (S 4)) / 16))), (0, .ref m0), (1, .int n)]) hx hb dX9_pull_18 rfl hl (by decide) rfl (fun ls hl => ?_)
  refine lv_iload_n hx hb dX9_pull_19 rfl (lv_at hl 0 rfl) ?_
  refine lv_if_ge (tgt := 27) hx hb dX9_pull_20 (by decide) (fun c20 => ?_) (fun c20 => ?_)
  · refine lv_iload_n hx hb dX9_pull_27 rfl (lv_at hl 0 rfl) ?_
    exact zEi (v := (S 3) - ((n * (S 4)) / 16)) (ws' := [(m0, oB 9 [.ref m1, .ref m2, .ref m3, .ref m4, .int ps, .int rn, .ref m5, .int ty, .ref m6, .ref m7, .int la, .int mn, .int ma, .int sn, .int so, .int ca, .int cm, .int kd, .ref m8]), (m1, aI g 63 S)]) hx hb hlocks hr rfl hK hP hD hS [0, 1] rfl rfl (by unfold puT; rw [if_neg (zgt c20)]) rfl dX9_pull_28
  · refine lv_iconst (v := 0) hx hb dX9_pull_23 (by decide +kernel) ?_
    refine lv_goto (tgt := 28) hx hb dX9_pull_24 (by decide) ?_
    exact zEi (v := 0) (ws' := [(m0, oB 9 [.ref m1, .ref m2, .ref m3, .ref m4, .int ps, .int rn, .ref m5, .int ty, .ref m6, .ref m7, .int la, .int mn, .int ma, .int sn, .int so, .int ca, .int cm, .int kd, .ref m8]), (m1, aI g 63 S)]) hx hb hlocks hr rfl hK hP hD hS [0, 1] rfl rfl (by unfold puT; rw [if_pos (znle c20)]) rfl dX9_pull_28
set_option maxHeartbeats 4000000 in
set_option maxRecDepth 100000 in
theorem r_indexOf (l : Launch) (g : G3) (m0 m1 m2 m3 m4 m5 m6 m7 m8 : Nat) (ps rn ty la mn ma sn so ca cm kd : Int32) (n d : Int32) : MI l yX9_indexOf wsX9_indexOf (rk 0 0) g [.ref m0, .int n, .int d] [(m0, oB 9 [.ref m1, .ref m2, .ref m3, .ref m4, .int ps, .int rn, .ref m5, .int ty, .ref m6, .ref m7, .int la, .int mn, .int ma, .int sn, .int so, .int ca, .int cm, .int kd, .ref m8])] (idxR la n d) [(m0, oB 9 [.ref m1, .ref m2, .ref m3, .ref m4, .int ps, .int rn, .ref m5, .int ty, .ref m6, .ref m7, .int la, .int mn, .int ma, .int sn, .int so, .int ca, .int cm, .int kd, .ref m8])] := by
  refine zWalk.met (Qc := fun A => zQi g (idxR la n d) [(m0, oB 9 [.ref m1, .ref m2, .ref m3, .ref m4, .int ps, .int rn, .ref m5, .int ty, .ref m6, .ref m7, .int la, .int mn, .int ma, .int sn, .int so, .int ca, .int cm, .int kd, .ref m8])] A) (cc := cX9_indexOf) (maxL := 4) (ret := (some .int)) ?_ (by decide) rfl (Nat.le_of_ble_eq_true rfl)
  intro pg ev sx mi args below meth cd A H locs ls hx hb hr hml hown hts hlocks hA hE hK hP hD hS hl
  have iX9 : ∀ w ∈ u_ws RX9 TX9 19, w ∈ wsX9_indexOf := (fun _ h => (List.mem_cons_of_mem _ (List.mem_append_right _ h)))
  have hl : lv_has ls 4 [(0, .ref m0), (1, .int n), (2, .int d)] := hl
  refine lv_iload_n hx hb dX9_indexOf_0 rfl (lv_at hl 1 rfl) ?_
  refine lv_iload_n hx hb dX9_indexOf_1 rfl (lv_at hl 2 rfl) ?_
  refine lv_iconst (v := 1) hx hb dX9_indexOf_2 (by decide +kernel) ?_
  refine lv_isub hx hb dX9_indexOf_3 ?_
  refine lv_iload_n hx hb dX9_indexOf_4 rfl (lv_at hl 1 rfl) ?_
  refine lv_isub hx hb dX9_indexOf_5 ?_
  refine lv_icmp_ge (tgt := 13) hx hb dX9_indexOf_6 (by decide) (fun c6 => ?_) (fun c6 => ?_)
  · refine lv_iload_n hx hb dX9_indexOf_13 rfl (lv_at hl 2 rfl) ?_
    refine lv_iconst (v := 1) hx hb dX9_indexOf_14 (by decide +kernel) ?_
    refine lv_isub hx hb dX9_indexOf_15 ?_
    refine lv_iload_n hx hb dX9_indexOf_16 rfl (lv_at hl 1 rfl) ?_
    refine lv_isub hx hb dX9_indexOf_17 ?_
    refine lv_istore_n (lv' := [(3, .int ((d - 1) - n)), (0, .ref m0), (1, .int n), (2, .int d)]) hx hb dX9_indexOf_18 rfl hl (by decide) rfl (fun ls hl => ?_)
    refine lv_iload_n hx hb dX9_indexOf_19 rfl (lv_at hl 0 rfl) ?_
    refine lv_aload_n hx hb dX9_indexOf_20 rfl (lv_at hl 1 rfl) ?_
    refine va_get (D := g.1) (ci := 9) (v := .int la) (C := RX9) (T := TX9) (N := 19) hx hb hts iX9 hown hK hP 0 rfl rfl 10 (by decide) (hts (.fieldLink RX9 63 "StepAxisModel" "last" "I") (List.mem_of_getElem? (i := 1) rfl)) (fun _ h9 => h9) rfl dX9_indexOf_21 ?_
    refine lv_icmp_ge (tgt := 31) hx hb dX9_indexOf_24 (by decide) (fun c24 => ?_) (fun c24 => ?_)
    · refine lv_aload_n hx hb dX9_indexOf_31 rfl (lv_at hl 1 rfl) ?_
      refine va_get (D := g.1) (ci := 9) (v := .int la) (C := RX9) (T := TX9) (N := 19) hx hb hts iX9 hown hK hP 0 rfl rfl 10 (by decide) (hts (.fieldLink RX9 63 "StepAxisModel" "last" "I") (List.mem_of_getElem? (i := 1) rfl)) (fun _ h9 => h9) rfl dX9_indexOf_32 ?_
      exact zEi (v := la) (ws' := [(m0, oB 9 [.ref m1, .ref m2, .ref m3, .ref m4, .int ps, .int rn, .ref m5, .int ty, .ref m6, .ref m7, .int la, .int mn, .int ma, .int sn, .int so, .int ca, .int cm, .int kd, .ref m8])]) hx hb hlocks hr rfl hK hP hD hS [0] rfl rfl (by unfold idxR; rw [if_neg (zgt c6), if_neg (zgt c24)]) rfl dX9_indexOf_35
    · refine lv_iload_n hx hb dX9_indexOf_27 rfl (lv_at hl 0 rfl) ?_
      refine lv_goto (tgt := 35) hx hb dX9_indexOf_28 (by decide) ?_
      exact zEi (v := (d - 1) - n) (ws' := [(m0, oB 9 [.ref m1, .ref m2, .ref m3, .ref m4, .int ps, .int rn, .ref m5, .int ty, .ref m6, .ref m7, .int la, .int mn, .int ma, .int sn, .int so, .int ca, .int cm, .int kd, .ref m8])]) hx hb hlocks hr rfl hK hP hD hS [0] rfl rfl (by unfold idxR; rw [if_neg (zgt c6), if_pos (znle c24)]) rfl dX9_indexOf_35
  · refine lv_iload_n hx hb dX9_indexOf_9 rfl (lv_at hl 1 rfl) ?_
    refine lv_goto (tgt := 18) hx hb dX9_indexOf_10 (by decide) ?_
    refine lv_istore_n (lv' := [(3, .int n), (0, .ref m0), (1, .int n), (2, .int d)]) hx hb dX9_indexOf_18 rfl hl (by decide) rfl (fun ls hl => ?_)
    refine lv_iload_n hx hb dX9_indexOf_19 rfl (lv_at hl 0 rfl) ?_
    refine lv_aload_n hx hb dX9_indexOf_20 rfl (lv_at hl 1 rfl) ?_
    refine va_get (D := g.1) (ci := 9) (v := .int la) (C := RX9) (T := TX9) (N := 19) hx hb hts iX9 hown hK hP 0 rfl rfl 10 (by decide) (hts (.fieldLink RX9 63 "StepAxisModel" "last" "I") (List.mem_of_getElem? (i := 1) rfl)) (fun _ h9 => h9) rfl dX9_indexOf_21 ?_
    refine lv_icmp_ge (tgt := 31) hx hb dX9_indexOf_24 (by decide) (fun c24 => ?_) (fun c24 => ?_)
    · refine lv_aload_n hx hb dX9_indexOf_31 rfl (lv_at hl 1 rfl) ?_
      refine va_get (D := g.1) (ci := 9) (v := .int la) (C := RX9) (T := TX9) (N := 19) hx hb hts iX9 hown hK hP 0 rfl rfl 10 (by decide) (hts (.fieldLink RX9 63 "StepAxisModel" "last" "I") (List.mem_of_getElem? (i := 1) rfl)) (fun _ h9 => h9) rfl dX9_indexOf_32 ?_
      exact zEi (v := la) (ws' := [(m0, oB 9 [.ref m1, .ref m2, .ref m3, .ref m4, .int ps, .int rn, .ref m5, .int ty, .ref m6, .ref m7, .int la, .int mn, .int ma, .int sn, .int so, .int ca, .int cm, .int kd, .ref m8])]) hx hb hlocks hr rfl hK hP hD hS [0] rfl rfl (by unfold idxR; rw [if_pos (znle c6), if_neg (zgt c24)]) rfl dX9_indexOf_35
    · refine lv_iload_n hx hb dX9_indexOf_27 rfl (lv_at hl 0 rfl) ?_
      refine lv_goto (tgt := 35) hx hb dX9_indexOf_28 (by decide) ?_
      exact zEi (v := n) (ws' := [(m0, oB 9 [.ref m1, .ref m2, .ref m3, .ref m4, .int ps, .int rn, .ref m5, .int ty, .ref m6, .ref m7, .int la, .int mn, .int ma, .int sn, .int so, .int ca, .int cm, .int kd, .ref m8])]) hx hb hlocks hr rfl hK hP hD hS [0] rfl rfl (by unfold idxR; rw [if_pos (znle c6), if_pos (znle c24)]) rfl dX9_indexOf_35
set_option maxHeartbeats 4000000 in
set_option maxRecDepth 100000 in
theorem r_looks (l : Launch) (g : G3) (m0 m1 m2 m3 m4 m5 m6 m7 m8 : Nat) (ps rn ty la mn ma sn so ca cm kd : Int32) (S : Nat → Int32) : MV l yX9_looks wsX9_looks (rk 0 0) g [.ref m0] [(m0, oB 9 [.ref m1, .ref m2, .ref m3, .ref m4, .int ps, .int rn, .ref m5, .int ty, .ref m6, .ref m7, .int la, .int mn, .int ma, .int sn, .int so, .int ca, .int cm, .int kd, .ref m8]), (m1, aI g 63 S)] [(m0, oB 9 [.ref m1, .ref m2, .ref m3, .ref m4, .int ps, .int rn, .ref m5, .int ty, .ref m6, .ref m7, .int la, .int mn, .int ma, .int sn, .int so, .int ca, .int cm, .int kd, .ref m8]), (m1, aI g 63 (upd S 14 (swc (S 11) (S 5) (S 6) (S 14))))] := by
  refine zWalk.met (Qc := fun A => zQv g [(m0, oB 9 [.ref m1, .ref m2, .ref m3, .ref m4, .int ps, .int rn, .ref m5, .int ty, .ref m6, .ref m7, .int la, .int mn, .int ma, .int sn, .int so, .int ca, .int cm, .int kd, .ref m8]), (m1, aI g 63 (upd S 14 (swc (S 11) (S 5) (S 6) (S 14))))] A) (cc := cX9_looks) (maxL := 1) (ret := none) ?_ (by decide) rfl (Nat.le_of_ble_eq_true rfl)
  intro pg ev sx mi args below meth cd A H locs ls hx hb hr hml hown hts hlocks hA hE hK hP hD hS hl
  have iX9 : ∀ w ∈ u_ws RX9 TX9 19, w ∈ wsX9_looks := (fun _ h => (List.mem_cons_of_mem _ (List.mem_append_right _ h)))
  have hl : lv_has ls 1 [(0, .ref m0)] := hl
  refine lv_aload_n hx hb dX9_looks_0 rfl (lv_at hl 0 rfl) ?_
  refine va_get (D := g.1) (ci := 9) (v := .ref m1) (C := RX9) (T := TX9) (N := 19) hx hb hts iX9 hown hK hP 0 rfl rfl 0 (by decide) (hts (.fieldLink RX9 7 "StepAxisModel" "s" "[I") (List.mem_of_getElem? (i := 1) rfl)) (fun _ h9 => h9) rfl dX9_looks_1 ?_
  refine lv_bipush (v := 11) hx hb dX9_looks_4 (by decide +kernel) ?_
  refine zald (k := 11) hx hb hK hP 1 0 rfl rfl (IX.lit (by decide +kernel)) dX9_looks_6 ?_
  refine lv_aload_n hx hb dX9_looks_7 rfl (lv_at hl 0 rfl) ?_
  refine va_get (D := g.1) (ci := 9) (v := .ref m1) (C := RX9) (T := TX9) (N := 19) hx hb hts iX9 hown hK hP 0 rfl rfl 0 (by decide) (hts (.fieldLink RX9 7 "StepAxisModel" "s" "[I") (List.mem_of_getElem? (i := 1) rfl)) (fun _ h9 => h9) rfl dX9_looks_8 ?_
  refine lv_iconst (v := 5) hx hb dX9_looks_11 (by decide +kernel) ?_
  refine zald (k := 5) hx hb hK hP 1 0 rfl rfl (IX.lit (by decide +kernel)) dX9_looks_12 ?_
  refine lv_icmp_gt (tgt := 27) hx hb dX9_looks_13 (by decide) (fun c13 => ?_) (fun c13 => ?_)
  · refine lv_aload_n hx hb dX9_looks_27 rfl (lv_at hl 0 rfl) ?_
    refine va_get (D := g.1) (ci := 9) (v := .ref m1) (C := RX9) (T := TX9) (N := 19) hx hb hts iX9 hown hK hP 0 rfl rfl 0 (by decide) (hts (.fieldLink RX9 7 "StepAxisModel" "s" "[I") (List.mem_of_getElem? (i := 1) rfl)) (fun _ h9 => h9) rfl dX9_looks_28 ?_
    refine lv_bipush (v := 11) hx hb dX9_looks_31 (by decide +kernel) ?_
    refine zald (k := 11) hx hb hK hP 1 0 rfl rfl (IX.lit (by decide +kernel)) dX9_looks_33 ?_
    refine lv_aload_n hx hb dX9_looks_34 rfl (lv_at hl 0 rfl) ?_
    refine va_get (D := g.1) (ci := 9) (v := .ref m1) (C := RX9) (T := TX9) (N := 19) hx hb hts iX9 hown hK hP 0 rfl rfl 0 (by decide) (hts (.fieldLink RX9 7 "StepAxisModel" "s" "[I") (List.mem_of_getElem? (i := 1) rfl)) (fun _ h9 => h9) rfl dX9_looks_35 ?_
    refine lv_iconst (v := 5) hx hb dX9_looks_38 (by decide +kernel) ?_
    refine zald (k := 5) hx hb hK hP 1 0 rfl rfl (IX.lit (by decide +kernel)) dX9_looks_39 ?_
    refine lv_aload_n hx hb dX9_looks_40 rfl (lv_at hl 0 rfl) ?_
    refine va_get (D := g.1) (ci := 9) (v := .ref m1) (C := RX9) (T := TX9) (N := 19) hx hb hts iX9 hown hK hP 0 rfl rfl 0 (by decide) (hts (.fieldLink RX9 7 "StepAxisModel" "s" "[I") (List.mem_of_getElem? (i := 1) rfl)) (fun _ h9 => h9) rfl dX9_looks_41 ?_
    refine lv_bipush (v := 6) hx hb dX9_looks_44 (by decide +kernel) ?_
    refine zald (k := 6) hx hb hK hP 1 0 rfl rfl (IX.lit (by decide +kernel)) dX9_looks_46 ?_
    refine lv_iadd hx hb dX9_looks_47 ?_
    refine lv_icmp_le (tgt := 59) hx hb dX9_looks_48 (by decide) (fun c48 => ?_) (fun c48 => ?_)
    · exact zEv (ws' := [(m0, oB 9 [.ref m1, .ref m2, .ref m3, .ref m4, .int ps, .int rn, .ref m5, .int ty, .ref m6, .ref m7, .int la, .int mn, .int ma, .int sn, .int so, .int ca, .int cm, .int kd, .ref m8]), (m1, aI g 63 S)]) hx hb hlocks hr hK hP hD hS [0, 1] rfl rfl (by rw [show swc (S 11) (S 5) (S 6) (S 14) = S 14 from (if_neg (znlt c13)).trans (if_neg (zgt c48)), upd_self]) dX9_looks_59
    · refine lv_aload_n hx hb dX9_looks_51 rfl (lv_at hl 0 rfl) ?_
      refine va_get (D := g.1) (ci := 9) (v := .ref m1) (C := RX9) (T := TX9) (N := 19) hx hb hts iX9 hown hK hP 0 rfl rfl 0 (by decide) (hts (.fieldLink RX9 7 "StepAxisModel" "s" "[I") (List.mem_of_getElem? (i := 1) rfl)) (fun _ h9 => h9) rfl dX9_looks_52 ?_
      refine lv_bipush (v := 14) hx hb dX9_looks_55 (by decide +kernel) ?_
      refine lv_iconst (v := 0) hx hb dX9_looks_57 (by decide +kernel) ?_
      refine zast (k := 14) hx hb hK hP hD hS 1 0 rfl rfl (IX.lit (by decide +kernel)) dX9_looks_58 (fun H locs hP hD hS => ?_)
      have hP : va_P g.1 vwCl [(m0, oB 9 [.ref m1, .ref m2, .ref m3, .ref m4, .int ps, .int rn, .ref m5, .int ty, .ref m6, .ref m7, .int la, .int mn, .int ma, .int sn, .int so, .int ca, .int cm, .int kd, .ref m8]), (m1, aI g 63 (upd S 14 0))] H := hP
      have hD : va_D A [(m0, oB 9 [.ref m1, .ref m2, .ref m3, .ref m4, .int ps, .int rn, .ref m5, .int ty, .ref m6, .ref m7, .int la, .int mn, .int ma, .int sn, .int so, .int ca, .int cm, .int kd, .ref m8]), (m1, aI g 63 (upd S 14 0))] := hD
      exact zEv (ws' := [(m0, oB 9 [.ref m1, .ref m2, .ref m3, .ref m4, .int ps, .int rn, .ref m5, .int ty, .ref m6, .ref m7, .int la, .int mn, .int ma, .int sn, .int so, .int ca, .int cm, .int kd, .ref m8]), (m1, aI g 63 (upd S 14 0))]) hx hb hlocks hr hK hP hD hS [0, 1] rfl rfl (by rw [show swc (S 11) (S 5) (S 6) (S 14) = 0 from (if_neg (znlt c13)).trans (if_pos (znle c48))]) dX9_looks_59
  · refine lv_aload_n hx hb dX9_looks_16 rfl (lv_at hl 0 rfl) ?_
    refine va_get (D := g.1) (ci := 9) (v := .ref m1) (C := RX9) (T := TX9) (N := 19) hx hb hts iX9 hown hK hP 0 rfl rfl 0 (by decide) (hts (.fieldLink RX9 7 "StepAxisModel" "s" "[I") (List.mem_of_getElem? (i := 1) rfl)) (fun _ h9 => h9) rfl dX9_looks_17 ?_
    refine lv_bipush (v := 14) hx hb dX9_looks_20 (by decide +kernel) ?_
    refine lv_iconst (v := 1) hx hb dX9_looks_22 (by decide +kernel) ?_
    refine zast (k := 14) hx hb hK hP hD hS 1 0 rfl rfl (IX.lit (by decide +kernel)) dX9_looks_23 (fun H locs hP hD hS => ?_)
    have hP : va_P g.1 vwCl [(m0, oB 9 [.ref m1, .ref m2, .ref m3, .ref m4, .int ps, .int rn, .ref m5, .int ty, .ref m6, .ref m7, .int la, .int mn, .int ma, .int sn, .int so, .int ca, .int cm, .int kd, .ref m8]), (m1, aI g 63 (upd S 14 1))] H := hP
    have hD : va_D A [(m0, oB 9 [.ref m1, .ref m2, .ref m3, .ref m4, .int ps, .int rn, .ref m5, .int ty, .ref m6, .ref m7, .int la, .int mn, .int ma, .int sn, .int so, .int ca, .int cm, .int kd, .ref m8]), (m1, aI g 63 (upd S 14 1))] := hD
    refine lv_goto (tgt := 59) hx hb dX9_looks_24 (by decide) ?_
    exact zEv (ws' := [(m0, oB 9 [.ref m1, .ref m2, .ref m3, .ref m4, .int ps, .int rn, .ref m5, .int ty, .ref m6, .ref m7, .int la, .int mn, .int ma, .int sn, .int so, .int ca, .int cm, .int kd, .ref m8]), (m1, aI g 63 (upd S 14 1))]) hx hb hlocks hr hK hP hD hS [0, 1] rfl rfl (by rw [show swc (S 11) (S 5) (S 6) (S 14) = 1 from if_pos (zge c13)]) dX9_looks_59
set_option maxHeartbeats 4000000 in
set_option maxRecDepth 100000 in
theorem r_steps (l : Launch) (g : G3) (m0 m1 m2 m3 m4 m5 m6 m7 m8 : Nat) (ps rn ty la mn ma sn so ca cm kd : Int32) (S fi : Nat → Int32) (by_ ix : Int32) (k : Nat) (hnl : 0 ≤ (S 18).toInt ∧ (S 18).toInt ≤ 6) (eix : ix = nI k) (hk : k < 201) : MI l yX9_steps wsX9_steps (rk 2 45) g [.ref m0, .int by_, .int ix] [(m0, oB 9 [.ref m1, .ref m2, .ref m3, .ref m4, .int ps, .int rn, .ref m5, .int ty, .ref m6, .ref m7, .int la, .int mn, .int ma, .int sn, .int so, .int ca, .int cm, .int kd, .ref m8]), (m1, aI g 63 S), (m6, aI g 201 fi)] (b01 (missP (ldS S (S 11)) (puT (S 3) (S 4) ix) (S 11 + by_))) [(m0, oB 9 [.ref m1, .ref m2, .ref m3, .ref m4, .int ps, .int rn, .ref m5, .int ty, .ref m6, .ref m7, .int la, .int mn, .int ma, .int sn, .int so, .int ca, .int cm, .int kd, .ref m8]), (m1, aI g 63 (putT S (stp S by_ (fi k) (puT (S 3) (S 4) ix) (getT S)))), (m6, aI g 201 fi)] := by
  refine zWalk.met (Qc := fun A => zQi g (b01 (missP (ldS S (S 11)) (puT (S 3) (S 4) ix) (S 11 + by_))) [(m0, oB 9 [.ref m1, .ref m2, .ref m3, .ref m4, .int ps, .int rn, .ref m5, .int ty, .ref m6, .ref m7, .int la, .int mn, .int ma, .int sn, .int so, .int ca, .int cm, .int kd, .ref m8]), (m1, aI g 63 (putT S (stp S by_ (fi k) (puT (S 3) (S 4) ix) (getT S)))), (m6, aI g 201 fi)] A) (cc := cX9_steps) (maxL := 4) (ret := (some .boolean)) ?_ (by decide) rfl (Nat.le_of_ble_eq_true rfl)
  intro pg ev sx mi args below meth cd A H locs ls hx hb hr hml hown hts hlocks hA hE hK hP hD hS hl
  have iX9 : ∀ w ∈ u_ws RX9 TX9 19, w ∈ wsX9_steps := (fun _ h => (List.mem_cons_of_mem _ (List.mem_append_right _ h)))
  have hl : lv_has ls 4 [(0, .ref m0), (1, .int by_), (2, .int ix)] := hl
  refine lv_aload_n hx hb dX9_steps_0 rfl (lv_at hl 0 rfl) ?_
  refine lv_aload_n hx hb dX9_steps_1 rfl (lv_at hl 0 rfl) ?_
  refine va_get (D := g.1) (ci := 9) (v := .ref m1) (C := RX9) (T := TX9) (N := 19) hx hb hts iX9 hown hK hP 0 rfl rfl 0 (by decide) (hts (.fieldLink RX9 7 "StepAxisModel" "s" "[I") (List.mem_of_getElem? (i := 1) rfl)) (fun _ h9 => h9) rfl dX9_steps_2 ?_
  refine lv_bipush (v := 11) hx hb dX9_steps_5 (by decide +kernel) ?_
  refine zald (k := 11) hx hb hK hP 1 0 rfl rfl (IX.lit (by decide +kernel)) dX9_steps_7 ?_
  refine zVI (As := [.int (S 11)]) (rest := []) (wc := [(m0, oB 9 [.ref m1, .ref m2, .ref m3, .ref m4, .int ps, .int rn, .ref m5, .int ty, .ref m6, .ref m7, .int la, .int mn, .int ma, .int sn, .int so, .int ca, .int cm, .int kd, .ref m8]), (m1, aI g 63 S)]) (wr := [(m6, aI g 201 fi)]) (wc' := [(m0, oB 9 [.ref m1, .ref m2, .ref m3, .ref m4, .int ps, .int rn, .ref m5, .int ty, .ref m6, .ref m7, .int la, .int mn, .int ma, .int sn, .int so, .int ca, .int cm, .int kd, .ref m8]), (m1, aI g 63 S)]) ⟨hx, hb, hml, hown, hts⟩ (r_loadsAt l g m0 m1 m2 m3 m4 m5 m6 m7 m8 ps rn ty la mn ma sn so ca cm kd S (S 11) hnl) (cwV 1 hts gX9_steps_X9_loadsAt rfl rfl rfl (by decide +kernel) ⟨Nat.le_of_ble_eq_true rfl, Nat.le_of_ble_eq_true rfl⟩) hE hK hP hD hS hA 0 9 rfl rfl rfl [0, 1] [2] rfl rfl rfl rfl (by decide) rfl hl.1 rfl (lv_room (Nat.le_of_ble_eq_true rfl)) ⟨Nat.zero_le _, Nat.zero_le _⟩ dX9_steps_8 (fun H locs hP hD hS => ?_)
  have hP : va_P g.1 vwCl [(m6, aI g 201 fi), (m0, oB 9 [.ref m1, .ref m2, .ref m3, .ref m4, .int ps, .int rn, .ref m5, .int ty, .ref m6, .ref m7, .int la, .int mn, .int ma, .int sn, .int so, .int ca, .int cm, .int kd, .ref m8]), (m1, aI g 63 S)] H := hP
  have hD : va_D A [(m6, aI g 201 fi), (m0, oB 9 [.ref m1, .ref m2, .ref m3, .ref m4, .int ps, .int rn, .ref m5, .int ty, .ref m6, .ref m7, .int la, .int mn, .int ma, .int sn, .int so, .int ca, .int cm, .int kd, .ref m8]), (m1, aI g 63 S)] := hD
  refine lv_aload_n hx hb dX9_steps_11 rfl (lv_at hl 0 rfl) ?_
  refine lv_iload_n hx hb dX9_steps_12 rfl (lv_at hl 2 rfl) ?_
  refine zVI (As := [.int ix]) (rest := [.int (ldS S (S 11))]) (wc := [(m0, oB 9 [.ref m1, .ref m2, .ref m3, .ref m4, .int ps, .int rn, .ref m5, .int ty, .ref m6, .ref m7, .int la, .int mn, .int ma, .int sn, .int so, .int ca, .int cm, .int kd, .ref m8]), (m1, aI g 63 S)]) (wr := [(m6, aI g 201 fi)]) (wc' := [(m0, oB 9 [.ref m1, .ref m2, .ref m3, .ref m4, .int ps, .int rn, .ref m5, .int ty, .ref m6, .ref m7, .int la, .int mn, .int ma, .int sn, .int so, .int ca, .int cm, .int kd, .ref m8]), (m1, aI g 63 S)]) ⟨hx, hb, hml, hown, hts⟩ (r_pull l g m0 m1 m2 m3 m4 m5 m6 m7 m8 ps rn ty la mn ma sn so ca cm kd S ix) (cwV 1 hts gX9_steps_X9_pull rfl rfl rfl (by decide +kernel) ⟨Nat.le_of_ble_eq_true rfl, Nat.le_of_ble_eq_true rfl⟩) hE hK hP hD hS hA 1 9 rfl rfl rfl [1, 2] [0] rfl rfl rfl rfl (by decide) rfl hl.1 rfl (lv_room (Nat.le_of_ble_eq_true rfl)) ⟨Nat.zero_le _, Nat.zero_le _⟩ dX9_steps_13 (fun H locs hP hD hS => ?_)
  have hP : va_P g.1 vwCl [(m6, aI g 201 fi), (m0, oB 9 [.ref m1, .ref m2, .ref m3, .ref m4, .int ps, .int rn, .ref m5, .int ty, .ref m6, .ref m7, .int la, .int mn, .int ma, .int sn, .int so, .int ca, .int cm, .int kd, .ref m8]), (m1, aI g 63 S)] H := hP
  have hD : va_D A [(m6, aI g 201 fi), (m0, oB 9 [.ref m1, .ref m2, .ref m3, .ref m4, .int ps, .int rn, .ref m5, .int ty, .ref m6, .ref m7, .int la, .int mn, .int ma, .int sn, .int so, .int ca, .int cm, .int kd, .ref m8]), (m1, aI g 63 S)] := hD
  have j45 : ∀ (H : Heap) (locs : List Loc), va_P g.1 vwCl [(m6, aI g 201 fi), (m0, oB 9 [.ref m1, .ref m2, .ref m3, .ref m4, .int ps, .int rn, .ref m5, .int ty, .ref m6, .ref m7, .int la, .int mn, .int ma, .int sn, .int so, .int ca, .int cm, .int kd, .ref m8]), (m1, aI g 63 S)] H → va_D A [(m6, aI g 201 fi), (m0, oB 9 [.ref m1, .ref m2, .ref m3, .ref m4, .int ps, .int rn, .ref m5, .int ty, .ref m6, .ref m7, .int la, .int mn, .int ma, .int sn, .int so, .int ca, .int cm, .int kd, .ref m8]), (m1, aI g 63 S)] → va_S A sx.heap H locs → ∀ (ls : Array Slot), lv_has ls 4 [(0, .ref m0), (1, .int by_), (2, .int ix)] → W pg l ev (rk 2 45) sx mi args below meth cd H locs 0 0 (MQ below (zQi g (b01 (missP (ldS S (S 11)) (puT (S 3) (S 4) ix) (S 11 + by_))) [(m0, oB 9 [.ref m1, .ref m2, .ref m3, .ref m4, .int ps, .int rn, .ref m5, .int ty, .ref m6, .ref m7, .int la, .int mn, .int ma, .int sn, .int so, .int ca, .int cm, .int kd, .ref m8]), (m1, aI g 63 (putT S (stp S by_ (fi k) (puT (S 3) (S 4) ix) (getT S)))), (m6, aI g 201 fi)] A) args sx 0 0 A) (F0 mi 45 ls [.int (b01 (missP (ldS S (S 11)) (puT (S 3) (S 4) ix) (S 11 + by_)))]) := by
    intro H locs hP hD hS ls hl
    refine lv_istore_n (lv' := [(3, .int (b01 (missP (ldS S (S 11)) (puT (S 3) (S 4) ix) (S 11 + by_)))), (0, .ref m0), (1, .int by_), (2, .int ix)]) hx hb dX9_steps_45 rfl hl (by decide) rfl (fun ls hl => ?_)
    refine lv_aload_n hx hb dX9_steps_46 rfl (lv_at hl 1 rfl) ?_
    refine va_get (D := g.1) (ci := 9) (v := .ref m1) (C := RX9) (T := TX9) (N := 19) hx hb hts iX9 hown hK hP 1 rfl rfl 0 (by decide) (hts (.fieldLink RX9 7 "StepAxisModel" "s" "[I") (List.mem_of_getElem? (i := 1) rfl)) (fun _ h9 => h9) rfl dX9_steps_47 ?_
    refine lv_bipush (v := 10) hx hb dX9_steps_50 (by decide +kernel) ?_
    refine lv_dup2_11 hx hb dX9_steps_52 rfl rfl ?_
    refine zald (k := 10) hx hb hK hP 2 0 rfl rfl (IX.lit (by decide +kernel)) dX9_steps_53 ?_
    refine lv_iload_n hx hb dX9_steps_54 rfl (lv_at hl 2 rfl) ?_
    refine lv_iadd hx hb dX9_steps_55 ?_
    refine zast (k := 10) hx hb hK hP hD hS 2 0 rfl rfl (IX.lit (by decide +kernel)) dX9_steps_56 (fun H locs hP hD hS => ?_)
    have hP : va_P g.1 vwCl [(m6, aI g 201 fi), (m0, oB 9 [.ref m1, .ref m2, .ref m3, .ref m4, .int ps, .int rn, .ref m5, .int ty, .ref m6, .ref m7, .int la, .int mn, .int ma, .int sn, .int so, .int ca, .int cm, .int kd, .ref m8]), (m1, aI g 63 (upd S 10 ((S 10) + by_)))] H := hP
    have hD : va_D A [(m6, aI g 201 fi), (m0, oB 9 [.ref m1, .ref m2, .ref m3, .ref m4, .int ps, .int rn, .ref m5, .int ty, .ref m6, .ref m7, .int la, .int mn, .int ma, .int sn, .int so, .int ca, .int cm, .int kd, .ref m8]), (m1, aI g 63 (upd S 10 ((S 10) + by_)))] := hD
    refine lv_aload_n hx hb dX9_steps_57 rfl (lv_at hl 1 rfl) ?_
    refine va_get (D := g.1) (ci := 9) (v := .ref m1) (C := RX9) (T := TX9) (N := 19) hx hb hts iX9 hown hK hP 1 rfl rfl 0 (by decide) (hts (.fieldLink RX9 7 "StepAxisModel" "s" "[I") (List.mem_of_getElem? (i := 1) rfl)) (fun _ h9 => h9) rfl dX9_steps_58 ?_
    refine lv_bipush (v := 11) hx hb dX9_steps_61 (by decide +kernel) ?_
    refine lv_dup2_11 hx hb dX9_steps_63 rfl rfl ?_
    refine zald (k := 11) hx hb hK hP 2 0 rfl rfl (IX.lit (by decide +kernel)) dX9_steps_64 ?_
    refine zTop (y := S 11) rfl ?_
    refine lv_iload_n hx hb dX9_steps_65 rfl (lv_at hl 0 rfl) ?_
    refine lv_if_eq (tgt := 73) hx hb dX9_steps_66 (by decide) (fun c66 => ?_) (fun c66 => ?_)
    · have c66 := b01_f c66
      refine lv_iload_n hx hb dX9_steps_73 rfl (lv_at hl 2 rfl) ?_
      refine lv_iadd hx hb dX9_steps_74 ?_
      refine zast (k := 11) hx hb hK hP hD hS 2 0 rfl rfl (IX.lit (by decide +kernel)) dX9_steps_75 (fun H locs hP hD hS => ?_)
      have hP : va_P g.1 vwCl [(m6, aI g 201 fi), (m0, oB 9 [.ref m1, .ref m2, .ref m3, .ref m4, .int ps, .int rn, .ref m5, .int ty, .ref m6, .ref m7, .int la, .int mn, .int ma, .int sn, .int so, .int ca, .int cm, .int kd, .ref m8]), (m1, aI g 63 (upd (upd S 10 ((S 10) + by_)) 11 ((S 11) + by_)))] H := hP
      have hD : va_D A [(m6, aI g 201 fi), (m0, oB 9 [.ref m1, .ref m2, .ref m3, .ref m4, .int ps, .int rn, .ref m5, .int ty, .ref m6, .ref m7, .int la, .int mn, .int ma, .int sn, .int so, .int ca, .int cm, .int kd, .ref m8]), (m1, aI g 63 (upd (upd S 10 ((S 10) + by_)) 11 ((S 11) + by_)))] := hD
      refine lv_aload_n hx hb dX9_steps_76 rfl (lv_at hl 1 rfl) ?_
      refine va_get (D := g.1) (ci := 9) (v := .ref m1) (C := RX9) (T := TX9) (N := 19) hx hb hts iX9 hown hK hP 1 rfl rfl 0 (by decide) (hts (.fieldLink RX9 7 "StepAxisModel" "s" "[I") (List.mem_of_getElem? (i := 1) rfl)) (fun _ h9 => h9) rfl dX9_steps_77 ?_
      refine lv_bipush (v := 15) hx hb dX9_steps_80 (by decide +kernel) ?_
      refine lv_dup2_11 hx hb dX9_steps_82 rfl rfl ?_
      refine zald (k := 15) hx hb hK hP 2 0 rfl rfl (IX.lit (by decide +kernel)) dX9_steps_83 ?_
      refine zTop (y := S 15) rfl ?_
      refine lv_iconst (v := 1) hx hb dX9_steps_84 (by decide +kernel) ?_
      refine lv_iadd hx hb dX9_steps_85 ?_
      refine zast (k := 15) hx hb hK hP hD hS 2 0 rfl rfl (IX.lit (by decide +kernel)) dX9_steps_86 (fun H locs hP hD hS => ?_)
      have hP : va_P g.1 vwCl [(m6, aI g 201 fi), (m0, oB 9 [.ref m1, .ref m2, .ref m3, .ref m4, .int ps, .int rn, .ref m5, .int ty, .ref m6, .ref m7, .int la, .int mn, .int ma, .int sn, .int so, .int ca, .int cm, .int kd, .ref m8]), (m1, aI g 63 (upd (upd (upd S 10 ((S 10) + by_)) 11 ((S 11) + by_)) 15 ((S 15) + 1)))] H := hP
      have hD : va_D A [(m6, aI g 201 fi), (m0, oB 9 [.ref m1, .ref m2, .ref m3, .ref m4, .int ps, .int rn, .ref m5, .int ty, .ref m6, .ref m7, .int la, .int mn, .int ma, .int sn, .int so, .int ca, .int cm, .int kd, .ref m8]), (m1, aI g 63 (upd (upd (upd S 10 ((S 10) + by_)) 11 ((S 11) + by_)) 15 ((S 15) + 1)))] := hD
      refine lv_aload_n hx hb dX9_steps_87 rfl (lv_at hl 1 rfl) ?_
      refine va_get (D := g.1) (ci := 9) (v := .ref m1) (C := RX9) (T := TX9) (N := 19) hx hb hts iX9 hown hK hP 1 rfl rfl 0 (by decide) (hts (.fieldLink RX9 7 "StepAxisModel" "s" "[I") (List.mem_of_getElem? (i := 1) rfl)) (fun _ h9 => h9) rfl dX9_steps_88 ?_
      refine lv_bipush (v := 16) hx hb dX9_steps_91 (by decide +kernel) ?_
      refine lv_dup2_11 hx hb dX9_steps_93 rfl rfl ?_
      refine zald (k := 16) hx hb hK hP 2 0 rfl rfl (IX.lit (by decide +kernel)) dX9_steps_94 ?_
      refine zTop (y := S 16) rfl ?_
      refine lv_iload_n hx hb dX9_steps_95 rfl (lv_at hl 0 rfl) ?_
      refine lv_if_eq (tgt := 103) hx hb dX9_steps_96 (by decide) (fun c96 => ?_) (fun c96 => ?_)
      · have c96 := b01_f c96
        refine lv_iconst (v := 0) hx hb dX9_steps_103 (by decide +kernel) ?_
        refine lv_iadd hx hb dX9_steps_104 ?_
        refine zast (k := 16) hx hb hK hP hD hS 2 0 rfl rfl (IX.lit (by decide +kernel)) dX9_steps_105 (fun H locs hP hD hS => ?_)
        have hP : va_P g.1 vwCl [(m6, aI g 201 fi), (m0, oB 9 [.ref m1, .ref m2, .ref m3, .ref m4, .int ps, .int rn, .ref m5, .int ty, .ref m6, .ref m7, .int la, .int mn, .int ma, .int sn, .int so, .int ca, .int cm, .int kd, .ref m8]), (m1, aI g 63 (upd (upd (upd (upd S 10 ((S 10) + by_)) 11 ((S 11) + by_)) 15 ((S 15) + 1)) 16 ((S 16) + 0)))] H := hP
        have hD : va_D A [(m6, aI g 201 fi), (m0, oB 9 [.ref m1, .ref m2, .ref m3, .ref m4, .int ps, .int rn, .ref m5, .int ty, .ref m6, .ref m7, .int la, .int mn, .int ma, .int sn, .int so, .int ca, .int cm, .int kd, .ref m8]), (m1, aI g 63 (upd (upd (upd (upd S 10 ((S 10) + by_)) 11 ((S 11) + by_)) 15 ((S 15) + 1)) 16 ((S 16) + 0)))] := hD
        refine lv_aload_n hx hb dX9_steps_106 rfl (lv_at hl 1 rfl) ?_
        refine va_get (D := g.1) (ci := 9) (v := .ref m1) (C := RX9) (T := TX9) (N := 19) hx hb hts iX9 hown hK hP 1 rfl rfl 0 (by decide) (hts (.fieldLink RX9 7 "StepAxisModel" "s" "[I") (List.mem_of_getElem? (i := 1) rfl)) (fun _ h9 => h9) rfl dX9_steps_107 ?_
        refine lv_bipush (v := 17) hx hb dX9_steps_110 (by decide +kernel) ?_
        refine lv_aload_n hx hb dX9_steps_112 rfl (lv_at hl 1 rfl) ?_
        refine va_get (D := g.1) (ci := 9) (v := .ref m1) (C := RX9) (T := TX9) (N := 19) hx hb hts iX9 hown hK hP 1 rfl rfl 0 (by decide) (hts (.fieldLink RX9 7 "StepAxisModel" "s" "[I") (List.mem_of_getElem? (i := 1) rfl)) (fun _ h9 => h9) rfl dX9_steps_113 ?_
        refine lv_bipush (v := 17) hx hb dX9_steps_116 (by decide +kernel) ?_
        refine zald (k := 17) hx hb hK hP 2 0 rfl rfl (IX.lit (by decide +kernel)) dX9_steps_118 ?_
        refine zTop (y := S 17) rfl ?_
        refine lv_aload_n hx hb dX9_steps_119 rfl (lv_at hl 1 rfl) ?_
        refine va_get (D := g.1) (ci := 9) (v := .ref m6) (C := RX9) (T := TX9) (N := 19) hx hb hts iX9 hown hK hP 1 rfl rfl 8 (by decide) (hts (.fieldLink RX9 25 "StepAxisModel" "intervals" "[I") (List.mem_of_getElem? (i := 2) rfl)) (fun _ h9 => h9) rfl dX9_steps_120 ?_
        refine lv_iload_n hx hb dX9_steps_123 rfl (lv_at hl 3 rfl) ?_
        refine zald (k := k) hx hb hK hP 0 0 rfl rfl (IX.of eix hk (by decide)) dX9_steps_124 ?_
        refine lv_iadd hx hb dX9_steps_125 ?_
        refine lv_ldc hx hb hown (hts (.constant RX9 76 (1000000)) (List.mem_of_getElem? (i := 3) rfl)) dX9_steps_126 ?_
        refine lv_irem hx hb dX9_steps_128 (by decide +kernel) ?_
        refine zast (k := 17) hx hb hK hP hD hS 2 0 rfl rfl (IX.lit (by decide +kernel)) dX9_steps_129 (fun H locs hP hD hS => ?_)
        have hP : va_P g.1 vwCl [(m6, aI g 201 fi), (m0, oB 9 [.ref m1, .ref m2, .ref m3, .ref m4, .int ps, .int rn, .ref m5, .int ty, .ref m6, .ref m7, .int la, .int mn, .int ma, .int sn, .int so, .int ca, .int cm, .int kd, .ref m8]), (m1, aI g 63 (upd (upd (upd (upd (upd S 10 ((S 10) + by_)) 11 ((S 11) + by_)) 15 ((S 15) + 1)) 16 ((S 16) + 0)) 17 (((S 17) + (fi k)) - ((S 17) + (fi k)) / 1000000 * 1000000)))] H := hP
        have hD : va_D A [(m6, aI g 201 fi), (m0, oB 9 [.ref m1, .ref m2, .ref m3, .ref m4, .int ps, .int rn, .ref m5, .int ty, .ref m6, .ref m7, .int la, .int mn, .int ma, .int sn, .int so, .int ca, .int cm, .int kd, .ref m8]), (m1, aI g 63 (upd (upd (upd (upd (upd S 10 ((S 10) + by_)) 11 ((S 11) + by_)) 15 ((S 15) + 1)) 16 ((S 16) + 0)) 17 (((S 17) + (fi k)) - ((S 17) + (fi k)) / 1000000 * 1000000)))] := hD
        refine lv_aload_n hx hb dX9_steps_130 rfl (lv_at hl 1 rfl) ?_
        refine zVV (As := []) (rest := []) (wc := [(m0, oB 9 [.ref m1, .ref m2, .ref m3, .ref m4, .int ps, .int rn, .ref m5, .int ty, .ref m6, .ref m7, .int la, .int mn, .int ma, .int sn, .int so, .int ca, .int cm, .int kd, .ref m8]), (m1, aI g 63 (upd (upd (upd (upd (upd S 10 ((S 10) + by_)) 11 ((S 11) + by_)) 15 ((S 15) + 1)) 16 ((S 16) + 0)) 17 (((S 17) + (fi k)) - ((S 17) + (fi k)) / 1000000 * 1000000)))]) (wr := [(m6, aI g 201 fi)]) (wc' := [(m0, oB 9 [.ref m1, .ref m2, .ref m3, .ref m4, .int ps, .int rn, .ref m5, .int ty, .ref m6, .ref m7, .int la, .int mn, .int ma, .int sn, .int so, .int ca, .int cm, .int kd, .ref m8]), (m1, aI g 63 (upd (upd (upd (upd (upd (upd S 10 ((S 10) + by_)) 11 ((S 11) + by_)) 15 ((S 15) + 1)) 16 ((S 16) + 0)) 17 (((S 17) + (fi k)) - ((S 17) + (fi k)) / 1000000 * 1000000)) 14 (swc ((upd (upd (upd (upd (upd S 10 ((S 10) + by_)) 11 ((S 11) + by_)) 15 ((S 15) + 1)) 16 ((S 16) + 0)) 17 (((S 17) + (fi k)) - ((S 17) + (fi k)) / 1000000 * 1000000)) 11) ((upd (upd (upd (upd (upd S 10 ((S 10) + by_)) 11 ((S 11) + by_)) 15 ((S 15) + 1)) 16 ((S 16) + 0)) 17 (((S 17) + (fi k)) - ((S 17) + (fi k)) / 1000000 * 1000000)) 5) ((upd (upd (upd (upd (upd S 10 ((S 10) + by_)) 11 ((S 11) + by_)) 15 ((S 15) + 1)) 16 ((S 16) + 0)) 17 (((S 17) + (fi k)) - ((S 17) + (fi k)) / 1000000 * 1000000)) 6) ((upd (upd (upd (upd (upd S 10 ((S 10) + by_)) 11 ((S 11) + by_)) 15 ((S 15) + 1)) 16 ((S 16) + 0)) 17 (((S 17) + (fi k)) - ((S 17) + (fi k)) / 1000000 * 1000000)) 14))))]) ⟨hx, hb, hml, hown, hts⟩ (r_looks l g m0 m1 m2 m3 m4 m5 m6 m7 m8 ps rn ty la mn ma sn so ca cm kd (upd (upd (upd (upd (upd S 10 ((S 10) + by_)) 11 ((S 11) + by_)) 15 ((S 15) + 1)) 16 ((S 16) + 0)) 17 (((S 17) + (fi k)) - ((S 17) + (fi k)) / 1000000 * 1000000))) (cwV 0 hts gX9_steps_X9_looks rfl rfl rfl (by decide +kernel) ⟨Nat.le_of_ble_eq_true rfl, Nat.le_of_ble_eq_true rfl⟩) hE hK hP hD hS hA 1 9 rfl rfl rfl [1, 2] [0] rfl rfl rfl rfl (by decide) rfl hl.1 rfl (lv_room (Nat.le_of_ble_eq_true rfl)) ⟨Nat.zero_le _, Nat.zero_le _⟩ dX9_steps_131 (fun H locs hP hD hS => ?_)
        have hP : va_P g.1 vwCl [(m6, aI g 201 fi), (m0, oB 9 [.ref m1, .ref m2, .ref m3, .ref m4, .int ps, .int rn, .ref m5, .int ty, .ref m6, .ref m7, .int la, .int mn, .int ma, .int sn, .int so, .int ca, .int cm, .int kd, .ref m8]), (m1, aI g 63 (upd (upd (upd (upd (upd (upd S 10 ((S 10) + by_)) 11 ((S 11) + by_)) 15 ((S 15) + 1)) 16 ((S 16) + 0)) 17 (((S 17) + (fi k)) - ((S 17) + (fi k)) / 1000000 * 1000000)) 14 (swc ((upd (upd (upd (upd (upd S 10 ((S 10) + by_)) 11 ((S 11) + by_)) 15 ((S 15) + 1)) 16 ((S 16) + 0)) 17 (((S 17) + (fi k)) - ((S 17) + (fi k)) / 1000000 * 1000000)) 11) ((upd (upd (upd (upd (upd S 10 ((S 10) + by_)) 11 ((S 11) + by_)) 15 ((S 15) + 1)) 16 ((S 16) + 0)) 17 (((S 17) + (fi k)) - ((S 17) + (fi k)) / 1000000 * 1000000)) 5) ((upd (upd (upd (upd (upd S 10 ((S 10) + by_)) 11 ((S 11) + by_)) 15 ((S 15) + 1)) 16 ((S 16) + 0)) 17 (((S 17) + (fi k)) - ((S 17) + (fi k)) / 1000000 * 1000000)) 6) ((upd (upd (upd (upd (upd S 10 ((S 10) + by_)) 11 ((S 11) + by_)) 15 ((S 15) + 1)) 16 ((S 16) + 0)) 17 (((S 17) + (fi k)) - ((S 17) + (fi k)) / 1000000 * 1000000)) 14))))] H := hP
        have hD : va_D A [(m6, aI g 201 fi), (m0, oB 9 [.ref m1, .ref m2, .ref m3, .ref m4, .int ps, .int rn, .ref m5, .int ty, .ref m6, .ref m7, .int la, .int mn, .int ma, .int sn, .int so, .int ca, .int cm, .int kd, .ref m8]), (m1, aI g 63 (upd (upd (upd (upd (upd (upd S 10 ((S 10) + by_)) 11 ((S 11) + by_)) 15 ((S 15) + 1)) 16 ((S 16) + 0)) 17 (((S 17) + (fi k)) - ((S 17) + (fi k)) / 1000000 * 1000000)) 14 (swc ((upd (upd (upd (upd (upd S 10 ((S 10) + by_)) 11 ((S 11) + by_)) 15 ((S 15) + 1)) 16 ((S 16) + 0)) 17 (((S 17) + (fi k)) - ((S 17) + (fi k)) / 1000000 * 1000000)) 11) ((upd (upd (upd (upd (upd S 10 ((S 10) + by_)) 11 ((S 11) + by_)) 15 ((S 15) + 1)) 16 ((S 16) + 0)) 17 (((S 17) + (fi k)) - ((S 17) + (fi k)) / 1000000 * 1000000)) 5) ((upd (upd (upd (upd (upd S 10 ((S 10) + by_)) 11 ((S 11) + by_)) 15 ((S 15) + 1)) 16 ((S 16) + 0)) 17 (((S 17) + (fi k)) - ((S 17) + (fi k)) / 1000000 * 1000000)) 6) ((upd (upd (upd (upd (upd S 10 ((S 10) + by_)) 11 ((S 11) + by_)) 15 ((S 15) + 1)) 16 ((S 16) + 0)) 17 (((S 17) + (fi k)) - ((S 17) + (fi k)) / 1000000 * 1000000)) 14))))] := hD
        refine lv_iload_n hx hb dX9_steps_134 rfl (lv_at hl 0 rfl) ?_
        exact zEi (v := b01 (missP (ldS S (S 11)) (puT (S 3) (S 4) ix) (S 11 + by_))) (ws' := [(m0, oB 9 [.ref m1, .ref m2, .ref m3, .ref m4, .int ps, .int rn, .ref m5, .int ty, .ref m6, .ref m7, .int la, .int mn, .int ma, .int sn, .int so, .int ca, .int cm, .int kd, .ref m8]), (m1, aI g 63 (upd (upd (upd (upd (upd (upd S 10 ((S 10) + by_)) 11 ((S 11) + by_)) 15 ((S 15) + 1)) 16 ((S 16) + 0)) 17 (((S 17) + (fi k)) - ((S 17) + (fi k)) / 1000000 * 1000000)) 14 (swc ((upd (upd (upd (upd (upd S 10 ((S 10) + by_)) 11 ((S 11) + by_)) 15 ((S 15) + 1)) 16 ((S 16) + 0)) 17 (((S 17) + (fi k)) - ((S 17) + (fi k)) / 1000000 * 1000000)) 11) ((upd (upd (upd (upd (upd S 10 ((S 10) + by_)) 11 ((S 11) + by_)) 15 ((S 15) + 1)) 16 ((S 16) + 0)) 17 (((S 17) + (fi k)) - ((S 17) + (fi k)) / 1000000 * 1000000)) 5) ((upd (upd (upd (upd (upd S 10 ((S 10) + by_)) 11 ((S 11) + by_)) 15 ((S 15) + 1)) 16 ((S 16) + 0)) 17 (((S 17) + (fi k)) - ((S 17) + (fi k)) / 1000000 * 1000000)) 6) ((upd (upd (upd (upd (upd S 10 ((S 10) + by_)) 11 ((S 11) + by_)) 15 ((S 15) + 1)) 16 ((S 16) + 0)) 17 (((S 17) + (fi k)) - ((S 17) + (fi k)) / 1000000 * 1000000)) 14)))), (m6, aI g 201 fi)]) hx hb hlocks hr b01_nar hK hP hD hS [1, 2, 0] rfl rfl rfl (by
          have e0 : stp S by_ (fi k) (puT (S 3) (S 4) ix) (getT S) = (S 10 + by_, S 11 + by_, swc (S 11 + by_) (S 5) (S 6) (S 14), S 15 + 1, S 16, rem1 (S 17 + fi k)) := by
            show (S 10 + by_, (if missP (ldS S (S 11)) (puT (S 3) (S 4) ix) (S 11 + by_) then S 11 else S 11 + by_), swc (if missP (ldS S (S 11)) (puT (S 3) (S 4) ix) (S 11 + by_) then S 11 else S 11 + by_) (S 5) (S 6) (S 14), S 15 + 1, (if missP (ldS S (S 11)) (puT (S 3) (S 4) ix) (S 11 + by_) then S 16 + 1 else S 16), rem1 (S 17 + fi k)) = _
            rw [if_neg c66, if_neg c66]
          rw [e0]
          rw [show upd (upd (upd (upd (upd (upd S 10 ((S 10) + by_)) 11 ((S 11) + by_)) 15 ((S 15) + 1)) 16 ((S 16) + 0)) 17 (((S 17) + (fi k)) - ((S 17) + (fi k)) / 1000000 * 1000000)) 14 (swc ((upd (upd (upd (upd (upd S 10 ((S 10) + by_)) 11 ((S 11) + by_)) 15 ((S 15) + 1)) 16 ((S 16) + 0)) 17 (((S 17) + (fi k)) - ((S 17) + (fi k)) / 1000000 * 1000000)) 11) ((upd (upd (upd (upd (upd S 10 ((S 10) + by_)) 11 ((S 11) + by_)) 15 ((S 15) + 1)) 16 ((S 16) + 0)) 17 (((S 17) + (fi k)) - ((S 17) + (fi k)) / 1000000 * 1000000)) 5) ((upd (upd (upd (upd (upd S 10 ((S 10) + by_)) 11 ((S 11) + by_)) 15 ((S 15) + 1)) 16 ((S 16) + 0)) 17 (((S 17) + (fi k)) - ((S 17) + (fi k)) / 1000000 * 1000000)) 6) ((upd (upd (upd (upd (upd S 10 ((S 10) + by_)) 11 ((S 11) + by_)) 15 ((S 15) + 1)) 16 ((S 16) + 0)) 17 (((S 17) + (fi k)) - ((S 17) + (fi k)) / 1000000 * 1000000)) 14)) = putT S (S 10 + by_, S 11 + by_, swc (S 11 + by_) (S 5) (S 6) (S 14), S 15 + 1, S 16, rem1 (S 17 + fi k)) from putT_eq rfl rfl rfl rfl (Int32.add_zero _) rfl (fun j e1 e2 e3 e4 e5 e6 => by simp only [upd, if_neg e1, if_neg e2, if_neg e3, if_neg e4, if_neg e5, if_neg e6])]) dX9_steps_135
      · exact absurd (b01_t c96) c66
    · have c66 := b01_t c66
      refine lv_iconst (v := 0) hx hb dX9_steps_69 (by decide +kernel) ?_
      refine lv_goto (tgt := 74) hx hb dX9_steps_70 (by decide) ?_
      refine lv_iadd hx hb dX9_steps_74 ?_
      refine zast (k := 11) hx hb hK hP hD hS 2 0 rfl rfl (IX.lit (by decide +kernel)) dX9_steps_75 (fun H locs hP hD hS => ?_)
      have hP : va_P g.1 vwCl [(m6, aI g 201 fi), (m0, oB 9 [.ref m1, .ref m2, .ref m3, .ref m4, .int ps, .int rn, .ref m5, .int ty, .ref m6, .ref m7, .int la, .int mn, .int ma, .int sn, .int so, .int ca, .int cm, .int kd, .ref m8]), (m1, aI g 63 (upd (upd S 10 ((S 10) + by_)) 11 ((S 11) + 0)))] H := hP
      have hD : va_D A [(m6, aI g 201 fi), (m0, oB 9 [.ref m1, .ref m2, .ref m3, .ref m4, .int ps, .int rn, .ref m5, .int ty, .ref m6, .ref m7, .int la, .int mn, .int ma, .int sn, .int so, .int ca, .int cm, .int kd, .ref m8]), (m1, aI g 63 (upd (upd S 10 ((S 10) + by_)) 11 ((S 11) + 0)))] := hD
      refine lv_aload_n hx hb dX9_steps_76 rfl (lv_at hl 1 rfl) ?_
      refine va_get (D := g.1) (ci := 9) (v := .ref m1) (C := RX9) (T := TX9) (N := 19) hx hb hts iX9 hown hK hP 1 rfl rfl 0 (by decide) (hts (.fieldLink RX9 7 "StepAxisModel" "s" "[I") (List.mem_of_getElem? (i := 1) rfl)) (fun _ h9 => h9) rfl dX9_steps_77 ?_
      refine lv_bipush (v := 15) hx hb dX9_steps_80 (by decide +kernel) ?_
      refine lv_dup2_11 hx hb dX9_steps_82 rfl rfl ?_
      refine zald (k := 15) hx hb hK hP 2 0 rfl rfl (IX.lit (by decide +kernel)) dX9_steps_83 ?_
      refine zTop (y := S 15) rfl ?_
      refine lv_iconst (v := 1) hx hb dX9_steps_84 (by decide +kernel) ?_
      refine lv_iadd hx hb dX9_steps_85 ?_
      refine zast (k := 15) hx hb hK hP hD hS 2 0 rfl rfl (IX.lit (by decide +kernel)) dX9_steps_86 (fun H locs hP hD hS => ?_)
      have hP : va_P g.1 vwCl [(m6, aI g 201 fi), (m0, oB 9 [.ref m1, .ref m2, .ref m3, .ref m4, .int ps, .int rn, .ref m5, .int ty, .ref m6, .ref m7, .int la, .int mn, .int ma, .int sn, .int so, .int ca, .int cm, .int kd, .ref m8]), (m1, aI g 63 (upd (upd (upd S 10 ((S 10) + by_)) 11 ((S 11) + 0)) 15 ((S 15) + 1)))] H := hP
      have hD : va_D A [(m6, aI g 201 fi), (m0, oB 9 [.ref m1, .ref m2, .ref m3, .ref m4, .int ps, .int rn, .ref m5, .int ty, .ref m6, .ref m7, .int la, .int mn, .int ma, .int sn, .int so, .int ca, .int cm, .int kd, .ref m8]), (m1, aI g 63 (upd (upd (upd S 10 ((S 10) + by_)) 11 ((S 11) + 0)) 15 ((S 15) + 1)))] := hD
      refine lv_aload_n hx hb dX9_steps_87 rfl (lv_at hl 1 rfl) ?_
      refine va_get (D := g.1) (ci := 9) (v := .ref m1) (C := RX9) (T := TX9) (N := 19) hx hb hts iX9 hown hK hP 1 rfl rfl 0 (by decide) (hts (.fieldLink RX9 7 "StepAxisModel" "s" "[I") (List.mem_of_getElem? (i := 1) rfl)) (fun _ h9 => h9) rfl dX9_steps_88 ?_
      refine lv_bipush (v := 16) hx hb dX9_steps_91 (by decide +kernel) ?_
      refine lv_dup2_11 hx hb dX9_steps_93 rfl rfl ?_
      refine zald (k := 16) hx hb hK hP 2 0 rfl rfl (IX.lit (by decide +kernel)) dX9_steps_94 ?_
      refine zTop (y := S 16) rfl ?_
      refine lv_iload_n hx hb dX9_steps_95 rfl (lv_at hl 0 rfl) ?_
      refine lv_if_eq (tgt := 103) hx hb dX9_steps_96 (by decide) (fun c96 => ?_) (fun c96 => ?_)
      · exact absurd c66 (b01_f c96)
      · have c96 := b01_t c96
        refine lv_iconst (v := 1) hx hb dX9_steps_99 (by decide +kernel) ?_
        refine lv_goto (tgt := 104) hx hb dX9_steps_100 (by decide) ?_
        refine lv_iadd hx hb dX9_steps_104 ?_
        refine zast (k := 16) hx hb hK hP hD hS 2 0 rfl rfl (IX.lit (by decide +kernel)) dX9_steps_105 (fun H locs hP hD hS => ?_)
        have hP : va_P g.1 vwCl [(m6, aI g 201 fi), (m0, oB 9 [.ref m1, .ref m2, .ref m3, .ref m4, .int ps, .int rn, .ref m5, .int ty, .ref m6, .ref m7, .int la, .int mn, .int ma, .int sn, .int so, .int ca, .int cm, .int kd, .ref m8]), (m1, aI g 63 (upd (upd (upd (upd S 10 ((S 10) + by_)) 11 ((S 11) + 0)) 15 ((S 15) + 1)) 16 ((S 16) + 1)))] H := hP
        have hD : va_D A [(m6, aI g 201 fi), (m0, oB 9 [.ref m1, .ref m2, .ref m3, .ref m4, .int ps, .int rn, .ref m5, .int ty, .ref m6, .ref m7, .int la, .int mn, .int ma, .int sn, .int so, .int ca, .int cm, .int kd, .ref m8]), (m1, aI g 63 (upd (upd (upd (upd S 10 ((S 10) + by_)) 11 ((S 11) + 0)) 15 ((S 15) + 1)) 16 ((S 16) + 1)))] := hD
        refine lv_aload_n hx hb dX9_steps_106 rfl (lv_at hl 1 rfl) ?_
        refine va_get (D := g.1) (ci := 9) (v := .ref m1) (C := RX9) (T := TX9) (N := 19) hx hb hts iX9 hown hK hP 1 rfl rfl 0 (by decide) (hts (.fieldLink RX9 7 "StepAxisModel" "s" "[I") (List.mem_of_getElem? (i := 1) rfl)) (fun _ h9 => h9) rfl dX9_steps_107 ?_
        refine lv_bipush (v := 17) hx hb dX9_steps_110 (by decide +kernel) ?_
        refine lv_aload_n hx hb dX9_steps_112 rfl (lv_at hl 1 rfl) ?_
        refine va_get (D := g.1) (ci := 9) (v := .ref m1) (C := RX9) (T := TX9) (N := 19) hx hb hts iX9 hown hK hP 1 rfl rfl 0 (by decide) (hts (.fieldLink RX9 7 "StepAxisModel" "s" "[I") (List.mem_of_getElem? (i := 1) rfl)) (fun _ h9 => h9) rfl dX9_steps_113 ?_
        refine lv_bipush (v := 17) hx hb dX9_steps_116 (by decide +kernel) ?_
        refine zald (k := 17) hx hb hK hP 2 0 rfl rfl (IX.lit (by decide +kernel)) dX9_steps_118 ?_
        refine zTop (y := S 17) rfl ?_
        refine lv_aload_n hx hb dX9_steps_119 rfl (lv_at hl 1 rfl) ?_
        refine va_get (D := g.1) (ci := 9) (v := .ref m6) (C := RX9) (T := TX9) (N := 19) hx hb hts iX9 hown hK hP 1 rfl rfl 8 (by decide) (hts (.fieldLink RX9 25 "StepAxisModel" "intervals" "[I") (List.mem_of_getElem? (i := 2) rfl)) (fun _ h9 => h9) rfl dX9_steps_120 ?_
        refine lv_iload_n hx hb dX9_steps_123 rfl (lv_at hl 3 rfl) ?_
        refine zald (k := k) hx hb hK hP 0 0 rfl rfl (IX.of eix hk (by decide)) dX9_steps_124 ?_
        refine lv_iadd hx hb dX9_steps_125 ?_
        refine lv_ldc hx hb hown (hts (.constant RX9 76 (1000000)) (List.mem_of_getElem? (i := 3) rfl)) dX9_steps_126 ?_
        refine lv_irem hx hb dX9_steps_128 (by decide +kernel) ?_
        refine zast (k := 17) hx hb hK hP hD hS 2 0 rfl rfl (IX.lit (by decide +kernel)) dX9_steps_129 (fun H locs hP hD hS => ?_)
        have hP : va_P g.1 vwCl [(m6, aI g 201 fi), (m0, oB 9 [.ref m1, .ref m2, .ref m3, .ref m4, .int ps, .int rn, .ref m5, .int ty, .ref m6, .ref m7, .int la, .int mn, .int ma, .int sn, .int so, .int ca, .int cm, .int kd, .ref m8]), (m1, aI g 63 (upd (upd (upd (upd (upd S 10 ((S 10) + by_)) 11 ((S 11) + 0)) 15 ((S 15) + 1)) 16 ((S 16) + 1)) 17 (((S 17) + (fi k)) - ((S 17) + (fi k)) / 1000000 * 1000000)))] H := hP
        have hD : va_D A [(m6, aI g 201 fi), (m0, oB 9 [.ref m1, .ref m2, .ref m3, .ref m4, .int ps, .int rn, .ref m5, .int ty, .ref m6, .ref m7, .int la, .int mn, .int ma, .int sn, .int so, .int ca, .int cm, .int kd, .ref m8]), (m1, aI g 63 (upd (upd (upd (upd (upd S 10 ((S 10) + by_)) 11 ((S 11) + 0)) 15 ((S 15) + 1)) 16 ((S 16) + 1)) 17 (((S 17) + (fi k)) - ((S 17) + (fi k)) / 1000000 * 1000000)))] := hD
        refine lv_aload_n hx hb dX9_steps_130 rfl (lv_at hl 1 rfl) ?_
        refine zVV (As := []) (rest := []) (wc := [(m0, oB 9 [.ref m1, .ref m2, .ref m3, .ref m4, .int ps, .int rn, .ref m5, .int ty, .ref m6, .ref m7, .int la, .int mn, .int ma, .int sn, .int so, .int ca, .int cm, .int kd, .ref m8]), (m1, aI g 63 (upd (upd (upd (upd (upd S 10 ((S 10) + by_)) 11 ((S 11) + 0)) 15 ((S 15) + 1)) 16 ((S 16) + 1)) 17 (((S 17) + (fi k)) - ((S 17) + (fi k)) / 1000000 * 1000000)))]) (wr := [(m6, aI g 201 fi)]) (wc' := [(m0, oB 9 [.ref m1, .ref m2, .ref m3, .ref m4, .int ps, .int rn, .ref m5, .int ty, .ref m6, .ref m7, .int la, .int mn, .int ma, .int sn, .int so, .int ca, .int cm, .int kd, .ref m8]), (m1, aI g 63 (upd (upd (upd (upd (upd (upd S 10 ((S 10) + by_)) 11 ((S 11) + 0)) 15 ((S 15) + 1)) 16 ((S 16) + 1)) 17 (((S 17) + (fi k)) - ((S 17) + (fi k)) / 1000000 * 1000000)) 14 (swc ((upd (upd (upd (upd (upd S 10 ((S 10) + by_)) 11 ((S 11) + 0)) 15 ((S 15) + 1)) 16 ((S 16) + 1)) 17 (((S 17) + (fi k)) - ((S 17) + (fi k)) / 1000000 * 1000000)) 11) ((upd (upd (upd (upd (upd S 10 ((S 10) + by_)) 11 ((S 11) + 0)) 15 ((S 15) + 1)) 16 ((S 16) + 1)) 17 (((S 17) + (fi k)) - ((S 17) + (fi k)) / 1000000 * 1000000)) 5) ((upd (upd (upd (upd (upd S 10 ((S 10) + by_)) 11 ((S 11) + 0)) 15 ((S 15) + 1)) 16 ((S 16) + 1)) 17 (((S 17) + (fi k)) - ((S 17) + (fi k)) / 1000000 * 1000000)) 6) ((upd (upd (upd (upd (upd S 10 ((S 10) + by_)) 11 ((S 11) + 0)) 15 ((S 15) + 1)) 16 ((S 16) + 1)) 17 (((S 17) + (fi k)) - ((S 17) + (fi k)) / 1000000 * 1000000)) 14))))]) ⟨hx, hb, hml, hown, hts⟩ (r_looks l g m0 m1 m2 m3 m4 m5 m6 m7 m8 ps rn ty la mn ma sn so ca cm kd (upd (upd (upd (upd (upd S 10 ((S 10) + by_)) 11 ((S 11) + 0)) 15 ((S 15) + 1)) 16 ((S 16) + 1)) 17 (((S 17) + (fi k)) - ((S 17) + (fi k)) / 1000000 * 1000000))) (cwV 0 hts gX9_steps_X9_looks rfl rfl rfl (by decide +kernel) ⟨Nat.le_of_ble_eq_true rfl, Nat.le_of_ble_eq_true rfl⟩) hE hK hP hD hS hA 1 9 rfl rfl rfl [1, 2] [0] rfl rfl rfl rfl (by decide) rfl hl.1 rfl (lv_room (Nat.le_of_ble_eq_true rfl)) ⟨Nat.zero_le _, Nat.zero_le _⟩ dX9_steps_131 (fun H locs hP hD hS => ?_)
        have hP : va_P g.1 vwCl [(m6, aI g 201 fi), (m0, oB 9 [.ref m1, .ref m2, .ref m3, .ref m4, .int ps, .int rn, .ref m5, .int ty, .ref m6, .ref m7, .int la, .int mn, .int ma, .int sn, .int so, .int ca, .int cm, .int kd, .ref m8]), (m1, aI g 63 (upd (upd (upd (upd (upd (upd S 10 ((S 10) + by_)) 11 ((S 11) + 0)) 15 ((S 15) + 1)) 16 ((S 16) + 1)) 17 (((S 17) + (fi k)) - ((S 17) + (fi k)) / 1000000 * 1000000)) 14 (swc ((upd (upd (upd (upd (upd S 10 ((S 10) + by_)) 11 ((S 11) + 0)) 15 ((S 15) + 1)) 16 ((S 16) + 1)) 17 (((S 17) + (fi k)) - ((S 17) + (fi k)) / 1000000 * 1000000)) 11) ((upd (upd (upd (upd (upd S 10 ((S 10) + by_)) 11 ((S 11) + 0)) 15 ((S 15) + 1)) 16 ((S 16) + 1)) 17 (((S 17) + (fi k)) - ((S 17) + (fi k)) / 1000000 * 1000000)) 5) ((upd (upd (upd (upd (upd S 10 ((S 10) + by_)) 11 ((S 11) + 0)) 15 ((S 15) + 1)) 16 ((S 16) + 1)) 17 (((S 17) + (fi k)) - ((S 17) + (fi k)) / 1000000 * 1000000)) 6) ((upd (upd (upd (upd (upd S 10 ((S 10) + by_)) 11 ((S 11) + 0)) 15 ((S 15) + 1)) 16 ((S 16) + 1)) 17 (((S 17) + (fi k)) - ((S 17) + (fi k)) / 1000000 * 1000000)) 14))))] H := hP
        have hD : va_D A [(m6, aI g 201 fi), (m0, oB 9 [.ref m1, .ref m2, .ref m3, .ref m4, .int ps, .int rn, .ref m5, .int ty, .ref m6, .ref m7, .int la, .int mn, .int ma, .int sn, .int so, .int ca, .int cm, .int kd, .ref m8]), (m1, aI g 63 (upd (upd (upd (upd (upd (upd S 10 ((S 10) + by_)) 11 ((S 11) + 0)) 15 ((S 15) + 1)) 16 ((S 16) + 1)) 17 (((S 17) + (fi k)) - ((S 17) + (fi k)) / 1000000 * 1000000)) 14 (swc ((upd (upd (upd (upd (upd S 10 ((S 10) + by_)) 11 ((S 11) + 0)) 15 ((S 15) + 1)) 16 ((S 16) + 1)) 17 (((S 17) + (fi k)) - ((S 17) + (fi k)) / 1000000 * 1000000)) 11) ((upd (upd (upd (upd (upd S 10 ((S 10) + by_)) 11 ((S 11) + 0)) 15 ((S 15) + 1)) 16 ((S 16) + 1)) 17 (((S 17) + (fi k)) - ((S 17) + (fi k)) / 1000000 * 1000000)) 5) ((upd (upd (upd (upd (upd S 10 ((S 10) + by_)) 11 ((S 11) + 0)) 15 ((S 15) + 1)) 16 ((S 16) + 1)) 17 (((S 17) + (fi k)) - ((S 17) + (fi k)) / 1000000 * 1000000)) 6) ((upd (upd (upd (upd (upd S 10 ((S 10) + by_)) 11 ((S 11) + 0)) 15 ((S 15) + 1)) 16 ((S 16) + 1)) 17 (((S 17) + (fi k)) - ((S 17) + (fi k)) / 1000000 * 1000000)) 14))))] := hD
        refine lv_iload_n hx hb dX9_steps_134 rfl (lv_at hl 0 rfl) ?_
        exact zEi (v := b01 (missP (ldS S (S 11)) (puT (S 3) (S 4) ix) (S 11 + by_))) (ws' := [(m0, oB 9 [.ref m1, .ref m2, .ref m3, .ref m4, .int ps, .int rn, .ref m5, .int ty, .ref m6, .ref m7, .int la, .int mn, .int ma, .int sn, .int so, .int ca, .int cm, .int kd, .ref m8]), (m1, aI g 63 (upd (upd (upd (upd (upd (upd S 10 ((S 10) + by_)) 11 ((S 11) + 0)) 15 ((S 15) + 1)) 16 ((S 16) + 1)) 17 (((S 17) + (fi k)) - ((S 17) + (fi k)) / 1000000 * 1000000)) 14 (swc ((upd (upd (upd (upd (upd S 10 ((S 10) + by_)) 11 ((S 11) + 0)) 15 ((S 15) + 1)) 16 ((S 16) + 1)) 17 (((S 17) + (fi k)) - ((S 17) + (fi k)) / 1000000 * 1000000)) 11) ((upd (upd (upd (upd (upd S 10 ((S 10) + by_)) 11 ((S 11) + 0)) 15 ((S 15) + 1)) 16 ((S 16) + 1)) 17 (((S 17) + (fi k)) - ((S 17) + (fi k)) / 1000000 * 1000000)) 5) ((upd (upd (upd (upd (upd S 10 ((S 10) + by_)) 11 ((S 11) + 0)) 15 ((S 15) + 1)) 16 ((S 16) + 1)) 17 (((S 17) + (fi k)) - ((S 17) + (fi k)) / 1000000 * 1000000)) 6) ((upd (upd (upd (upd (upd S 10 ((S 10) + by_)) 11 ((S 11) + 0)) 15 ((S 15) + 1)) 16 ((S 16) + 1)) 17 (((S 17) + (fi k)) - ((S 17) + (fi k)) / 1000000 * 1000000)) 14)))), (m6, aI g 201 fi)]) hx hb hlocks hr b01_nar hK hP hD hS [1, 2, 0] rfl rfl rfl (by
          have e0 : stp S by_ (fi k) (puT (S 3) (S 4) ix) (getT S) = (S 10 + by_, S 11, swc (S 11) (S 5) (S 6) (S 14), S 15 + 1, S 16 + 1, rem1 (S 17 + fi k)) := by
            show (S 10 + by_, (if missP (ldS S (S 11)) (puT (S 3) (S 4) ix) (S 11 + by_) then S 11 else S 11 + by_), swc (if missP (ldS S (S 11)) (puT (S 3) (S 4) ix) (S 11 + by_) then S 11 else S 11 + by_) (S 5) (S 6) (S 14), S 15 + 1, (if missP (ldS S (S 11)) (puT (S 3) (S 4) ix) (S 11 + by_) then S 16 + 1 else S 16), rem1 (S 17 + fi k)) = _
            rw [if_pos c66, if_pos c66]
          rw [e0]
          rw [show upd (upd (upd (upd (upd (upd S 10 ((S 10) + by_)) 11 ((S 11) + 0)) 15 ((S 15) + 1)) 16 ((S 16) + 1)) 17 (((S 17) + (fi k)) - ((S 17) + (fi k)) / 1000000 * 1000000)) 14 (swc ((upd (upd (upd (upd (upd S 10 ((S 10) + by_)) 11 ((S 11) + 0)) 15 ((S 15) + 1)) 16 ((S 16) + 1)) 17 (((S 17) + (fi k)) - ((S 17) + (fi k)) / 1000000 * 1000000)) 11) ((upd (upd (upd (upd (upd S 10 ((S 10) + by_)) 11 ((S 11) + 0)) 15 ((S 15) + 1)) 16 ((S 16) + 1)) 17 (((S 17) + (fi k)) - ((S 17) + (fi k)) / 1000000 * 1000000)) 5) ((upd (upd (upd (upd (upd S 10 ((S 10) + by_)) 11 ((S 11) + 0)) 15 ((S 15) + 1)) 16 ((S 16) + 1)) 17 (((S 17) + (fi k)) - ((S 17) + (fi k)) / 1000000 * 1000000)) 6) ((upd (upd (upd (upd (upd S 10 ((S 10) + by_)) 11 ((S 11) + 0)) 15 ((S 15) + 1)) 16 ((S 16) + 1)) 17 (((S 17) + (fi k)) - ((S 17) + (fi k)) / 1000000 * 1000000)) 14)) = putT S (S 10 + by_, S 11, swc (S 11) (S 5) (S 6) (S 14), S 15 + 1, S 16 + 1, rem1 (S 17 + fi k)) from putT_eq rfl (Int32.add_zero _) (congrArg (fun z => swc z (S 5) (S 6) (S 14)) (Int32.add_zero _)) rfl rfl rfl (fun j e1 e2 e3 e4 e5 e6 => by simp only [upd, if_neg e1, if_neg e2, if_neg e3, if_neg e4, if_neg e5, if_neg e6])]) dX9_steps_135
  refine lv_icmp_gt (tgt := 40) hx hb dX9_steps_16 (by decide) (fun c16 => ?_) (fun c16 => ?_)
  · refine lv_iconst (v := 1) hx hb dX9_steps_40 (by decide +kernel) ?_
    refine lv_goto (tgt := 45) hx hb dX9_steps_41 (by decide) ?_
    refine zTop (y := b01 (missP (ldS S (S 11)) (puT (S 3) (S 4) ix) (S 11 + by_))) (b01_1 (Or.inr c16)).symm ?_
    exact j45 _ _ (zP_sub hP [0, 1, 2] rfl) (hD.sub [0, 1, 2] rfl rfl) hS ls (lv_sub hl [0, 1, 2] rfl)
  · refine lv_aload_n hx hb dX9_steps_19 rfl (lv_at hl 0 rfl) ?_
    refine va_get (D := g.1) (ci := 9) (v := .ref m1) (C := RX9) (T := TX9) (N := 19) hx hb hts iX9 hown hK hP 1 rfl rfl 0 (by decide) (hts (.fieldLink RX9 7 "StepAxisModel" "s" "[I") (List.mem_of_getElem? (i := 1) rfl)) (fun _ h9 => h9) rfl dX9_steps_20 ?_
    refine lv_bipush (v := 11) hx hb dX9_steps_23 (by decide +kernel) ?_
    refine zald (k := 11) hx hb hK hP 2 0 rfl rfl (IX.lit (by decide +kernel)) dX9_steps_25 ?_
    refine lv_iload_n hx hb dX9_steps_26 rfl (lv_at hl 1 rfl) ?_
    refine lv_iadd hx hb dX9_steps_27 ?_
    refine lv_sipush (v := (-3000)) hx hb dX9_steps_28 (by decide +kernel) ?_
    refine lv_sipush (v := 3000) hx hb dX9_steps_31 (by decide +kernel) ?_
    refine zSI (As := [.int ((S 11) + by_), .int (-3000), .int 3000]) (rest := []) (wc := []) (wr := [(m6, aI g 201 fi), (m0, oB 9 [.ref m1, .ref m2, .ref m3, .ref m4, .int ps, .int rn, .ref m5, .int ty, .ref m6, .ref m7, .int la, .int mn, .int ma, .int sn, .int so, .int ca, .int cm, .int kd, .ref m8]), (m1, aI g 63 S)]) (wc' := []) ⟨hx, hb, hml, hown, hts⟩ (r_in l g ((S 11) + by_) (-3000) 3000) (va_cwS 3 hts gX9_steps_X9_in rfl rfl rfl (by decide +kernel) ⟨Nat.le_of_ble_eq_true rfl, Nat.le_of_ble_eq_true rfl⟩) hE hK hP hD hS hA [] [0, 1, 2] rfl rfl rfl rfl (by decide) rfl hl.1 rfl (lv_room (Nat.le_of_ble_eq_true rfl)) ⟨Nat.zero_le _, Nat.zero_le _⟩ dX9_steps_34 (fun H locs hP hD hS => ?_)
    have hP : va_P g.1 vwCl [(m6, aI g 201 fi), (m0, oB 9 [.ref m1, .ref m2, .ref m3, .ref m4, .int ps, .int rn, .ref m5, .int ty, .ref m6, .ref m7, .int la, .int mn, .int ma, .int sn, .int so, .int ca, .int cm, .int kd, .ref m8]), (m1, aI g 63 S)] H := hP
    have hD : va_D A [(m6, aI g 201 fi), (m0, oB 9 [.ref m1, .ref m2, .ref m3, .ref m4, .int ps, .int rn, .ref m5, .int ty, .ref m6, .ref m7, .int la, .int mn, .int ma, .int sn, .int so, .int ca, .int cm, .int kd, .ref m8]), (m1, aI g 63 S)] := hD
    refine lv_if_ne (tgt := 44) hx hb dX9_steps_37 (by decide) (fun c37 => ?_) (fun c37 => ?_)
    · have c37 := b01_t c37
      refine lv_iconst (v := 0) hx hb dX9_steps_44 (by decide +kernel) ?_
      refine zTop (y := b01 (missP (ldS S (S 11)) (puT (S 3) (S 4) ix) (S 11 + by_))) (b01_0 (fun h => h.elim (fun h => nin_not c37 h) (fun h => c16 h))).symm ?_
      exact j45 _ _ (zP_sub hP [0, 1, 2] rfl) (hD.sub [0, 1, 2] rfl rfl) hS ls (lv_sub hl [0, 1, 2] rfl)
    · have c37 := b01_f c37
      refine lv_iconst (v := 1) hx hb dX9_steps_40 (by decide +kernel) ?_
      refine lv_goto (tgt := 45) hx hb dX9_steps_41 (by decide) ?_
      refine zTop (y := b01 (missP (ldS S (S 11)) (puT (S 3) (S 4) ix) (S 11 + by_))) (b01_1 (Or.inl (nin_or c37))).symm ?_
      exact j45 _ _ (zP_sub hP [0, 1, 2] rfl) (hD.sub [0, 1, 2] rfl rfl) hS ls (lv_sub hl [0, 1, 2] rfl)
