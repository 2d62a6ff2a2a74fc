/-! the law: its leaves -/
set_option maxHeartbeats 4000000 in
set_option maxRecDepth 100000 in
theorem l_low (l : Launch) (g : G3) (v n : Int32) (hn : ¬ n = 0) : MI l yL_low wsL_low (rk 0 0) g [.int v, .int n] [] (loR v n) [] := by
  refine zWalkA.met (Qc := fun A => zQi g (loR v n) [] A) (cc := cL_low) (maxL := 2) (ret := (some .int)) (mc := 0) (ms := 0) ?_ (by decide) rfl (Nat.le_of_ble_eq_true rfl)
  intro pg ev sx mi args below meth cd A H locs ls hx hb hr hml hown hts hlocks hA hE hK hP hD hS hl
  have hl : lv_has ls 2 [(0, .int v), (1, .int n)] := hl
  refine lv_iload_n hx hb dL_low_0 rfl (lv_at hl 0 rfl) ?_
  refine lv_ldc hx hb hown (hts (.constant RL 8 (2147483647)) (List.mem_of_getElem? (i := 1) rfl)) dL_low_1 ?_
  refine lv_iand hx hb dL_low_3 ?_
  refine lv_iload_n hx hb dL_low_4 rfl (lv_at hl 1 rfl) ?_
  refine lv_irem hx hb dL_low_5 hn ?_
  exact zEia (v := (v &&& 2147483647) - (v &&& 2147483647) / n * n) (ws' := []) hx hb hlocks hr rfl hK hP hD hS [] rfl rfl rfl rfl dL_low_6

set_option maxHeartbeats 4000000 in
set_option maxRecDepth 100000 in
theorem l_cell (l : Launch) (g : G3) (b L K : Nat) (xs : Nat → Int32) (k : Int32) (ek : k = nI K) (hL : L ≤ 260) (hKb : K ≤ 100000) : MX l yL_cell wsL_cell (rk 0 0) g [.ref b, .int k] b L xs (clR xs L K) := by
  refine zWalkX.met (cc := cL_cell) (maxL := 2) (ret := some .int) ?_ (by decide) rfl (Nat.le_of_ble_eq_true rfl)
  intro pg ev sx mi args below meth cd A H locs ls hx hb hr hml hown hts hlocks hK hX hbl hbA hP hD hS hl
  have hl : lv_has ls 2 [(0, .ref b), (1, .int k)] := hl
  refine lv_iload_n hx hb dL_cell_0 rfl (lv_at hl 1 rfl) ?_
  refine lv_aload_n hx hb dL_cell_1 rfl (lv_at hl 0 rfl) ?_
  refine va_slen hx hb hX hbl hbA hS dL_cell_2 ?_
  refine zTop (y := nI L) rfl ?_
  refine lv_icmp_ge (tgt := 12) hx hb dL_cell_3 (by decide) (fun c3 => ?_) (fun c3 => ?_)
  · have hge : ¬ K < L := Nat.not_lt.mpr (nle_of (by omega) (by omega) (by rw [ek] at c3; exact c3))
    refine lv_ldc hx hb hown (hts (.constant RL 7 (40503)) (List.mem_of_getElem? (i := 1) rfl)) dL_cell_12 ?_
    refine lv_iload_n hx hb dL_cell_14 rfl (lv_at hl 1 rfl) ?_
    refine lv_iconst (v := 3) hx hb dL_cell_15 (by decide +kernel) ?_
    refine lv_iadd hx hb dL_cell_16 ?_
    refine lv_imul hx hb dL_cell_17 ?_
    exact zEi (v := 40503 * (k + 3)) (ws' := []) hx hb hlocks hr rfl hK hP hD hS [] rfl rfl (by rw [ek]; exact (if_neg hge).symm) rfl dL_cell_18
  · have hlt : K < L := nlt_of (by omega) (by rw [ek] at c3; exact c3)
    refine lv_aload_n hx hb dL_cell_6 rfl (lv_at hl 0 rfl) ?_
    refine lv_iload_n hx hb dL_cell_7 rfl (lv_at hl 1 rfl) ?_
    refine zsld (K) hx hb hX hbl hbA hS (IX.of ek hlt (by omega)) dL_cell_8 ?_
    refine lv_goto (tgt := 18) hx hb dL_cell_9 (by decide) ?_
    exact zEi (v := xs K) (ws' := []) hx hb hlocks hr rfl hK hP hD hS [] rfl rfl (if_pos hlt).symm rfl dL_cell_18

set_option maxHeartbeats 4000000 in
set_option maxRecDepth 100000 in
theorem l_load (l : Launch) (g : G3) (yg yw : Nat) (S ww : Nat → Int32) (p : Int32) (hnl : 0 ≤ (S 18).toInt ∧ (S 18).toInt ≤ 6) (hw : ww = wS S) : MI l yL_load wsL_load (rk 0 0) g [.ref yg, .ref yw, .int p] [(yg, aI g 19 S), (yw, aI g 18 ww)] (ldS S p) [(yg, aI g 19 S), (yw, aI g 18 ww)] := by
  refine zWalkA.met (Qc := fun A => zQi g (ldS S p) [(yg, aI g 19 S), (yw, aI g 18 ww)] A) (cc := cL_load) (maxL := 5) (ret := (some .int)) (mc := 0) (ms := 0) ?_ (by decide) rfl (Nat.le_of_ble_eq_true rfl)
  intro pg ev sx mi args below meth cd A H locs ls hx hb hr hml hown hts hlocks hA hE hK hP hD hS hl
  have hl : lv_has ls 5 [(0, .ref yg), (1, .ref yw), (2, .int p)] := hl
  obtain ⟨n, hn⟩ : ∃ n, n = (S 18).toInt.toNat := ⟨_, rfl⟩
  have en : S 18 = nI n := by rw [hn]; exact zof hnl.1
  have hn6 : n ≤ 6 := by omega
  rw [show ldS S p = lsum (frS S) (toS S) (wtS S) p n by unfold ldS; rw [hn]]
  refine lv_iconst (v := 0) hx hb dL_load_0 (by decide +kernel) ?_
  refine lv_istore_n (lv' := [(3, .int 0), (0, .ref yg), (1, .ref yw), (2, .int p)]) hx hb dL_load_1 rfl hl (by decide) rfl (fun ls hl => ?_)
  refine lv_iconst (v := 0) hx hb dL_load_2 (by decide +kernel) ?_
  refine lv_istore (lv' := [(4, .int 0), (3, .int 0), (0, .ref yg), (1, .ref yw), (2, .int p)]) hx hb dL_load_3 hl (by decide) rfl (fun ls hl => ?_)
  have lp5 : ∀ (fu : Nat) (k : Nat) (ii : Int32) (sm : Int32), (k ≤ n) → (ii = nI k) → (sm = lsum (frS S) (toS S) (wtS S) p k) → (n - k) < fu → ∀ (H : Heap) (locs : List Loc), va_P g.1 vwCl [(yg, aI g 19 S), (yw, aI g 18 ww)] H → va_D A [(yg, aI g 19 S), (yw, aI g 18 ww)] → va_S A sx.heap H locs → ∀ (ls : Array Slot), lv_has ls 5 [(4, .int ii), (3, .int sm), (0, .ref yg), (1, .ref yw), (2, .int p)] → W pg l ev (rk 0 0) sx mi args below meth cd H locs 0 0 (MQ below (zQi g (lsum (frS S) (toS S) (wtS S) p n) [(yg, aI g 19 S), (yw, aI g 18 ww)] A) args sx 0 0 A) (F0 mi 5 ls []) := by
    intro fu
    induction fu with
    | zero =>
      intro k ii sm hk ei es hmu
      exact absurd hmu (Nat.not_lt_zero _)
    | succ fu ih =>
      intro k ii sm hk ei es hmu H locs hP hD hS ls hl
      refine lv_iload hx hb dL_load_5 (lv_at hl 0 rfl) ?_
      refine lv_aload_n hx hb dL_load_7 rfl (lv_at hl 2 rfl) ?_
      refine lv_bipush (v := 18) hx hb dL_load_8 (by decide +kernel) ?_
      refine zald (k := 18) hx hb hK hP 0 0 rfl rfl (IX.lit (by decide +kernel)) dL_load_10 ?_
      refine lv_icmp_ge (tgt := 57) hx hb dL_load_11 (by decide) (fun c11 => ?_) (fun c11 => ?_)
      · have hkn : k = n := Nat.le_antisymm hk (nle_of (by omega) (by omega) (by rw [ei, en] at c11; exact c11))
        refine lv_iload_n hx hb dL_load_57 rfl (lv_at hl 1 rfl) ?_
        exact zEia (v := sm) (ws' := [(yg, aI g 19 S), (yw, aI g 18 ww)]) hx hb hlocks hr rfl hK hP hD hS [0, 1] rfl rfl (by rw [es, hkn]) rfl dL_load_58
      · have hlt : k < n := nlt_of (by omega) (by rw [ei, en] at c11; exact c11)
        refine lv_iload_n hx hb dL_load_14 rfl (lv_at hl 1 rfl) ?_
        refine lv_iload_n hx hb dL_load_15 rfl (lv_at hl 4 rfl) ?_
        refine lv_aload_n hx hb dL_load_16 rfl (lv_at hl 3 rfl) ?_
        refine lv_iconst (v := 3) hx hb dL_load_17 (by decide +kernel) ?_
        refine lv_iload hx hb dL_load_18 (lv_at hl 0 rfl) ?_
        refine lv_imul hx hb dL_load_20 ?_
        refine zald (k := (3 * k)) hx hb hK hP 1 0 rfl rfl (IX.of (by rw [ei, show (3 : Int32) = nI 3 from rfl, pk_mul]) (by omega) (by decide)) dL_load_21 ?_
        refine zTop (y := frS S k) (by rw [hw]; exact congrArg S (by omega)) ?_
        refine lv_icmp_lt (tgt := 48) hx hb dL_load_22 (by decide) (fun c22 => ?_) (fun c22 => ?_)
        · refine lv_iconst (v := 0) hx hb dL_load_48 (by decide +kernel) ?_
          refine lv_iadd hx hb dL_load_49 ?_
          refine lv_istore_n (lv' := [(3, .int (sm + 0)), (4, .int ii), (0, .ref yg), (1, .ref yw), (2, .int p)]) hx hb dL_load_50 rfl hl (by decide) rfl (fun ls hl => ?_)
          refine lv_iinc (v := ii + 1) (lv' := [(4, .int (ii + 1)), (3, .int (sm + 0)), (0, .ref yg), (1, .ref yw), (2, .int p)]) hx hb dL_load_51 hl (k := 1) rfl (by rfl) (by decide) rfl (fun ls hl => ?_)
          refine lv_goto (tgt := 5) hx hb dL_load_54 (by decide) ?_
          exact ih (k + 1) (ii + 1) (sm + 0) hlt (by rw [ei]; exact nI_1 k) (by rw [es, Int32.add_zero]; exact (lsum_no (fun h => znlt c22 h.1)).symm) (by omega) _ _ (zP_sub hP [0, 1] rfl) (hD.sub [0, 1] rfl rfl) hS ls (lv_sub hl [0, 1, 2, 3, 4] rfl)
        · refine lv_iload_n hx hb dL_load_25 rfl (lv_at hl 4 rfl) ?_
          refine lv_aload_n hx hb dL_load_26 rfl (lv_at hl 3 rfl) ?_
          refine lv_iconst (v := 3) hx hb dL_load_27 (by decide +kernel) ?_
          refine lv_iload hx hb dL_load_28 (lv_at hl 0 rfl) ?_
          refine lv_imul hx hb dL_load_30 ?_
          refine lv_iconst (v := 1) hx hb dL_load_31 (by decide +kernel) ?_
          refine lv_iadd hx hb dL_load_32 ?_
          refine zald (k := (3 * k + 1)) hx hb hK hP 1 0 rfl rfl (IX.of (by rw [ei, show (3 : Int32) = nI 3 from rfl, pk_mul, nI_1]) (by omega) (by decide)) dL_load_33 ?_
          refine zTop (y := toS S k) (by rw [hw]; exact congrArg S (by omega)) ?_
          refine lv_icmp_gt (tgt := 48) hx hb dL_load_34 (by decide) (fun c34 => ?_) (fun c34 => ?_)
          · refine lv_iconst (v := 0) hx hb dL_load_48 (by decide +kernel) ?_
            refine lv_iadd hx hb dL_load_49 ?_
            refine lv_istore_n (lv' := [(3, .int (sm + 0)), (4, .int ii), (0, .ref yg), (1, .ref yw), (2, .int p)]) hx hb dL_load_50 rfl hl (by decide) rfl (fun ls hl => ?_)
            refine lv_iinc (v := ii + 1) (lv' := [(4, .int (ii + 1)), (3, .int (sm + 0)), (0, .ref yg), (1, .ref yw), (2, .int p)]) hx hb dL_load_51 hl (k := 1) rfl (by rfl) (by decide) rfl (fun ls hl => ?_)
            refine lv_goto (tgt := 5) hx hb dL_load_54 (by decide) ?_
            exact ih (k + 1) (ii + 1) (sm + 0) hlt (by rw [ei]; exact nI_1 k) (by rw [es, Int32.add_zero]; exact (lsum_no (fun h => znlt c34 h.2)).symm) (by omega) _ _ (zP_sub hP [0, 1] rfl) (hD.sub [0, 1] rfl rfl) hS ls (lv_sub hl [0, 1, 2, 3, 4] rfl)
          · refine lv_aload_n hx hb dL_load_37 rfl (lv_at hl 3 rfl) ?_
            refine lv_iconst (v := 3) hx hb dL_load_38 (by decide +kernel) ?_
            refine lv_iload hx hb dL_load_39 (lv_at hl 0 rfl) ?_
            refine lv_imul hx hb dL_load_41 ?_
            refine lv_iconst (v := 2) hx hb dL_load_42 (by decide +kernel) ?_
            refine lv_iadd hx hb dL_load_43 ?_
            refine zald (k := (3 * k + 2)) hx hb hK hP 1 0 rfl rfl (IX.of (by rw [ei, show (3 : Int32) = nI 3 from rfl, pk_mul, show (2 : Int32) = nI 2 from rfl, nI_add]) (by omega) (by decide)) dL_load_44 ?_
            refine zTop (y := wtS S k) (by rw [hw]; exact congrArg S (by omega)) ?_
            refine lv_goto (tgt := 49) hx hb dL_load_45 (by decide) ?_
            refine lv_iadd hx hb dL_load_49 ?_
            refine lv_istore_n (lv' := [(3, .int (sm + (wtS S k))), (4, .int ii), (0, .ref yg), (1, .ref yw), (2, .int p)]) hx hb dL_load_50 rfl hl (by decide) rfl (fun ls hl => ?_)
            refine lv_iinc (v := ii + 1) (lv' := [(4, .int (ii + 1)), (3, .int (sm + (wtS S k))), (0, .ref yg), (1, .ref yw), (2, .int p)]) hx hb dL_load_51 hl (k := 1) rfl (by rfl) (by decide) rfl (fun ls hl => ?_)
            refine lv_goto (tgt := 5) hx hb dL_load_54 (by decide) ?_
            exact ih (k + 1) (ii + 1) (sm + (wtS S k)) hlt (by rw [ei]; exact nI_1 k) (by rw [es]; exact (lsum_yes ⟨zge c22, zge c34⟩).symm) (by omega) _ _ (zP_sub hP [0, 1] rfl) (hD.sub [0, 1] rfl rfl) hS ls (lv_sub hl [0, 1, 2, 3, 4] rfl)
  exact lp5 ((n - 0) + 1) 0 0 0 (Nat.zero_le n) rfl rfl (Nat.lt_succ_self _) _ _ (zP_sub hP [0, 1] rfl) (hD.sub [0, 1] rfl rfl) hS ls (lv_sub hl [0, 1, 2, 3, 4] rfl)

set_option maxHeartbeats 4000000 in
set_option maxRecDepth 100000 in
theorem l_pull (l : Launch) (g : G3) (yg : Nat) (S : Nat → Int32) (n : Int32) (k : Nat) (hok : setOk S) (en : n = nI k) (hk : k ≤ 200) : MI l yL_pull wsL_pull (rk 0 0) g [.ref yg, .int n] [(yg, aI g 19 S)] (puT (S 3) (S 4) n) [(yg, aI g 19 S)] := by
  refine zWalkA.met (Qc := fun A => zQi g (puT (S 3) (S 4) n) [(yg, aI g 19 S)] A) (cc := cL_pull) (maxL := 3) (ret := (some .int)) (mc := 0) (ms := 0) ?_ (by decide) rfl (Nat.le_of_ble_eq_true rfl)
  intro pg ev sx mi args below meth cd A H locs ls hx hb hr hml hown hts hlocks hA hE hK hP hD hS hl
  have hl : lv_has ls 3 [(0, .ref yg), (1, .int n)] := hl
  refine lv_iload_n hx hb dL_pull_0 rfl (lv_at hl 1 rfl) ?_
  refine lv_aload_n hx hb dL_pull_1 rfl (lv_at hl 0 rfl) ?_
  refine lv_iconst (v := 4) hx hb dL_pull_2 (by decide +kernel) ?_
  refine zald (k := 4) hx hb hK hP 0 0 rfl rfl (IX.lit (by decide +kernel)) dL_pull_3 ?_
  refine lv_imul hx hb dL_pull_4 ?_
  refine lv_bipush (v := 16) hx hb dL_pull_5 (by decide +kernel) ?_
  refine lv_idiv hx hb dL_pull_7 (by decide +kernel) ?_
  refine lv_istore_n (lv' := [(2, .int ((n * (S 4)) / 16)), (0, .ref yg), (1, .int n)]) hx hb dL_pull_8 rfl hl (by decide) rfl (fun ls hl => ?_)
  refine lv_aload_n hx hb dL_pull_9 rfl (lv_at hl 1 rfl) ?_
  refine lv_iconst (v := 3) hx hb dL_pull_10 (by decide +kernel) ?_
  refine zald (k := 3) hx hb hK hP 0 0 rfl rfl (IX.lit (by decide +kernel)) dL_pull_11 ?_
  refine lv_iload_n hx hb dL_pull_12 rfl (lv_at hl 0 rfl) ?_
  refine lv_icmp_le (tgt := 24) hx hb dL_pull_13 (by decide) (fun c13 => ?_) (fun c13 => ?_)
  · refine lv_iconst (v := 0) hx hb dL_pull_24 (by decide +kernel) ?_
    exact zEia (v := 0) (ws' := [(yg, aI g 19 S)]) hx hb hlocks hr rfl hK hP hD hS [0] rfl rfl (by subst en; exact (lpu_le hok hk c13).symm) rfl dL_pull_25
  · refine lv_aload_n hx hb dL_pull_16 rfl (lv_at hl 1 rfl) ?_
    refine lv_iconst (v := 3) hx hb dL_pull_17 (by decide +kernel) ?_
    refine zald (k := 3) hx hb hK hP 0 0 rfl rfl (IX.lit (by decide +kernel)) dL_pull_18 ?_
    refine lv_iload_n hx hb dL_pull_19 rfl (lv_at hl 0 rfl) ?_
    refine lv_isub hx hb dL_pull_20 ?_
    refine lv_goto (tgt := 25) hx hb dL_pull_21 (by decide) ?_
    exact zEia (v := (S 3) - ((n * (S 4)) / 16)) (ws' := [(yg, aI g 19 S)]) hx hb hlocks hr rfl hK hP hD hS [0] rfl rfl (by subst en; exact (lpu_gt hok hk c13).symm) rfl dL_pull_25

set_option maxHeartbeats 4000000 in
set_option maxRecDepth 100000 in
theorem l_ramp (l : Launch) (g : G3) (yg yc yr : Nat) (S fc fr : Nat → Int32) (mo : Int32) (hok : setOk S) (h60 : (S 2).toInt ≤ 60) (hmo : mo = S 2) : MI l yL_ramp wsL_ramp (rk 0 0) g [.ref yg, .int mo, .ref yc, .ref yr] [(yg, aI g 19 S), (yc, aI g 64 fc), (yr, aI g 64 fr)] (nI (topS S)) [(yg, aI g 19 S), (yc, aI g 64 (fillT (ivS S) fc (topS S + 1))), (yr, aI g 64 (fillT (rsS S) fr (topS S + 1)))] := by
  refine zWalkA.met (Qc := fun A => zQi g (nI (topS S)) [(yg, aI g 19 S), (yc, aI g 64 (fillT (ivS S) fc (topS S + 1))), (yr, aI g 64 (fillT (rsS S) fr (topS S + 1)))] A) (cc := cL_ramp) (maxL := 6) (ret := (some .int)) (mc := 0) (ms := 0) ?_ (by decide) rfl (Nat.le_of_ble_eq_true rfl)
  intro pg ev sx mi args below meth cd A H locs ls hx hb hr hml hown hts hlocks hA hE hK hP hD hS hl
  have hl : lv_has ls 6 [(0, .ref yg), (1, .int mo), (2, .ref yc), (3, .ref yr)] := hl
  have hS2 := hok.2.2.1
  refine lv_iconst (v := 0) hx hb dL_ramp_0 (by decide +kernel) ?_
  refine lv_istore (lv' := [(4, .int 0), (0, .ref yg), (1, .int mo), (2, .ref yc), (3, .ref yr)]) hx hb dL_ramp_1 hl (by decide) rfl (fun ls hl => ?_)
  refine lv_aload_n hx hb dL_ramp_3 rfl (lv_at hl 3 rfl) ?_
  refine lv_iconst (v := 0) hx hb dL_ramp_4 (by decide +kernel) ?_
  refine lv_aload_n hx hb dL_ramp_5 rfl (lv_at hl 1 rfl) ?_
  refine lv_iconst (v := 0) hx hb dL_ramp_6 (by decide +kernel) ?_
  refine zald (k := 0) hx hb hK hP 0 0 rfl rfl (IX.lit (by decide +kernel)) dL_ramp_7 ?_
  refine zast (k := 0) hx hb hK hP hD hS 1 0 rfl rfl (IX.lit (by decide +kernel)) dL_ramp_8 (fun H locs hP hD hS => ?_)
  have hP : va_P g.1 vwCl [(yg, aI g 19 S), (yc, aI g 64 (upd fc 0 (S 0))), (yr, aI g 64 fr)] H := hP
  have hD : va_D A [(yg, aI g 19 S), (yc, aI g 64 (upd fc 0 (S 0))), (yr, aI g 64 fr)] := hD
  refine lv_aload_n hx hb dL_ramp_9 rfl (lv_at hl 4 rfl) ?_
  refine lv_iconst (v := 0) hx hb dL_ramp_10 (by decide +kernel) ?_
  refine lv_iconst (v := 0) hx hb dL_ramp_11 (by decide +kernel) ?_
  refine zast (k := 0) hx hb hK hP hD hS 2 0 rfl rfl (IX.lit (by decide +kernel)) dL_ramp_12 (fun H locs hP hD hS => ?_)
  have hP : va_P g.1 vwCl [(yg, aI g 19 S), (yc, aI g 64 (upd fc 0 (S 0))), (yr, aI g 64 (upd fr 0 0))] H := hP
  have hD : va_D A [(yg, aI g 19 S), (yc, aI g 64 (upd fc 0 (S 0))), (yr, aI g 64 (upd fr 0 0))] := hD
  rw [show (upd fc 0 (S 0)) = fillT (ivS S) fc (0 + 1) from fillT_1 (ivS_z S)] at hP hD
  rw [show (upd fr 0 0) = fillT (rsS S) fr (0 + 1) from fillT_1 (rsS_z S)] at hP hD
  refine lv_aload_n hx hb dL_ramp_13 rfl (lv_at hl 1 rfl) ?_
  refine lv_iconst (v := 0) hx hb dL_ramp_14 (by decide +kernel) ?_
  refine zald (k := 0) hx hb hK hP 0 0 rfl rfl (IX.lit (by decide +kernel)) dL_ramp_15 ?_
  refine lv_aload_n hx hb dL_ramp_16 rfl (lv_at hl 1 rfl) ?_
  refine lv_iconst (v := 1) hx hb dL_ramp_17 (by decide +kernel) ?_
  refine zald (k := 1) hx hb hK hP 0 0 rfl rfl (IX.lit (by decide +kernel)) dL_ramp_18 ?_
  refine lv_icmp_gt (tgt := 24) hx hb dL_ramp_19 (by decide) (fun c19 => ?_) (fun c19 => ?_)
  · have lp24 : ∀ (fu : Nat) (k : Nat) (ii : Int32), (k ≤ (S 2).toInt.toNat) → (ii = nI k) → (∀ j, j < k → S 1 < ivS S j) → (S 1 < ivS S k) → ((S 2).toInt.toNat - k) < fu → ∀ (H : Heap) (locs : List Loc), va_P g.1 vwCl [(yg, aI g 19 S), (yc, aI g 64 (fillT (ivS S) fc (k + 1))), (yr, aI g 64 (fillT (rsS S) fr (k + 1)))] H → va_D A [(yg, aI g 19 S), (yc, aI g 64 (fillT (ivS S) fc (k + 1))), (yr, aI g 64 (fillT (rsS S) fr (k + 1)))] → va_S A sx.heap H locs → ∀ (ls : Array Slot), lv_has ls 6 [(4, .int ii), (0, .ref yg), (1, .int mo), (2, .ref yc), (3, .ref yr)] → W pg l ev (rk 0 0) sx mi args below meth cd H locs 0 0 (MQ below (zQi g (nI (topS S)) [(yg, aI g 19 S), (yc, aI g 64 (fillT (ivS S) fc (topS S + 1))), (yr, aI g 64 (fillT (rsS S) fr (topS S + 1)))] A) args sx 0 0 A) (F0 mi 24 ls []) := by
      intro fu
      induction fu with
      | zero =>
        intro k ii hk ei hall hgo hmu
        exact absurd hmu (Nat.not_lt_zero _)
      | succ fu ih =>
        intro k ii hk ei hall hgo hmu H locs hP hD hS ls hl
        refine lv_iload hx hb dL_ramp_24 (lv_at hl 0 rfl) ?_
        refine lv_iload_n hx hb dL_ramp_26 rfl (lv_at hl 2 rfl) ?_
        refine lv_icmp_ge (tgt := 102) hx hb dL_ramp_27 (by decide) (fun c27 => ?_) (fun c27 => ?_)
        · have htop : topS S = k := topN_eq hk hall (Or.inl (by rw [hmo, ei, zle, znI (by omega)] at c27; omega))
          refine lv_iload hx hb dL_ramp_102 (lv_at hl 0 rfl) ?_
          exact zEia (v := ii) (ws' := [(yg, aI g 19 S), (yc, aI g 64 (fillT (ivS S) fc (k + 1))), (yr, aI g 64 (fillT (rsS S) fr (k + 1)))]) hx hb hlocks hr rfl hK hP hD hS [0, 1, 2] rfl rfl (by rw [htop]; exact ei) (by rw [htop]) dL_ramp_104
        · have hlt : k + 1 ≤ (S 2).toInt.toNat := by rw [hmo, ei, zle, znI (by omega)] at c27; omega
          have hall2 : ∀ j, j < k + 1 → S 1 < ivS S j := fun j hj => (Nat.lt_or_ge j k).elim (fun h => hall j h) (fun h => by rw [show j = k by omega]; exact hgo)
          refine lv_iconst (v := 2) hx hb dL_ramp_30 (by decide +kernel) ?_
          refine lv_aload_n hx hb dL_ramp_31 rfl (lv_at hl 3 rfl) ?_
          refine lv_iload hx hb dL_ramp_32 (lv_at hl 0 rfl) ?_
          refine zald (k := k) hx hb hK hP 1 0 rfl rfl (IX.of ei (by omega) (by decide)) dL_ramp_34 ?_
          refine zTop (y := ivS S k) (fillT_in (Nat.lt_succ_self k)) ?_
          refine lv_imul hx hb dL_ramp_35 ?_
          refine lv_aload_n hx hb dL_ramp_36 rfl (lv_at hl 4 rfl) ?_
          refine lv_iload hx hb dL_ramp_37 (lv_at hl 0 rfl) ?_
          refine zald (k := k) hx hb hK hP 2 0 rfl rfl (IX.of ei (by omega) (by decide)) dL_ramp_39 ?_
          refine zTop (y := rsS S k) (fillT_in (Nat.lt_succ_self k)) ?_
          refine lv_iadd hx hb dL_ramp_40 ?_
          refine lv_istore (lv' := [(5, .int ((2 * (ivS S k)) + (rsS S k))), (4, .int ii), (0, .ref yg), (1, .int mo), (2, .ref yc), (3, .ref yr)]) hx hb dL_ramp_41 hl (by decide) rfl (fun ls hl => ?_)
          refine lv_iinc (v := ii + 1) (lv' := [(4, .int (ii + 1)), (5, .int ((2 * (ivS S k)) + (rsS S k))), (0, .ref yg), (1, .int mo), (2, .ref yc), (3, .ref yr)]) hx hb dL_ramp_43 hl (k := 1) rfl (by rfl) (by decide) rfl (fun ls hl => ?_)
          refine lv_aload_n hx hb dL_ramp_46 rfl (lv_at hl 5 rfl) ?_
          refine lv_iload hx hb dL_ramp_47 (lv_at hl 0 rfl) ?_
          refine lv_iload hx hb dL_ramp_49 (lv_at hl 1 rfl) ?_
          refine lv_iconst (v := 4) hx hb dL_ramp_51 (by decide +kernel) ?_
          refine lv_iload hx hb dL_ramp_52 (lv_at hl 0 rfl) ?_
          refine lv_imul hx hb dL_ramp_54 ?_
          refine lv_iconst (v := 1) hx hb dL_ramp_55 (by decide +kernel) ?_
          refine lv_iadd hx hb dL_ramp_56 ?_
          refine zTop (y := rD k) (by rw [ei, nI_1]; exact rD_s k) ?_
          refine lv_irem hx hb dL_ramp_57 (rD_ne (by omega)) ?_
          refine zast (k := (k + 1)) hx hb hK hP hD hS 2 0 rfl rfl (IX.of (by rw [ei]; exact nI_1 k) (by omega) (by decide)) dL_ramp_58 (fun H locs hP hD hS => ?_)
          have hP : va_P g.1 vwCl [(yg, aI g 19 S), (yc, aI g 64 (fillT (ivS S) fc (k + 1))), (yr, aI g 64 (upd (fillT (rsS S) fr (k + 1)) (k + 1) (((2 * (ivS S k)) + (rsS S k)) - ((2 * (ivS S k)) + (rsS S k)) / (rD k) * (rD k))))] H := hP
          have hD : va_D A [(yg, aI g 19 S), (yc, aI g 64 (fillT (ivS S) fc (k + 1))), (yr, aI g 64 (upd (fillT (rsS S) fr (k + 1)) (k + 1) (((2 * (ivS S k)) + (rsS S k)) - ((2 * (ivS S k)) + (rsS S k)) / (rD k) * (rD k))))] := hD
          rw [show (upd (fillT (rsS S) fr (k + 1)) (k + 1) (((2 * (ivS S k)) + (rsS S k)) - ((2 * (ivS S k)) + (rsS S k)) / (rD k) * (rD k))) = fillT (rsS S) fr (k + 1 + 1) from fillT_upd (rsS_s S k)] at hP hD
          refine lv_aload_n hx hb dL_ramp_59 rfl (lv_at hl 4 rfl) ?_
          refine lv_iload hx hb dL_ramp_60 (lv_at hl 0 rfl) ?_
          refine lv_aload_n hx hb dL_ramp_62 rfl (lv_at hl 4 rfl) ?_
          refine lv_iload hx hb dL_ramp_63 (lv_at hl 0 rfl) ?_
          refine lv_iconst (v := 1) hx hb dL_ramp_65 (by decide +kernel) ?_
          refine lv_isub hx hb dL_ramp_66 ?_
          refine zald (k := k) hx hb hK hP 1 0 rfl rfl (IX.of (by rw [ei, nI_1]; exact nI_pred k) (by omega) (by decide)) dL_ramp_67 ?_
          refine zTop (y := ivS S k) (fillT_in (Nat.lt_succ_self k)) ?_
          refine lv_iload hx hb dL_ramp_68 (lv_at hl 1 rfl) ?_
          refine lv_iconst (v := 4) hx hb dL_ramp_70 (by decide +kernel) ?_
          refine lv_iload hx hb dL_ramp_71 (lv_at hl 0 rfl) ?_
          refine lv_imul hx hb dL_ramp_73 ?_
          refine lv_iconst (v := 1) hx hb dL_ramp_74 (by decide +kernel) ?_
          refine lv_iadd hx hb dL_ramp_75 ?_
          refine zTop (y := rD k) (by rw [ei, nI_1]; exact rD_s k) ?_
          refine lv_idiv hx hb dL_ramp_76 (rD_ne (by omega)) ?_
          refine lv_isub hx hb dL_ramp_77 ?_
          refine zast (k := (k + 1)) hx hb hK hP hD hS 1 0 rfl rfl (IX.of (by rw [ei]; exact nI_1 k) (by omega) (by decide)) dL_ramp_78 (fun H locs hP hD hS => ?_)
          have hP : va_P g.1 vwCl [(yg, aI g 19 S), (yc, aI g 64 (upd (fillT (ivS S) fc (k + 1)) (k + 1) ((ivS S k) - (((2 * (ivS S k)) + (rsS S k)) / (rD k))))), (yr, aI g 64 (fillT (rsS S) fr (k + 1 + 1)))] H := hP
          have hD : va_D A [(yg, aI g 19 S), (yc, aI g 64 (upd (fillT (ivS S) fc (k + 1)) (k + 1) ((ivS S k) - (((2 * (ivS S k)) + (rsS S k)) / (rD k))))), (yr, aI g 64 (fillT (rsS S) fr (k + 1 + 1)))] := hD
          refine lv_aload_n hx hb dL_ramp_79 rfl (lv_at hl 4 rfl) ?_
          refine lv_iload hx hb dL_ramp_80 (lv_at hl 0 rfl) ?_
          refine zald (k := (k + 1)) hx hb hK hP 1 0 rfl rfl (IX.of (by rw [ei]; exact nI_1 k) (by omega) (by decide)) dL_ramp_82 ?_
          refine zTop (y := (ivS S k) - (((2 * (ivS S k)) + (rsS S k)) / (rD k))) (if_pos rfl) ?_
          refine lv_aload_n hx hb dL_ramp_83 rfl (lv_at hl 2 rfl) ?_
          refine lv_iconst (v := 1) hx hb dL_ramp_84 (by decide +kernel) ?_
          refine zald (k := 1) hx hb hK hP 0 0 rfl rfl (IX.lit (by decide +kernel)) dL_ramp_85 ?_
          refine lv_icmp_gt (tgt := 99) hx hb dL_ramp_86 (by decide) (fun c86 => ?_) (fun c86 => ?_)
          · have c86b := c86
            rw [show (upd (fillT (ivS S) fc (k + 1)) (k + 1) ((ivS S k) - (((2 * (ivS S k)) + (rsS S k)) / (rD k)))) = fillT (ivS S) fc (k + 1 + 1) from fillT_upd ((if_pos c86).symm.trans (ivS_s S k))] at hP hD
            have hgo2 : S 1 < ivS S (k + 1) := by rw [← ivS_s, if_pos c86]; exact c86
            refine lv_goto (tgt := 24) hx hb dL_ramp_99 (by decide) ?_
            exact ih (k + 1) (ii + 1) hlt (by rw [ei]; exact nI_1 k) hall2 hgo2 (by omega) _ _ (zP_sub hP [0, 1, 2] rfl) (hD.sub [0, 1, 2] rfl rfl) hS ls (lv_sub hl [0, 2, 3, 4, 5] rfl)
          · refine lv_aload_n hx hb dL_ramp_89 rfl (lv_at hl 4 rfl) ?_
            refine lv_iload hx hb dL_ramp_90 (lv_at hl 0 rfl) ?_
            refine lv_aload_n hx hb dL_ramp_92 rfl (lv_at hl 2 rfl) ?_
            refine lv_iconst (v := 1) hx hb dL_ramp_93 (by decide +kernel) ?_
            refine zald (k := 1) hx hb hK hP 0 0 rfl rfl (IX.lit (by decide +kernel)) dL_ramp_94 ?_
            refine zast (k := (k + 1)) hx hb hK hP hD hS 1 0 rfl rfl (IX.of (by rw [ei]; exact nI_1 k) (by omega) (by decide)) dL_ramp_95 (fun H locs hP hD hS => ?_)
            have hP : va_P g.1 vwCl [(yg, aI g 19 S), (yc, aI g 64 (upd (upd (fillT (ivS S) fc (k + 1)) (k + 1) ((ivS S k) - (((2 * (ivS S k)) + (rsS S k)) / (rD k)))) (k + 1) (S 1))), (yr, aI g 64 (fillT (rsS S) fr (k + 1 + 1)))] H := hP
            have hD : va_D A [(yg, aI g 19 S), (yc, aI g 64 (upd (upd (fillT (ivS S) fc (k + 1)) (k + 1) ((ivS S k) - (((2 * (ivS S k)) + (rsS S k)) / (rD k)))) (k + 1) (S 1))), (yr, aI g 64 (fillT (rsS S) fr (k + 1 + 1)))] := hD
            rw [show (upd (upd (fillT (ivS S) fc (k + 1)) (k + 1) ((ivS S k) - (((2 * (ivS S k)) + (rsS S k)) / (rD k)))) (k + 1) (S 1)) = upd (fillT (ivS S) fc (k + 1)) (k + 1) (S 1) from upd_upd] at hP hD
            rw [show (upd (fillT (ivS S) fc (k + 1)) (k + 1) (S 1)) = fillT (ivS S) fc (k + 1 + 1) from fillT_upd ((if_neg c86).symm.trans (ivS_s S k))] at hP hD
            have htop : topS S = k + 1 := topN_eq hlt hall2 (Or.inr (by rw [← ivS_s, if_neg c86, zlt]; exact Int.lt_irrefl _))
            refine lv_iload hx hb dL_ramp_96 (lv_at hl 0 rfl) ?_
            exact zEia (v := ii + 1) (ws' := [(yg, aI g 19 S), (yc, aI g 64 (fillT (ivS S) fc (k + 1 + 1))), (yr, aI g 64 (fillT (rsS S) fr (k + 1 + 1)))]) hx hb hlocks hr rfl hK hP hD hS [0, 1, 2] rfl rfl (by rw [htop, ei]; exact nI_1 k) (by rw [htop]) dL_ramp_98
    exact lp24 (((S 2).toInt.toNat - 0) + 1) 0 0 (Nat.zero_le _) rfl (fun j h => absurd h (Nat.not_lt_zero j)) (by rw [← ivS_z]; exact c19) (Nat.lt_succ_self _) _ _ (zP_sub hP [0, 1, 2] rfl) (hD.sub [0, 1, 2] rfl rfl) hS ls (lv_sub hl [0, 1, 2, 3, 4] rfl)
  · refine lv_iconst (v := 0) hx hb dL_ramp_22 (by decide +kernel) ?_
    exact zEia (v := 0) (ws' := [(yg, aI g 19 S), (yc, aI g 64 (fillT (ivS S) fc (0 + 1))), (yr, aI g 64 (fillT (rsS S) fr (0 + 1)))]) hx hb hlocks hr rfl hK hP hD hS [0, 1, 2] rfl rfl (by rw [top_0 c19]; rfl) (by rw [top_0 c19]) dL_ramp_23

set_option maxHeartbeats 4000000 in
set_option maxRecDepth 100000 in
theorem l_step (l : Launch) (g : G3) (yg yw yc : Nat) (S ww fc : Nat → Int32) (by_ ixx : Int32) (k : Nat) (hok : setOk S) (hnl : 0 ≤ (S 18).toInt ∧ (S 18).toInt ≤ 6) (hw : ww = wS S) (eix : ixx = nI k) (hk : k < 64) : MI l yL_step wsL_step (rk 1 24) g [.ref yg, .ref yw, .ref yc, .int by_, .int ixx] [(yg, aI g 19 S), (yw, aI g 18 ww), (yc, aI g 64 fc)] (b01 (¬ (missP (ldS S (S 11)) (puS S k) (S 11 + by_)))) [(yg, aI g 19 (putT S (stp S by_ (fc k) (puS S k) (getT S)))), (yw, aI g 18 ww), (yc, aI g 64 fc)] := by
  refine zWalkA.met (Qc := fun A => zQi g (b01 (¬ (missP (ldS S (S 11)) (puS S k) (S 11 + by_)))) [(yg, aI g 19 (putT S (stp S by_ (fc k) (puS S k) (getT S)))), (yw, aI g 18 ww), (yc, aI g 64 fc)] A) (cc := cL_step) (maxL := 7) (ret := (some .boolean)) (mc := 0) (ms := 0) ?_ (by decide) rfl (Nat.le_of_ble_eq_true rfl)
  intro pg ev sx mi args below meth cd A H locs ls hx hb hr hml hown hts hlocks hA hE hK hP hD hS hl
  have hl : lv_has ls 7 [(0, .ref yg), (1, .ref yw), (2, .ref yc), (3, .int by_), (4, .int ixx)] := hl
  refine lv_aload_n hx hb dL_step_0 rfl (lv_at hl 0 rfl) ?_
  refine lv_bipush (v := 11) hx hb dL_step_1 (by decide +kernel) ?_
  refine zald (k := 11) hx hb hK hP 0 0 rfl rfl (IX.lit (by decide +kernel)) dL_step_3 ?_
  refine lv_iload_n hx hb dL_step_4 rfl (lv_at hl 3 rfl) ?_
  refine lv_iadd hx hb dL_step_5 ?_
  refine lv_istore (lv' := [(5, .int ((S 11) + by_)), (0, .ref yg), (1, .ref yw), (2, .ref yc), (3, .int by_), (4, .int ixx)]) hx hb dL_step_6 hl (by decide) rfl (fun ls hl => ?_)
  refine lv_aload_n hx hb dL_step_8 rfl (lv_at hl 1 rfl) ?_
  refine lv_aload_n hx hb dL_step_9 rfl (lv_at hl 2 rfl) ?_
  refine lv_aload_n hx hb dL_step_10 rfl (lv_at hl 1 rfl) ?_
  refine lv_bipush (v := 11) hx hb dL_step_11 (by decide +kernel) ?_
  refine zald (k := 11) hx hb hK hP 0 0 rfl rfl (IX.lit (by decide +kernel)) dL_step_13 ?_
  refine zSI (As := [.ref yg, .ref yw, .int (S 11)]) (rest := []) (wc := [(yg, aI g 19 S), (yw, aI g 18 ww)]) (wr := [(yc, aI g 64 fc)]) (wc' := [(yg, aI g 19 S), (yw, aI g 18 ww)]) ⟨hx, hb, hml, hown, hts⟩ (l_load l g yg yw S ww (S 11) hnl hw) (va_cwS 3 hts gL_step_L_load rfl rfl rfl (by decide +kernel) ⟨Nat.le_of_ble_eq_true rfl, Nat.le_of_ble_eq_true rfl⟩) hE hK hP hD hS hA [0, 1] [2] rfl rfl rfl rfl (by decide) rfl hl.1 rfl (lv_room (Nat.le_of_ble_eq_true rfl)) ⟨(Nat.le_of_ble_eq_true rfl), (Nat.le_of_ble_eq_true rfl)⟩ dL_step_14 (fun H locs hP hD hS => ?_)
  have hP : va_P g.1 vwCl [(yc, aI g 64 fc), (yg, aI g 19 S), (yw, aI g 18 ww)] H := hP
  have hD : va_D A [(yc, aI g 64 fc), (yg, aI g 19 S), (yw, aI g 18 ww)] := hD
  refine lv_aload_n hx hb dL_step_17 rfl (lv_at hl 1 rfl) ?_
  refine lv_iload hx hb dL_step_18 (lv_at hl 5 rfl) ?_
  refine zSI (As := [.ref yg, .int ixx]) (rest := [.int (ldS S (S 11))]) (wc := [(yg, aI g 19 S)]) (wr := [(yc, aI g 64 fc), (yw, aI g 18 ww)]) (wc' := [(yg, aI g 19 S)]) ⟨hx, hb, hml, hown, hts⟩ (l_pull l g yg S ixx k hok eix (by omega)) (va_cwS 2 hts gL_step_L_pull rfl rfl rfl (by decide +kernel) ⟨Nat.le_of_ble_eq_true rfl, Nat.le_of_ble_eq_true rfl⟩) hE hK hP hD hS hA [1] [0, 2] rfl rfl rfl rfl (by decide) rfl hl.1 rfl (lv_room (Nat.le_of_ble_eq_true rfl)) ⟨(Nat.le_of_ble_eq_true rfl), (Nat.le_of_ble_eq_true rfl)⟩ dL_step_20 (fun H locs hP hD hS => ?_)
  have hP : va_P g.1 vwCl [(yc, aI g 64 fc), (yw, aI g 18 ww), (yg, aI g 19 S)] H := hP
  have hD : va_D A [(yc, aI g 64 fc), (yw, aI g 18 ww), (yg, aI g 19 S)] := hD
  refine zTop (y := puS S k) (by rw [eix]; rfl) ?_
  have j47 : ∀ (H : Heap) (locs : List Loc), va_P g.1 vwCl [(yc, aI g 64 fc), (yw, aI g 18 ww), (yg, aI g 19 S)] H → va_D A [(yc, aI g 64 fc), (yw, aI g 18 ww), (yg, aI g 19 S)] → va_S A sx.heap H locs → ∀ (ls : Array Slot), lv_has ls 7 [(5, .int ((S 11) + by_)), (0, .ref yg), (1, .ref yw), (2, .ref yc), (3, .int by_), (4, .int ixx)] → W pg l ev (rk 1 24) sx mi args below meth cd H locs 0 0 (MQ below (zQi g (b01 (¬ (missP (ldS S (S 11)) (puS S k) (S 11 + by_)))) [(yg, aI g 19 (putT S (stp S by_ (fc k) (puS S k) (getT S)))), (yw, aI g 18 ww), (yc, aI g 64 fc)] A) args sx 0 0 A) (F0 mi 47 ls [.int (b01 (¬ (missP (ldS S (S 11)) (puS S k) (S 11 + by_))))]) := by
    intro H locs hP hD hS ls hl
    refine lv_istore (lv' := [(6, .int (b01 (¬ (missP (ldS S (S 11)) (puS S k) (S 11 + by_))))), (5, .int ((S 11) + by_)), (0, .ref yg), (1, .ref yw), (2, .ref yc), (3, .int by_), (4, .int ixx)]) hx hb dL_step_47 hl (by decide) rfl (fun ls hl => ?_)
    refine lv_aload_n hx hb dL_step_49 rfl (lv_at hl 2 rfl) ?_
    refine lv_bipush (v := 10) hx hb dL_step_50 (by decide +kernel) ?_
    refine lv_dup2_11 hx hb dL_step_52 rfl rfl ?_
    refine zald (k := 10) hx hb hK hP 2 0 rfl rfl (IX.lit (by decide +kernel)) dL_step_53 ?_
    refine lv_iload_n hx hb dL_step_54 rfl (lv_at hl 5 rfl) ?_
    refine lv_iadd hx hb dL_step_55 ?_
    refine zast (k := 10) hx hb hK hP hD hS 2 0 rfl rfl (IX.lit (by decide +kernel)) dL_step_56 (fun H locs hP hD hS => ?_)
    have hP : va_P g.1 vwCl [(yc, aI g 64 fc), (yw, aI g 18 ww), (yg, aI g 19 (upd S 10 ((S 10) + by_)))] H := hP
    have hD : va_D A [(yc, aI g 64 fc), (yw, aI g 18 ww), (yg, aI g 19 (upd S 10 ((S 10) + by_)))] := hD
    refine lv_aload_n hx hb dL_step_57 rfl (lv_at hl 2 rfl) ?_
    refine lv_bipush (v := 11) hx hb dL_step_58 (by decide +kernel) ?_
    refine lv_iload hx hb dL_step_60 (lv_at hl 0 rfl) ?_
    refine lv_if_eq (tgt := 70) hx hb dL_step_62 (by decide) (fun c62 => ?_) (fun c62 => ?_)
    · have c62 := b01_f c62
      refine lv_aload_n hx hb dL_step_70 rfl (lv_at hl 2 rfl) ?_
      refine lv_bipush (v := 11) hx hb dL_step_71 (by decide +kernel) ?_
      refine zald (k := 11) hx hb hK hP 2 0 rfl rfl (IX.lit (by decide +kernel)) dL_step_73 ?_
      refine zTop (y := S 11) rfl ?_
      refine zast (k := 11) hx hb hK hP hD hS 2 0 rfl rfl (IX.lit (by decide +kernel)) dL_step_74 (fun H locs hP hD hS => ?_)
      have hP : va_P g.1 vwCl [(yc, aI g 64 fc), (yw, aI g 18 ww), (yg, aI g 19 (upd (upd S 10 ((S 10) + by_)) 11 (S 11)))] H := hP
      have hD : va_D A [(yc, aI g 64 fc), (yw, aI g 18 ww), (yg, aI g 19 (upd (upd S 10 ((S 10) + by_)) 11 (S 11)))] := hD
      refine lv_aload_n hx hb dL_step_75 rfl (lv_at hl 2 rfl) ?_
      refine lv_bipush (v := 15) hx hb dL_step_76 (by decide +kernel) ?_
      refine lv_dup2_11 hx hb dL_step_78 rfl rfl ?_
      refine zald (k := 15) hx hb hK hP 2 0 rfl rfl (IX.lit (by decide +kernel)) dL_step_79 ?_
      refine zTop (y := S 15) rfl ?_
      refine lv_iconst (v := 1) hx hb dL_step_80 (by decide +kernel) ?_
      refine lv_iadd hx hb dL_step_81 ?_
      refine zast (k := 15) hx hb hK hP hD hS 2 0 rfl rfl (IX.lit (by decide +kernel)) dL_step_82 (fun H locs hP hD hS => ?_)
      have hP : va_P g.1 vwCl [(yc, aI g 64 fc), (yw, aI g 18 ww), (yg, aI g 19 (upd (upd (upd S 10 ((S 10) + by_)) 11 (S 11)) 15 ((S 15) + 1)))] H := hP
      have hD : va_D A [(yc, aI g 64 fc), (yw, aI g 18 ww), (yg, aI g 19 (upd (upd (upd S 10 ((S 10) + by_)) 11 (S 11)) 15 ((S 15) + 1)))] := hD
      refine lv_aload_n hx hb dL_step_83 rfl (lv_at hl 2 rfl) ?_
      refine lv_bipush (v := 16) hx hb dL_step_84 (by decide +kernel) ?_
      refine lv_dup2_11 hx hb dL_step_86 rfl rfl ?_
      refine zald (k := 16) hx hb hK hP 2 0 rfl rfl (IX.lit (by decide +kernel)) dL_step_87 ?_
      refine zTop (y := S 16) rfl ?_
      refine lv_iload hx hb dL_step_88 (lv_at hl 0 rfl) ?_
      refine lv_if_eq (tgt := 97) hx hb dL_step_90 (by decide) (fun c90 => ?_) (fun c90 => ?_)
      · have c90 := b01_f c90
        refine lv_iconst (v := 1) hx hb dL_step_97 (by decide +kernel) ?_
        refine lv_iadd hx hb dL_step_98 ?_
        refine zast (k := 16) hx hb hK hP hD hS 2 0 rfl rfl (IX.lit (by decide +kernel)) dL_step_99 (fun H locs hP hD hS => ?_)
        have hP : va_P g.1 vwCl [(yc, aI g 64 fc), (yw, aI g 18 ww), (yg, aI g 19 (upd (upd (upd (upd S 10 ((S 10) + by_)) 11 (S 11)) 15 ((S 15) + 1)) 16 ((S 16) + 1)))] H := hP
        have hD : va_D A [(yc, aI g 64 fc), (yw, aI g 18 ww), (yg, aI g 19 (upd (upd (upd (upd S 10 ((S 10) + by_)) 11 (S 11)) 15 ((S 15) + 1)) 16 ((S 16) + 1)))] := hD
        refine lv_aload_n hx hb dL_step_100 rfl (lv_at hl 2 rfl) ?_
        refine lv_bipush (v := 17) hx hb dL_step_101 (by decide +kernel) ?_
        refine lv_aload_n hx hb dL_step_103 rfl (lv_at hl 2 rfl) ?_
        refine lv_bipush (v := 17) hx hb dL_step_104 (by decide +kernel) ?_
        refine zald (k := 17) hx hb hK hP 2 0 rfl rfl (IX.lit (by decide +kernel)) dL_step_106 ?_
        refine zTop (y := S 17) rfl ?_
        refine lv_aload_n hx hb dL_step_107 rfl (lv_at hl 4 rfl) ?_
        refine lv_iload hx hb dL_step_108 (lv_at hl 6 rfl) ?_
        refine zald (k := k) hx hb hK hP 0 0 rfl rfl (IX.of eix hk (by decide)) dL_step_110 ?_
        refine lv_iadd hx hb dL_step_111 ?_
        refine lv_ldc hx hb hown (hts (.constant RL 19 (1000000)) (List.mem_of_getElem? (i := 1) rfl)) dL_step_112 ?_
        refine lv_irem hx hb dL_step_114 (by decide +kernel) ?_
        refine zast (k := 17) hx hb hK hP hD hS 2 0 rfl rfl (IX.lit (by decide +kernel)) dL_step_115 (fun H locs hP hD hS => ?_)
        have hP : va_P g.1 vwCl [(yc, aI g 64 fc), (yw, aI g 18 ww), (yg, aI g 19 (upd (upd (upd (upd (upd S 10 ((S 10) + by_)) 11 (S 11)) 15 ((S 15) + 1)) 16 ((S 16) + 1)) 17 (((S 17) + (fc k)) - ((S 17) + (fc k)) / 1000000 * 1000000)))] H := hP
        have hD : va_D A [(yc, aI g 64 fc), (yw, aI g 18 ww), (yg, aI g 19 (upd (upd (upd (upd (upd S 10 ((S 10) + by_)) 11 (S 11)) 15 ((S 15) + 1)) 16 ((S 16) + 1)) 17 (((S 17) + (fc k)) - ((S 17) + (fc k)) / 1000000 * 1000000)))] := hD
        refine lv_aload_n hx hb dL_step_116 rfl (lv_at hl 2 rfl) ?_
        refine lv_bipush (v := 14) hx hb dL_step_117 (by decide +kernel) ?_
        refine lv_aload_n hx hb dL_step_119 rfl (lv_at hl 2 rfl) ?_
        refine lv_bipush (v := 11) hx hb dL_step_120 (by decide +kernel) ?_
        refine zald (k := 11) hx hb hK hP 2 0 rfl rfl (IX.lit (by decide +kernel)) dL_step_122 ?_
        refine zTop (y := S 11) rfl ?_
        refine lv_aload_n hx hb dL_step_123 rfl (lv_at hl 2 rfl) ?_
        refine lv_iconst (v := 5) hx hb dL_step_124 (by decide +kernel) ?_
        refine zald (k := 5) hx hb hK hP 2 0 rfl rfl (IX.lit (by decide +kernel)) dL_step_125 ?_
        refine zTop (y := S 5) rfl ?_
        refine lv_icmp_gt (tgt := 133) hx hb dL_step_126 (by decide) (fun c126 => ?_) (fun c126 => ?_)
        · refine lv_aload_n hx hb dL_step_133 rfl (lv_at hl 2 rfl) ?_
          refine lv_bipush (v := 11) hx hb dL_step_134 (by decide +kernel) ?_
          refine zald (k := 11) hx hb hK hP 2 0 rfl rfl (IX.lit (by decide +kernel)) dL_step_136 ?_
          refine zTop (y := S 11) rfl ?_
          refine lv_aload_n hx hb dL_step_137 rfl (lv_at hl 2 rfl) ?_
          refine lv_iconst (v := 5) hx hb dL_step_138 (by decide +kernel) ?_
          refine zald (k := 5) hx hb hK hP 2 0 rfl rfl (IX.lit (by decide +kernel)) dL_step_139 ?_
          refine zTop (y := S 5) rfl ?_
          refine lv_aload_n hx hb dL_step_140 rfl (lv_at hl 2 rfl) ?_
          refine lv_bipush (v := 6) hx hb dL_step_141 (by decide +kernel) ?_
          refine zald (k := 6) hx hb hK hP 2 0 rfl rfl (IX.lit (by decide +kernel)) dL_step_143 ?_
          refine zTop (y := S 6) rfl ?_
          refine lv_iadd hx hb dL_step_144 ?_
          refine lv_icmp_le (tgt := 152) hx hb dL_step_145 (by decide) (fun c145 => ?_) (fun c145 => ?_)
          · refine lv_aload_n hx hb dL_step_152 rfl (lv_at hl 2 rfl) ?_
            refine lv_bipush (v := 14) hx hb dL_step_153 (by decide +kernel) ?_
            refine zald (k := 14) hx hb hK hP 2 0 rfl rfl (IX.lit (by decide +kernel)) dL_step_155 ?_
            refine zTop (y := S 14) rfl ?_
            refine zast (k := 14) hx hb hK hP hD hS 2 0 rfl rfl (IX.lit (by decide +kernel)) dL_step_156 (fun H locs hP hD hS => ?_)
            have hP : va_P g.1 vwCl [(yc, aI g 64 fc), (yw, aI g 18 ww), (yg, aI g 19 (upd (upd (upd (upd (upd (upd S 10 ((S 10) + by_)) 11 (S 11)) 15 ((S 15) + 1)) 16 ((S 16) + 1)) 17 (((S 17) + (fc k)) - ((S 17) + (fc k)) / 1000000 * 1000000)) 14 (S 14)))] H := hP
            have hD : va_D A [(yc, aI g 64 fc), (yw, aI g 18 ww), (yg, aI g 19 (upd (upd (upd (upd (upd (upd S 10 ((S 10) + by_)) 11 (S 11)) 15 ((S 15) + 1)) 16 ((S 16) + 1)) 17 (((S 17) + (fc k)) - ((S 17) + (fc k)) / 1000000 * 1000000)) 14 (S 14)))] := hD
            refine lv_iload hx hb dL_step_157 (lv_at hl 0 rfl) ?_
            exact zEia (v := b01 (¬ (missP (ldS S (S 11)) (puS S k) (S 11 + by_)))) (ws' := [(yg, aI g 19 (upd (upd (upd (upd (upd (upd S 10 ((S 10) + by_)) 11 (S 11)) 15 ((S 15) + 1)) 16 ((S 16) + 1)) 17 (((S 17) + (fc k)) - ((S 17) + (fc k)) / 1000000 * 1000000)) 14 (S 14))), (yw, aI g 18 ww), (yc, aI g 64 fc)]) hx hb hlocks hr b01_nar hK hP hD hS [2, 1, 0] rfl rfl rfl (by
              have hq : missP (ldS S (S 11)) (puS S k) (S 11 + by_) := (Classical.not_not.mp c62)
              have e0 : stp S by_ (fc k) (puS S k) (getT S) = (S 10 + by_, S 11, swc (S 11) (S 5) (S 6) (S 14), S 15 + 1, S 16 + 1, rem1 (S 17 + fc k)) := by
                show (S 10 + by_, (if missP (ldS S (S 11)) (puS S k) (S 11 + by_) then S 11 else S 11 + by_), swc (if missP (ldS S (S 11)) (puS S k) (S 11 + by_) then S 11 else S 11 + by_) (S 5) (S 6) (S 14), S 15 + 1, (if missP (ldS S (S 11)) (puS S k) (S 11 + by_) then S 16 + 1 else S 16), rem1 (S 17 + fc k)) = _
                rw [if_pos hq, if_pos hq]
              rw [e0]
              rw [show upd (upd (upd (upd (upd (upd S 10 ((S 10) + by_)) 11 (S 11)) 15 ((S 15) + 1)) 16 ((S 16) + 1)) 17 (((S 17) + (fc k)) - ((S 17) + (fc k)) / 1000000 * 1000000)) 14 (S 14) = putT S (S 10 + by_, S 11, swc (S 11) (S 5) (S 6) (S 14), S 15 + 1, S 16 + 1, rem1 (S 17 + fc k)) from putT_eq rfl rfl (show S 14 = _ from ((if_neg (znlt c126)).trans (if_neg (zgt c145))).symm) rfl rfl rfl (fun j e1 e2 e3 e4 e5 e6 => by simp only [upd, if_neg e1, if_neg e2, if_neg e3, if_neg e4, if_neg e5, if_neg e6])]) dL_step_159
          · refine lv_iconst (v := 0) hx hb dL_step_148 (by decide +kernel) ?_
            refine lv_goto (tgt := 156) hx hb dL_step_149 (by decide) ?_
            refine zast (k := 14) hx hb hK hP hD hS 2 0 rfl rfl (IX.lit (by decide +kernel)) dL_step_156 (fun H locs hP hD hS => ?_)
            have hP : va_P g.1 vwCl [(yc, aI g 64 fc), (yw, aI g 18 ww), (yg, aI g 19 (upd (upd (upd (upd (upd (upd S 10 ((S 10) + by_)) 11 (S 11)) 15 ((S 15) + 1)) 16 ((S 16) + 1)) 17 (((S 17) + (fc k)) - ((S 17) + (fc k)) / 1000000 * 1000000)) 14 0))] H := hP
            have hD : va_D A [(yc, aI g 64 fc), (yw, aI g 18 ww), (yg, aI g 19 (upd (upd (upd (upd (upd (upd S 10 ((S 10) + by_)) 11 (S 11)) 15 ((S 15) + 1)) 16 ((S 16) + 1)) 17 (((S 17) + (fc k)) - ((S 17) + (fc k)) / 1000000 * 1000000)) 14 0))] := hD
            refine lv_iload hx hb dL_step_157 (lv_at hl 0 rfl) ?_
            exact zEia (v := b01 (¬ (missP (ldS S (S 11)) (puS S k) (S 11 + by_)))) (ws' := [(yg, aI g 19 (upd (upd (upd (upd (upd (upd S 10 ((S 10) + by_)) 11 (S 11)) 15 ((S 15) + 1)) 16 ((S 16) + 1)) 17 (((S 17) + (fc k)) - ((S 17) + (fc k)) / 1000000 * 1000000)) 14 0)), (yw, aI g 18 ww), (yc, aI g 64 fc)]) hx hb hlocks hr b01_nar hK hP hD hS [2, 1, 0] rfl rfl rfl (by
              have hq : missP (ldS S (S 11)) (puS S k) (S 11 + by_) := (Classical.not_not.mp c62)
              have e0 : stp S by_ (fc k) (puS S k) (getT S) = (S 10 + by_, S 11, swc (S 11) (S 5) (S 6) (S 14), S 15 + 1, S 16 + 1, rem1 (S 17 + fc k)) := by
                show (S 10 + by_, (if missP (ldS S (S 11)) (puS S k) (S 11 + by_) then S 11 else S 11 + by_), swc (if missP (ldS S (S 11)) (puS S k) (S 11 + by_) then S 11 else S 11 + by_) (S 5) (S 6) (S 14), S 15 + 1, (if missP (ldS S (S 11)) (puS S k) (S 11 + by_) then S 16 + 1 else S 16), rem1 (S 17 + fc k)) = _
                rw [if_pos hq, if_pos hq]
              rw [e0]
              rw [show upd (upd (upd (upd (upd (upd S 10 ((S 10) + by_)) 11 (S 11)) 15 ((S 15) + 1)) 16 ((S 16) + 1)) 17 (((S 17) + (fc k)) - ((S 17) + (fc k)) / 1000000 * 1000000)) 14 0 = putT S (S 10 + by_, S 11, swc (S 11) (S 5) (S 6) (S 14), S 15 + 1, S 16 + 1, rem1 (S 17 + fc k)) from putT_eq rfl rfl (show (0 : Int32) = _ from ((if_neg (znlt c126)).trans (if_pos (znle c145))).symm) rfl rfl rfl (fun j e1 e2 e3 e4 e5 e6 => by simp only [upd, if_neg e1, if_neg e2, if_neg e3, if_neg e4, if_neg e5, if_neg e6])]) dL_step_159
        · refine lv_iconst (v := 1) hx hb dL_step_129 (by decide +kernel) ?_
          refine lv_goto (tgt := 156) hx hb dL_step_130 (by decide) ?_
          refine zast (k := 14) hx hb hK hP hD hS 2 0 rfl rfl (IX.lit (by decide +kernel)) dL_step_156 (fun H locs hP hD hS => ?_)
          have hP : va_P g.1 vwCl [(yc, aI g 64 fc), (yw, aI g 18 ww), (yg, aI g 19 (upd (upd (upd (upd (upd (upd S 10 ((S 10) + by_)) 11 (S 11)) 15 ((S 15) + 1)) 16 ((S 16) + 1)) 17 (((S 17) + (fc k)) - ((S 17) + (fc k)) / 1000000 * 1000000)) 14 1))] H := hP
          have hD : va_D A [(yc, aI g 64 fc), (yw, aI g 18 ww), (yg, aI g 19 (upd (upd (upd (upd (upd (upd S 10 ((S 10) + by_)) 11 (S 11)) 15 ((S 15) + 1)) 16 ((S 16) + 1)) 17 (((S 17) + (fc k)) - ((S 17) + (fc k)) / 1000000 * 1000000)) 14 1))] := hD
          refine lv_iload hx hb dL_step_157 (lv_at hl 0 rfl) ?_
          exact zEia (v := b01 (¬ (missP (ldS S (S 11)) (puS S k) (S 11 + by_)))) (ws' := [(yg, aI g 19 (upd (upd (upd (upd (upd (upd S 10 ((S 10) + by_)) 11 (S 11)) 15 ((S 15) + 1)) 16 ((S 16) + 1)) 17 (((S 17) + (fc k)) - ((S 17) + (fc k)) / 1000000 * 1000000)) 14 1)), (yw, aI g 18 ww), (yc, aI g 64 fc)]) hx hb hlocks hr b01_nar hK hP hD hS [2, 1, 0] rfl rfl rfl (by
            have hq : missP (ldS S (S 11)) (puS S k) (S 11 + by_) := (Classical.not_not.mp c62)
            have e0 : stp S by_ (fc k) (puS S k) (getT S) = (S 10 + by_, S 11, swc (S 11) (S 5) (S 6) (S 14), S 15 + 1, S 16 + 1, rem1 (S 17 + fc k)) := by
              show (S 10 + by_, (if missP (ldS S (S 11)) (puS S k) (S 11 + by_) then S 11 else S 11 + by_), swc (if missP (ldS S (S 11)) (puS S k) (S 11 + by_) then S 11 else S 11 + by_) (S 5) (S 6) (S 14), S 15 + 1, (if missP (ldS S (S 11)) (puS S k) (S 11 + by_) then S 16 + 1 else S 16), rem1 (S 17 + fc k)) = _
              rw [if_pos hq, if_pos hq]
            rw [e0]
            rw [show upd (upd (upd (upd (upd (upd S 10 ((S 10) + by_)) 11 (S 11)) 15 ((S 15) + 1)) 16 ((S 16) + 1)) 17 (((S 17) + (fc k)) - ((S 17) + (fc k)) / 1000000 * 1000000)) 14 1 = putT S (S 10 + by_, S 11, swc (S 11) (S 5) (S 6) (S 14), S 15 + 1, S 16 + 1, rem1 (S 17 + fc k)) from putT_eq rfl rfl (show (1 : Int32) = _ from (if_pos (zge c126)).symm) rfl rfl rfl (fun j e1 e2 e3 e4 e5 e6 => by simp only [upd, if_neg e1, if_neg e2, if_neg e3, if_neg e4, if_neg e5, if_neg e6])]) dL_step_159
      · exact absurd (b01_t c90) c62
    · have c62 := b01_t c62
      refine lv_iload hx hb dL_step_65 (lv_at hl 1 rfl) ?_
      refine lv_goto (tgt := 74) hx hb dL_step_67 (by decide) ?_
      refine zast (k := 11) hx hb hK hP hD hS 2 0 rfl rfl (IX.lit (by decide +kernel)) dL_step_74 (fun H locs hP hD hS => ?_)
      have hP : va_P g.1 vwCl [(yc, aI g 64 fc), (yw, aI g 18 ww), (yg, aI g 19 (upd (upd S 10 ((S 10) + by_)) 11 ((S 11) + by_)))] H := hP
      have hD : va_D A [(yc, aI g 64 fc), (yw, aI g 18 ww), (yg, aI g 19 (upd (upd S 10 ((S 10) + by_)) 11 ((S 11) + by_)))] := hD
      refine lv_aload_n hx hb dL_step_75 rfl (lv_at hl 2 rfl) ?_
      refine lv_bipush (v := 15) hx hb dL_step_76 (by decide +kernel) ?_
      refine lv_dup2_11 hx hb dL_step_78 rfl rfl ?_
      refine zald (k := 15) hx hb hK hP 2 0 rfl rfl (IX.lit (by decide +kernel)) dL_step_79 ?_
      refine zTop (y := S 15) rfl ?_
      refine lv_iconst (v := 1) hx hb dL_step_80 (by decide +kernel) ?_
      refine lv_iadd hx hb dL_step_81 ?_
      refine zast (k := 15) hx hb hK hP hD hS 2 0 rfl rfl (IX.lit (by decide +kernel)) dL_step_82 (fun H locs hP hD hS => ?_)
      have hP : va_P g.1 vwCl [(yc, aI g 64 fc), (yw, aI g 18 ww), (yg, aI g 19 (upd (upd (upd S 10 ((S 10) + by_)) 11 ((S 11) + by_)) 15 ((S 15) + 1)))] H := hP
      have hD : va_D A [(yc, aI g 64 fc), (yw, aI g 18 ww), (yg, aI g 19 (upd (upd (upd S 10 ((S 10) + by_)) 11 ((S 11) + by_)) 15 ((S 15) + 1)))] := hD
      refine lv_aload_n hx hb dL_step_83 rfl (lv_at hl 2 rfl) ?_
      refine lv_bipush (v := 16) hx hb dL_step_84 (by decide +kernel) ?_
      refine lv_dup2_11 hx hb dL_step_86 rfl rfl ?_
      refine zald (k := 16) hx hb hK hP 2 0 rfl rfl (IX.lit (by decide +kernel)) dL_step_87 ?_
      refine zTop (y := S 16) rfl ?_
      refine lv_iload hx hb dL_step_88 (lv_at hl 0 rfl) ?_
      refine lv_if_eq (tgt := 97) hx hb dL_step_90 (by decide) (fun c90 => ?_) (fun c90 => ?_)
      · exact absurd c62 (b01_f c90)
      · have c90 := b01_t c90
        refine lv_iconst (v := 0) hx hb dL_step_93 (by decide +kernel) ?_
        refine lv_goto (tgt := 98) hx hb dL_step_94 (by decide) ?_
        refine lv_iadd hx hb dL_step_98 ?_
        refine zast (k := 16) hx hb hK hP hD hS 2 0 rfl rfl (IX.lit (by decide +kernel)) dL_step_99 (fun H locs hP hD hS => ?_)
        have hP : va_P g.1 vwCl [(yc, aI g 64 fc), (yw, aI g 18 ww), (yg, aI g 19 (upd (upd (upd (upd S 10 ((S 10) + by_)) 11 ((S 11) + by_)) 15 ((S 15) + 1)) 16 ((S 16) + 0)))] H := hP
        have hD : va_D A [(yc, aI g 64 fc), (yw, aI g 18 ww), (yg, aI g 19 (upd (upd (upd (upd S 10 ((S 10) + by_)) 11 ((S 11) + by_)) 15 ((S 15) + 1)) 16 ((S 16) + 0)))] := hD
        refine lv_aload_n hx hb dL_step_100 rfl (lv_at hl 2 rfl) ?_
        refine lv_bipush (v := 17) hx hb dL_step_101 (by decide +kernel) ?_
        refine lv_aload_n hx hb dL_step_103 rfl (lv_at hl 2 rfl) ?_
        refine lv_bipush (v := 17) hx hb dL_step_104 (by decide +kernel) ?_
        refine zald (k := 17) hx hb hK hP 2 0 rfl rfl (IX.lit (by decide +kernel)) dL_step_106 ?_
        refine zTop (y := S 17) rfl ?_
        refine lv_aload_n hx hb dL_step_107 rfl (lv_at hl 4 rfl) ?_
        refine lv_iload hx hb dL_step_108 (lv_at hl 6 rfl) ?_
        refine zald (k := k) hx hb hK hP 0 0 rfl rfl (IX.of eix hk (by decide)) dL_step_110 ?_
        refine lv_iadd hx hb dL_step_111 ?_
        refine lv_ldc hx hb hown (hts (.constant RL 19 (1000000)) (List.mem_of_getElem? (i := 1) rfl)) dL_step_112 ?_
        refine lv_irem hx hb dL_step_114 (by decide +kernel) ?_
        refine zast (k := 17) hx hb hK hP hD hS 2 0 rfl rfl (IX.lit (by decide +kernel)) dL_step_115 (fun H locs hP hD hS => ?_)
        have hP : va_P g.1 vwCl [(yc, aI g 64 fc), (yw, aI g 18 ww), (yg, aI g 19 (upd (upd (upd (upd (upd S 10 ((S 10) + by_)) 11 ((S 11) + by_)) 15 ((S 15) + 1)) 16 ((S 16) + 0)) 17 (((S 17) + (fc k)) - ((S 17) + (fc k)) / 1000000 * 1000000)))] H := hP
        have hD : va_D A [(yc, aI g 64 fc), (yw, aI g 18 ww), (yg, aI g 19 (upd (upd (upd (upd (upd S 10 ((S 10) + by_)) 11 ((S 11) + by_)) 15 ((S 15) + 1)) 16 ((S 16) + 0)) 17 (((S 17) + (fc k)) - ((S 17) + (fc k)) / 1000000 * 1000000)))] := hD
        refine lv_aload_n hx hb dL_step_116 rfl (lv_at hl 2 rfl) ?_
        refine lv_bipush (v := 14) hx hb dL_step_117 (by decide +kernel) ?_
        refine lv_aload_n hx hb dL_step_119 rfl (lv_at hl 2 rfl) ?_
        refine lv_bipush (v := 11) hx hb dL_step_120 (by decide +kernel) ?_
        refine zald (k := 11) hx hb hK hP 2 0 rfl rfl (IX.lit (by decide +kernel)) dL_step_122 ?_
        refine zTop (y := (S 11) + by_) rfl ?_
        refine lv_aload_n hx hb dL_step_123 rfl (lv_at hl 2 rfl) ?_
        refine lv_iconst (v := 5) hx hb dL_step_124 (by decide +kernel) ?_
        refine zald (k := 5) hx hb hK hP 2 0 rfl rfl (IX.lit (by decide +kernel)) dL_step_125 ?_
        refine zTop (y := S 5) rfl ?_
        refine lv_icmp_gt (tgt := 133) hx hb dL_step_126 (by decide) (fun c126 => ?_) (fun c126 => ?_)
        · refine lv_aload_n hx hb dL_step_133 rfl (lv_at hl 2 rfl) ?_
          refine lv_bipush (v := 11) hx hb dL_step_134 (by decide +kernel) ?_
          refine zald (k := 11) hx hb hK hP 2 0 rfl rfl (IX.lit (by decide +kernel)) dL_step_136 ?_
          refine zTop (y := (S 11) + by_) rfl ?_
          refine lv_aload_n hx hb dL_step_137 rfl (lv_at hl 2 rfl) ?_
          refine lv_iconst (v := 5) hx hb dL_step_138 (by decide +kernel) ?_
          refine zald (k := 5) hx hb hK hP 2 0 rfl rfl (IX.lit (by decide +kernel)) dL_step_139 ?_
          refine zTop (y := S 5) rfl ?_
          refine lv_aload_n hx hb dL_step_140 rfl (lv_at hl 2 rfl) ?_
          refine lv_bipush (v := 6) hx hb dL_step_141 (by decide +kernel) ?_
          refine zald (k := 6) hx hb hK hP 2 0 rfl rfl (IX.lit (by decide +kernel)) dL_step_143 ?_
          refine zTop (y := S 6) rfl ?_
          refine lv_iadd hx hb dL_step_144 ?_
          refine lv_icmp_le (tgt := 152) hx hb dL_step_145 (by decide) (fun c145 => ?_) (fun c145 => ?_)
          · refine lv_aload_n hx hb dL_step_152 rfl (lv_at hl 2 rfl) ?_
            refine lv_bipush (v := 14) hx hb dL_step_153 (by decide +kernel) ?_
            refine zald (k := 14) hx hb hK hP 2 0 rfl rfl (IX.lit (by decide +kernel)) dL_step_155 ?_
            refine zTop (y := S 14) rfl ?_
            refine zast (k := 14) hx hb hK hP hD hS 2 0 rfl rfl (IX.lit (by decide +kernel)) dL_step_156 (fun H locs hP hD hS => ?_)
            have hP : va_P g.1 vwCl [(yc, aI g 64 fc), (yw, aI g 18 ww), (yg, aI g 19 (upd (upd (upd (upd (upd (upd S 10 ((S 10) + by_)) 11 ((S 11) + by_)) 15 ((S 15) + 1)) 16 ((S 16) + 0)) 17 (((S 17) + (fc k)) - ((S 17) + (fc k)) / 1000000 * 1000000)) 14 (S 14)))] H := hP
            have hD : va_D A [(yc, aI g 64 fc), (yw, aI g 18 ww), (yg, aI g 19 (upd (upd (upd (upd (upd (upd S 10 ((S 10) + by_)) 11 ((S 11) + by_)) 15 ((S 15) + 1)) 16 ((S 16) + 0)) 17 (((S 17) + (fc k)) - ((S 17) + (fc k)) / 1000000 * 1000000)) 14 (S 14)))] := hD
            refine lv_iload hx hb dL_step_157 (lv_at hl 0 rfl) ?_
            exact zEia (v := b01 (¬ (missP (ldS S (S 11)) (puS S k) (S 11 + by_)))) (ws' := [(yg, aI g 19 (upd (upd (upd (upd (upd (upd S 10 ((S 10) + by_)) 11 ((S 11) + by_)) 15 ((S 15) + 1)) 16 ((S 16) + 0)) 17 (((S 17) + (fc k)) - ((S 17) + (fc k)) / 1000000 * 1000000)) 14 (S 14))), (yw, aI g 18 ww), (yc, aI g 64 fc)]) hx hb hlocks hr b01_nar hK hP hD hS [2, 1, 0] rfl rfl rfl (by
              have hq : ¬ (missP (ldS S (S 11)) (puS S k) (S 11 + by_)) := c62
              have e0 : stp S by_ (fc k) (puS S k) (getT S) = (S 10 + by_, S 11 + by_, swc (S 11 + by_) (S 5) (S 6) (S 14), S 15 + 1, S 16, rem1 (S 17 + fc k)) := by
                show (S 10 + by_, (if missP (ldS S (S 11)) (puS S k) (S 11 + by_) then S 11 else S 11 + by_), swc (if missP (ldS S (S 11)) (puS S k) (S 11 + by_) then S 11 else S 11 + by_) (S 5) (S 6) (S 14), S 15 + 1, (if missP (ldS S (S 11)) (puS S k) (S 11 + by_) then S 16 + 1 else S 16), rem1 (S 17 + fc k)) = _
                rw [if_neg hq, if_neg hq]
              rw [e0]
              rw [show upd (upd (upd (upd (upd (upd S 10 ((S 10) + by_)) 11 ((S 11) + by_)) 15 ((S 15) + 1)) 16 ((S 16) + 0)) 17 (((S 17) + (fc k)) - ((S 17) + (fc k)) / 1000000 * 1000000)) 14 (S 14) = putT S (S 10 + by_, S 11 + by_, swc (S 11 + by_) (S 5) (S 6) (S 14), S 15 + 1, S 16, rem1 (S 17 + fc k)) from putT_eq rfl rfl (show S 14 = _ from ((if_neg (znlt c126)).trans (if_neg (zgt c145))).symm) rfl (Int32.add_zero _) rfl (fun j e1 e2 e3 e4 e5 e6 => by simp only [upd, if_neg e1, if_neg e2, if_neg e3, if_neg e4, if_neg e5, if_neg e6])]) dL_step_159
          · refine lv_iconst (v := 0) hx hb dL_step_148 (by decide +kernel) ?_
            refine lv_goto (tgt := 156) hx hb dL_step_149 (by decide) ?_
            refine zast (k := 14) hx hb hK hP hD hS 2 0 rfl rfl (IX.lit (by decide +kernel)) dL_step_156 (fun H locs hP hD hS => ?_)
            have hP : va_P g.1 vwCl [(yc, aI g 64 fc), (yw, aI g 18 ww), (yg, aI g 19 (upd (upd (upd (upd (upd (upd S 10 ((S 10) + by_)) 11 ((S 11) + by_)) 15 ((S 15) + 1)) 16 ((S 16) + 0)) 17 (((S 17) + (fc k)) - ((S 17) + (fc k)) / 1000000 * 1000000)) 14 0))] H := hP
            have hD : va_D A [(yc, aI g 64 fc), (yw, aI g 18 ww), (yg, aI g 19 (upd (upd (upd (upd (upd (upd S 10 ((S 10) + by_)) 11 ((S 11) + by_)) 15 ((S 15) + 1)) 16 ((S 16) + 0)) 17 (((S 17) + (fc k)) - ((S 17) + (fc k)) / 1000000 * 1000000)) 14 0))] := hD
            refine lv_iload hx hb dL_step_157 (lv_at hl 0 rfl) ?_
            exact zEia (v := b01 (¬ (missP (ldS S (S 11)) (puS S k) (S 11 + by_)))) (ws' := [(yg, aI g 19 (upd (upd (upd (upd (upd (upd S 10 ((S 10) + by_)) 11 ((S 11) + by_)) 15 ((S 15) + 1)) 16 ((S 16) + 0)) 17 (((S 17) + (fc k)) - ((S 17) + (fc k)) / 1000000 * 1000000)) 14 0)), (yw, aI g 18 ww), (yc, aI g 64 fc)]) hx hb hlocks hr b01_nar hK hP hD hS [2, 1, 0] rfl rfl rfl (by
              have hq : ¬ (missP (ldS S (S 11)) (puS S k) (S 11 + by_)) := c62
              have e0 : stp S by_ (fc k) (puS S k) (getT S) = (S 10 + by_, S 11 + by_, swc (S 11 + by_) (S 5) (S 6) (S 14), S 15 + 1, S 16, rem1 (S 17 + fc k)) := by
                show (S 10 + by_, (if missP (ldS S (S 11)) (puS S k) (S 11 + by_) then S 11 else S 11 + by_), swc (if missP (ldS S (S 11)) (puS S k) (S 11 + by_) then S 11 else S 11 + by_) (S 5) (S 6) (S 14), S 15 + 1, (if missP (ldS S (S 11)) (puS S k) (S 11 + by_) then S 16 + 1 else S 16), rem1 (S 17 + fc k)) = _
                rw [if_neg hq, if_neg hq]
              rw [e0]
              rw [show upd (upd (upd (upd (upd (upd S 10 ((S 10) + by_)) 11 ((S 11) + by_)) 15 ((S 15) + 1)) 16 ((S 16) + 0)) 17 (((S 17) + (fc k)) - ((S 17) + (fc k)) / 1000000 * 1000000)) 14 0 = putT S (S 10 + by_, S 11 + by_, swc (S 11 + by_) (S 5) (S 6) (S 14), S 15 + 1, S 16, rem1 (S 17 + fc k)) from putT_eq rfl rfl (show (0 : Int32) = _ from ((if_neg (znlt c126)).trans (if_pos (znle c145))).symm) rfl (Int32.add_zero _) rfl (fun j e1 e2 e3 e4 e5 e6 => by simp only [upd, if_neg e1, if_neg e2, if_neg e3, if_neg e4, if_neg e5, if_neg e6])]) dL_step_159
        · refine lv_iconst (v := 1) hx hb dL_step_129 (by decide +kernel) ?_
          refine lv_goto (tgt := 156) hx hb dL_step_130 (by decide) ?_
          refine zast (k := 14) hx hb hK hP hD hS 2 0 rfl rfl (IX.lit (by decide +kernel)) dL_step_156 (fun H locs hP hD hS => ?_)
          have hP : va_P g.1 vwCl [(yc, aI g 64 fc), (yw, aI g 18 ww), (yg, aI g 19 (upd (upd (upd (upd (upd (upd S 10 ((S 10) + by_)) 11 ((S 11) + by_)) 15 ((S 15) + 1)) 16 ((S 16) + 0)) 17 (((S 17) + (fc k)) - ((S 17) + (fc k)) / 1000000 * 1000000)) 14 1))] H := hP
          have hD : va_D A [(yc, aI g 64 fc), (yw, aI g 18 ww), (yg, aI g 19 (upd (upd (upd (upd (upd (upd S 10 ((S 10) + by_)) 11 ((S 11) + by_)) 15 ((S 15) + 1)) 16 ((S 16) + 0)) 17 (((S 17) + (fc k)) - ((S 17) + (fc k)) / 1000000 * 1000000)) 14 1))] := hD
          refine lv_iload hx hb dL_step_157 (lv_at hl 0 rfl) ?_
          exact zEia (v := b01 (¬ (missP (ldS S (S 11)) (puS S k) (S 11 + by_)))) (ws' := [(yg, aI g 19 (upd (upd (upd (upd (upd (upd S 10 ((S 10) + by_)) 11 ((S 11) + by_)) 15 ((S 15) + 1)) 16 ((S 16) + 0)) 17 (((S 17) + (fc k)) - ((S 17) + (fc k)) / 1000000 * 1000000)) 14 1)), (yw, aI g 18 ww), (yc, aI g 64 fc)]) hx hb hlocks hr b01_nar hK hP hD hS [2, 1, 0] rfl rfl rfl (by
            have hq : ¬ (missP (ldS S (S 11)) (puS S k) (S 11 + by_)) := c62
            have e0 : stp S by_ (fc k) (puS S k) (getT S) = (S 10 + by_, S 11 + by_, swc (S 11 + by_) (S 5) (S 6) (S 14), S 15 + 1, S 16, rem1 (S 17 + fc k)) := by
              show (S 10 + by_, (if missP (ldS S (S 11)) (puS S k) (S 11 + by_) then S 11 else S 11 + by_), swc (if missP (ldS S (S 11)) (puS S k) (S 11 + by_) then S 11 else S 11 + by_) (S 5) (S 6) (S 14), S 15 + 1, (if missP (ldS S (S 11)) (puS S k) (S 11 + by_) then S 16 + 1 else S 16), rem1 (S 17 + fc k)) = _
              rw [if_neg hq, if_neg hq]
            rw [e0]
            rw [show upd (upd (upd (upd (upd (upd S 10 ((S 10) + by_)) 11 ((S 11) + by_)) 15 ((S 15) + 1)) 16 ((S 16) + 0)) 17 (((S 17) + (fc k)) - ((S 17) + (fc k)) / 1000000 * 1000000)) 14 1 = putT S (S 10 + by_, S 11 + by_, swc (S 11 + by_) (S 5) (S 6) (S 14), S 15 + 1, S 16, rem1 (S 17 + fc k)) from putT_eq rfl rfl (show (1 : Int32) = _ from (if_pos (zge c126)).symm) rfl (Int32.add_zero _) rfl (fun j e1 e2 e3 e4 e5 e6 => by simp only [upd, if_neg e1, if_neg e2, if_neg e3, if_neg e4, if_neg e5, if_neg e6])]) dL_step_159
  refine lv_icmp_gt (tgt := 46) hx hb dL_step_23 (by decide) (fun c23 => ?_) (fun c23 => ?_)
  · refine lv_iconst (v := 0) hx hb dL_step_46 (by decide +kernel) ?_
    refine zTop (y := b01 (¬ (missP (ldS S (S 11)) (puS S k) (S 11 + by_)))) (b01_0 (c := ¬ (missP (ldS S (S 11)) (puS S k) (S 11 + by_))) (fun h => h (Or.inr c23))).symm ?_
    exact j47 _ _ (zP_sub hP [0, 1, 2] rfl) (hD.sub [0, 1, 2] rfl rfl) hS ls (lv_sub hl [0, 1, 2, 3, 4, 5] rfl)
  · refine lv_iload hx hb dL_step_26 (lv_at hl 0 rfl) ?_
    refine lv_sipush (v := (-3000)) hx hb dL_step_28 (by decide +kernel) ?_
    refine lv_icmp_lt (tgt := 46) hx hb dL_step_31 (by decide) (fun c31 => ?_) (fun c31 => ?_)
    · refine lv_iconst (v := 0) hx hb dL_step_46 (by decide +kernel) ?_
      refine zTop (y := b01 (¬ (missP (ldS S (S 11)) (puS S k) (S 11 + by_)))) (b01_0 (c := ¬ (missP (ldS S (S 11)) (puS S k) (S 11 + by_))) (fun h => h (Or.inl (Or.inl c31)))).symm ?_
      exact j47 _ _ (zP_sub hP [0, 1, 2] rfl) (hD.sub [0, 1, 2] rfl rfl) hS ls (lv_sub hl [0, 1, 2, 3, 4, 5] rfl)
    · refine lv_iload hx hb dL_step_34 (lv_at hl 0 rfl) ?_
      refine lv_sipush (v := 3000) hx hb dL_step_36 (by decide +kernel) ?_
      refine lv_icmp_gt (tgt := 46) hx hb dL_step_39 (by decide) (fun c39 => ?_) (fun c39 => ?_)
      · refine lv_iconst (v := 0) hx hb dL_step_46 (by decide +kernel) ?_
        refine zTop (y := b01 (¬ (missP (ldS S (S 11)) (puS S k) (S 11 + by_)))) (b01_0 (c := ¬ (missP (ldS S (S 11)) (puS S k) (S 11 + by_))) (fun h => h (Or.inl (Or.inr c39)))).symm ?_
        exact j47 _ _ (zP_sub hP [0, 1, 2] rfl) (hD.sub [0, 1, 2] rfl rfl) hS ls (lv_sub hl [0, 1, 2, 3, 4, 5] rfl)
      · refine lv_iconst (v := 1) hx hb dL_step_42 (by decide +kernel) ?_
        refine lv_goto (tgt := 47) hx hb dL_step_43 (by decide) ?_
        refine zTop (y := b01 (¬ (missP (ldS S (S 11)) (puS S k) (S 11 + by_)))) (b01_1 (c := ¬ (missP (ldS S (S 11)) (puS S k) (S 11 + by_))) (fun h => h.elim (fun z => z.elim c31 c39) c23)).symm ?_
        exact j47 _ _ (zP_sub hP [0, 1, 2] rfl) (hD.sub [0, 1, 2] rfl rfl) hS ls (lv_sub hl [0, 1, 2, 3, 4, 5] rfl)

set_option maxHeartbeats 4000000 in
set_option maxRecDepth 100000 in
theorem l_copy (l : Launch) (g : G3) (yf yt : Nat) (f t : Nat → Int32) : MV l yL_copy wsL_copy (rk 0 0) g [.ref yf, .ref yt] [(yf, aI g 19 f), (yt, aI g 19 t)] [(yf, aI g 19 f), (yt, aI g 19 (fillT f t 19))] := by
  refine zWalkA.met (Qc := fun A => zQv g [(yf, aI g 19 f), (yt, aI g 19 (fillT f t 19))] A) (cc := cL_copy) (maxL := 3) (ret := none) (mc := 0) (ms := 0) ?_ (by decide) rfl (Nat.le_of_ble_eq_true rfl)
  intro pg ev sx mi args below meth cd A H locs ls hx hb hr hml hown hts hlocks hA hE hK hP hD hS hl
  have hl : lv_has ls 3 [(0, .ref yf), (1, .ref yt)] := hl
  refine lv_iconst (v := 0) hx hb dL_copy_0 (by decide +kernel) ?_
  refine lv_istore_n (lv' := [(2, .int 0), (0, .ref yf), (1, .ref yt)]) hx hb dL_copy_1 rfl hl (by decide) rfl (fun ls hl => ?_)
  rw [show (t) = fillT f t 0 from (fillT_0 f t).symm] at hP hD
  have lp2 : ∀ (fu : Nat) (k : Nat) (ii : Int32), (k ≤ 19) → (ii = nI k) → (19 - k) < fu → ∀ (H : Heap) (locs : List Loc), va_P g.1 vwCl [(yf, aI g 19 f), (yt, aI g 19 (fillT f t k))] H → va_D A [(yf, aI g 19 f), (yt, aI g 19 (fillT f t k))] → va_S A sx.heap H locs → ∀ (ls : Array Slot), lv_has ls 3 [(2, .int ii), (0, .ref yf), (1, .ref yt)] → W pg l ev (rk 0 0) sx mi args below meth cd H locs 0 0 (MQ below (zQv g [(yf, aI g 19 f), (yt, aI g 19 (fillT f t 19))] A) args sx 0 0 A) (F0 mi 2 ls []) := by
    intro fu
    induction fu with
    | zero =>
      intro k ii hk ei hmu
      exact absurd hmu (Nat.not_lt_zero _)
    | succ fu ih =>
      intro k ii hk ei hmu H locs hP hD hS ls hl
      refine lv_iload_n hx hb dL_copy_2 rfl (lv_at hl 0 rfl) ?_
      refine lv_aload_n hx hb dL_copy_3 rfl (lv_at hl 2 rfl) ?_
      refine va_alen (v := 19) hx hb hK hP 1 0 rfl (ty := .int) rfl rfl dL_copy_4 ?_
      refine lv_icmp_ge (tgt := 20) hx hb dL_copy_5 (by decide) (fun c5 => ?_) (fun c5 => ?_)
      · have hkn : k = 19 := Nat.le_antisymm hk (nle_of (by decide) (by omega) (by rw [ei] at c5; exact c5))
        rw [hkn] at hP hD
        exact zEva (ws' := [(yf, aI g 19 f), (yt, aI g 19 (fillT f t 19))]) hx hb hlocks hr hK hP hD hS [0, 1] rfl rfl rfl dL_copy_20
      · have hlt : k < 19 := nlt_of (by decide) (by rw [ei] at c5; exact c5)
        refine lv_aload_n hx hb dL_copy_8 rfl (lv_at hl 2 rfl) ?_
        refine lv_iload_n hx hb dL_copy_9 rfl (lv_at hl 0 rfl) ?_
        refine lv_aload_n hx hb dL_copy_10 rfl (lv_at hl 1 rfl) ?_
        refine lv_iload_n hx hb dL_copy_11 rfl (lv_at hl 0 rfl) ?_
        refine zald (k := k) hx hb hK hP 0 0 rfl rfl (IX.of ei (by omega) (by decide)) dL_copy_12 ?_
        refine zast (k := k) hx hb hK hP hD hS 1 0 rfl rfl (IX.of ei (by omega) (by decide)) dL_copy_13 (fun H locs hP hD hS => ?_)
        have hP : va_P g.1 vwCl [(yf, aI g 19 f), (yt, aI g 19 (upd (fillT f t k) k (f k)))] H := hP
        have hD : va_D A [(yf, aI g 19 f), (yt, aI g 19 (upd (fillT f t k) k (f k)))] := hD
        rw [show (upd (fillT f t k) k (f k)) = fillT f t (k + 1) from fillT_upd rfl] at hP hD
        refine lv_iinc (v := ii + 1) (lv' := [(2, .int (ii + 1)), (0, .ref yf), (1, .ref yt)]) hx hb dL_copy_14 hl (k := 0) rfl (by rfl) (by decide) rfl (fun ls hl => ?_)
        refine lv_goto (tgt := 2) hx hb dL_copy_17 (by decide) ?_
        exact ih (k + 1) (ii + 1) hlt (by rw [ei]; exact nI_1 k) (by omega) _ _ (zP_sub hP [0, 1] rfl) (hD.sub [0, 1] rfl rfl) hS ls (lv_sub hl [0, 1, 2] rfl)
  exact lp2 ((19 - 0) + 1) 0 0 (by decide) rfl (Nat.lt_succ_self _) _ _ (zP_sub hP [0, 1] rfl) (hD.sub [0, 1] rfl rfl) hS ls (lv_sub hl [0, 1, 2] rfl)

set_option maxHeartbeats 4000000 in
set_option maxRecDepth 100000 in
theorem l_can (l : Launch) (g : G3) (yg : Nat) (S : Nat → Int32) (pl : Int32) : MI l yL_can wsL_can (rk 0 0) g [.ref yg, .int pl] [(yg, aI g 19 S)] (b01 (rfR S pl = 0)) [(yg, aI g 19 S)] := by
  refine zWalkA.met (Qc := fun A => zQi g (b01 (rfR S pl = 0)) [(yg, aI g 19 S)] A) (cc := cL_can) (maxL := 2) (ret := (some .boolean)) (mc := 0) (ms := 0) ?_ (by decide) rfl (Nat.le_of_ble_eq_true rfl)
  intro pg ev sx mi args below meth cd A H locs ls hx hb hr hml hown hts hlocks hA hE hK hP hD hS hl
  have hl : lv_has ls 2 [(0, .ref yg), (1, .int pl)] := hl
  refine lv_iload_n hx hb dL_can_0 rfl (lv_at hl 1 rfl) ?_
  refine lv_sipush (v := (-4000)) hx hb dL_can_1 (by decide +kernel) ?_
  refine lv_icmp_lt (tgt := 41) hx hb dL_can_4 (by decide) (fun c4 => ?_) (fun c4 => ?_)
  · refine lv_iconst (v := 0) hx hb dL_can_41 (by decide +kernel) ?_
    exact zEia (v := 0) (ws' := [(yg, aI g 19 S)]) hx hb hlocks hr rfl hK hP hD hS [0] rfl rfl (b01_0 (rf_n1 (fun h => znlt c4 h.1))).symm rfl dL_can_42
  · refine lv_iload_n hx hb dL_can_7 rfl (lv_at hl 1 rfl) ?_
    refine lv_sipush (v := 4000) hx hb dL_can_8 (by decide +kernel) ?_
    refine lv_icmp_gt (tgt := 41) hx hb dL_can_11 (by decide) (fun c11 => ?_) (fun c11 => ?_)
    · refine lv_iconst (v := 0) hx hb dL_can_41 (by decide +kernel) ?_
      exact zEia (v := 0) (ws' := [(yg, aI g 19 S)]) hx hb hlocks hr rfl hK hP hD hS [0] rfl rfl (b01_0 (rf_n1 (fun h => znlt c11 h.2))).symm rfl dL_can_42
    · refine lv_aload_n hx hb dL_can_14 rfl (lv_at hl 0 rfl) ?_
      refine lv_bipush (v := 13) hx hb dL_can_15 (by decide +kernel) ?_
      refine zald (k := 13) hx hb hK hP 0 0 rfl rfl (IX.lit (by decide +kernel)) dL_can_17 ?_
      refine lv_if_eq (tgt := 37) hx hb dL_can_18 (by decide) (fun c18 => ?_) (fun c18 => ?_)
      · refine lv_iconst (v := 1) hx hb dL_can_37 (by decide +kernel) ?_
        refine lv_goto (tgt := 42) hx hb dL_can_38 (by decide) ?_
        exact zEia (v := 1) (ws' := [(yg, aI g 19 S)]) hx hb hlocks hr rfl hK hP hD hS [0] rfl rfl (b01_1 (rf_y1 (show okQ pl from ⟨zge c4, zge c11⟩) c18)).symm rfl dL_can_42
      · refine lv_iload_n hx hb dL_can_21 rfl (lv_at hl 1 rfl) ?_
        refine lv_aload_n hx hb dL_can_22 rfl (lv_at hl 0 rfl) ?_
        refine lv_bipush (v := 8) hx hb dL_can_23 (by decide +kernel) ?_
        refine zald (k := 8) hx hb hK hP 0 0 rfl rfl (IX.lit (by decide +kernel)) dL_can_25 ?_
        refine lv_icmp_lt (tgt := 41) hx hb dL_can_26 (by decide) (fun c26 => ?_) (fun c26 => ?_)
        · refine lv_iconst (v := 0) hx hb dL_can_41 (by decide +kernel) ?_
          exact zEia (v := 0) (ws' := [(yg, aI g 19 S)]) hx hb hlocks hr rfl hK hP hD hS [0] rfl rfl (b01_0 (rf_n2 (show okQ pl from ⟨zge c4, zge c11⟩) c18 (fun h => znlt c26 h.1))).symm rfl dL_can_42
        · refine lv_iload_n hx hb dL_can_29 rfl (lv_at hl 1 rfl) ?_
          refine lv_aload_n hx hb dL_can_30 rfl (lv_at hl 0 rfl) ?_
          refine lv_bipush (v := 9) hx hb dL_can_31 (by decide +kernel) ?_
          refine zald (k := 9) hx hb hK hP 0 0 rfl rfl (IX.lit (by decide +kernel)) dL_can_33 ?_
          refine lv_icmp_gt (tgt := 41) hx hb dL_can_34 (by decide) (fun c34 => ?_) (fun c34 => ?_)
          · refine lv_iconst (v := 0) hx hb dL_can_41 (by decide +kernel) ?_
            exact zEia (v := 0) (ws' := [(yg, aI g 19 S)]) hx hb hlocks hr rfl hK hP hD hS [0] rfl rfl (b01_0 (rf_n2 (show okQ pl from ⟨zge c4, zge c11⟩) c18 (fun h => znlt c34 h.2))).symm rfl dL_can_42
          · refine lv_iconst (v := 1) hx hb dL_can_37 (by decide +kernel) ?_
            refine lv_goto (tgt := 42) hx hb dL_can_38 (by decide) ?_
            exact zEia (v := 1) (ws' := [(yg, aI g 19 S)]) hx hb hlocks hr rfl hK hP hD hS [0] rfl rfl (b01_1 (rf_y2 (show okQ pl from ⟨zge c4, zge c11⟩) ⟨zge c26, zge c34⟩)).symm rfl dL_can_42

set_option maxHeartbeats 4000000 in
set_option maxRecDepth 100000 in
theorem l_value (l : Launch) (g : G3) (w y : Int32) : MI l yL_value wsL_value (rk 0 0) g [.int w, .int y] [] (vaT w y) [] := by
  refine zWalkA.met (Qc := fun A => zQi g (vaT w y) [] A) (cc := cL_value) (maxL := 2) (ret := (some .int)) (mc := 0) (ms := 0) ?_ (by decide) rfl (Nat.le_of_ble_eq_true rfl)
  intro pg ev sx mi args below meth cd A H locs ls hx hb hr hml hown hts hlocks hA hE hK hP hD hS hl
  have hl : lv_has ls 2 [(0, .int w), (1, .int y)] := hl
  refine lv_iload_n hx hb dL_value_0 rfl (lv_at hl 0 rfl) ?_
  by_cases sw0 : w = 0
  · refine lv_tableIn (off := 43) (tgt := 44) hx hb dL_value_1 (by rw [sw0]; decide +kernel) (by rw [sw0]; decide +kernel) (by rw [sw0]; rfl) (by decide) ?_
    refine lv_bipush (v := 100) hx hb dL_value_44 (by decide +kernel) ?_
    refine lv_iload_n hx hb dL_value_46 rfl (lv_at hl 1 rfl) ?_
    refine lv_iload_n hx hb dL_value_47 rfl (lv_at hl 1 rfl) ?_
    refine lv_iconst (v := 3) hx hb dL_value_48 (by decide +kernel) ?_
    refine lv_irem hx hb dL_value_49 (by decide +kernel) ?_
    refine lv_if_ne (tgt := 59) hx hb dL_value_50 (by decide) (fun c50 => ?_) (fun c50 => ?_)
    · refine lv_sipush (v := 1200) hx hb dL_value_59 (by decide +kernel) ?_
      refine lv_irem hx hb dL_value_62 (by decide +kernel) ?_
      refine lv_iadd hx hb dL_value_63 ?_
      exact zEia (v := 100 + (y - y / 1200 * 1200)) (ws' := []) hx hb hlocks hr rfl hK hP hD hS [] rfl rfl (by unfold vaT; rw [if_pos sw0, if_neg c50]) rfl dL_value_64
    · refine lv_sipush (v := 4901) hx hb dL_value_53 (by decide +kernel) ?_
      refine lv_goto (tgt := 62) hx hb dL_value_56 (by decide) ?_
      refine lv_irem hx hb dL_value_62 (by decide +kernel) ?_
      refine lv_iadd hx hb dL_value_63 ?_
      exact zEia (v := 100 + (y - y / 4901 * 4901)) (ws' := []) hx hb hlocks hr rfl hK hP hD hS [] rfl rfl (by unfold vaT; rw [if_pos sw0, if_pos c50]) rfl dL_value_64
  by_cases sw1 : w = 1
  · refine lv_tableIn (off := 64) (tgt := 65) hx hb dL_value_1 (by rw [sw1]; decide +kernel) (by rw [sw1]; decide +kernel) (by rw [sw1]; rfl) (by decide) ?_
    refine lv_bipush (v := 20) hx hb dL_value_65 (by decide +kernel) ?_
    refine lv_iload_n hx hb dL_value_67 rfl (lv_at hl 1 rfl) ?_
    refine lv_iload_n hx hb dL_value_68 rfl (lv_at hl 1 rfl) ?_
    refine lv_iconst (v := 4) hx hb dL_value_69 (by decide +kernel) ?_
    refine lv_irem hx hb dL_value_70 (by decide +kernel) ?_
    refine lv_if_ne (tgt := 80) hx hb dL_value_71 (by decide) (fun c71 => ?_) (fun c71 => ?_)
    · refine lv_sipush (v := 300) hx hb dL_value_80 (by decide +kernel) ?_
      refine lv_irem hx hb dL_value_83 (by decide +kernel) ?_
      refine lv_iadd hx hb dL_value_84 ?_
      exact zEia (v := 20 + (y - y / 300 * 300)) (ws' := []) hx hb hlocks hr rfl hK hP hD hS [] rfl rfl (by unfold vaT; rw [if_neg sw0, if_pos sw1, if_neg c71]) rfl dL_value_85
    · refine lv_sipush (v := 981) hx hb dL_value_74 (by decide +kernel) ?_
      refine lv_goto (tgt := 83) hx hb dL_value_77 (by decide) ?_
      refine lv_irem hx hb dL_value_83 (by decide +kernel) ?_
      refine lv_iadd hx hb dL_value_84 ?_
      exact zEia (v := 20 + (y - y / 981 * 981)) (ws' := []) hx hb hlocks hr rfl hK hP hD hS [] rfl rfl (by unfold vaT; rw [if_neg sw0, if_pos sw1, if_pos c71]) rfl dL_value_85
  by_cases sw2 : w = 2
  · refine lv_tableIn (off := 85) (tgt := 86) hx hb dL_value_1 (by rw [sw2]; decide +kernel) (by rw [sw2]; decide +kernel) (by rw [sw2]; rfl) (by decide) ?_
    refine lv_iload_n hx hb dL_value_86 rfl (lv_at hl 1 rfl) ?_
    refine lv_bipush (v := 61) hx hb dL_value_87 (by decide +kernel) ?_
    refine lv_irem hx hb dL_value_89 (by decide +kernel) ?_
    exact zEia (v := y - y / 61 * 61) (ws' := []) hx hb hlocks hr rfl hK hP hD hS [] rfl rfl (by unfold vaT; rw [if_neg sw0, if_neg sw1, if_pos sw2]) rfl dL_value_90
  by_cases sw3 : w = 3
  · refine lv_tableIn (off := 90) (tgt := 91) hx hb dL_value_1 (by rw [sw3]; decide +kernel) (by rw [sw3]; decide +kernel) (by rw [sw3]; rfl) (by decide) ?_
    refine lv_iconst (v := 1) hx hb dL_value_91 (by decide +kernel) ?_
    refine lv_iload_n hx hb dL_value_92 rfl (lv_at hl 1 rfl) ?_
    refine lv_sipush (v := 300) hx hb dL_value_93 (by decide +kernel) ?_
    refine lv_irem hx hb dL_value_96 (by decide +kernel) ?_
    refine lv_iadd hx hb dL_value_97 ?_
    exact zEia (v := 1 + (y - y / 300 * 300)) (ws' := []) hx hb hlocks hr rfl hK hP hD hS [] rfl rfl (by unfold vaT; rw [if_neg sw0, if_neg sw1, if_neg sw2, if_pos sw3]) rfl dL_value_98
  by_cases sw4 : w = 4
  · refine lv_tableIn (off := 98) (tgt := 99) hx hb dL_value_1 (by rw [sw4]; decide +kernel) (by rw [sw4]; decide +kernel) (by rw [sw4]; rfl) (by decide) ?_
    refine lv_iload_n hx hb dL_value_99 rfl (lv_at hl 1 rfl) ?_
    refine lv_iload_n hx hb dL_value_100 rfl (lv_at hl 1 rfl) ?_
    refine lv_iconst (v := 3) hx hb dL_value_101 (by decide +kernel) ?_
    refine lv_irem hx hb dL_value_102 (by decide +kernel) ?_
    refine lv_if_ne (tgt := 111) hx hb dL_value_103 (by decide) (fun c103 => ?_) (fun c103 => ?_)
    · refine lv_bipush (v := 30) hx hb dL_value_111 (by decide +kernel) ?_
      refine lv_irem hx hb dL_value_113 (by decide +kernel) ?_
      exact zEia (v := y - y / 30 * 30) (ws' := []) hx hb hlocks hr rfl hK hP hD hS [] rfl rfl (by unfold vaT; rw [if_neg sw0, if_neg sw1, if_neg sw2, if_neg sw3, if_pos sw4, if_neg c103]) rfl dL_value_114
    · refine lv_bipush (v := 101) hx hb dL_value_106 (by decide +kernel) ?_
      refine lv_goto (tgt := 113) hx hb dL_value_108 (by decide) ?_
      refine lv_irem hx hb dL_value_113 (by decide +kernel) ?_
      exact zEia (v := y - y / 101 * 101) (ws' := []) hx hb hlocks hr rfl hK hP hD hS [] rfl rfl (by unfold vaT; rw [if_neg sw0, if_neg sw1, if_neg sw2, if_neg sw3, if_pos sw4, if_pos c103]) rfl dL_value_114
  by_cases sw5 : w = 5
  · refine lv_tableIn (off := 114) (tgt := 115) hx hb dL_value_1 (by rw [sw5]; decide +kernel) (by rw [sw5]; decide +kernel) (by rw [sw5]; rfl) (by decide) ?_
    refine lv_iload_n hx hb dL_value_115 rfl (lv_at hl 1 rfl) ?_
    refine lv_iload_n hx hb dL_value_116 rfl (lv_at hl 1 rfl) ?_
    refine lv_iconst (v := 5) hx hb dL_value_117 (by decide +kernel) ?_
    refine lv_irem hx hb dL_value_118 (by decide +kernel) ?_
    refine lv_if_ne (tgt := 128) hx hb dL_value_119 (by decide) (fun c119 => ?_) (fun c119 => ?_)
    · refine lv_sipush (v := 600) hx hb dL_value_128 (by decide +kernel) ?_
      refine lv_irem hx hb dL_value_131 (by decide +kernel) ?_
      refine lv_iload_n hx hb dL_value_132 rfl (lv_at hl 1 rfl) ?_
      refine lv_iconst (v := 5) hx hb dL_value_133 (by decide +kernel) ?_
      refine lv_irem hx hb dL_value_134 (by decide +kernel) ?_
      refine lv_if_ne (tgt := 144) hx hb dL_value_135 (by decide) (fun c135 => ?_) (fun c135 => ?_)
      · refine lv_sipush (v := 300) hx hb dL_value_144 (by decide +kernel) ?_
        refine lv_isub hx hb dL_value_147 ?_
        exact zEia (v := (y - y / 600 * 600) - 300) (ws' := []) hx hb hlocks hr rfl hK hP hD hS [] rfl rfl (by unfold vaT; rw [if_neg sw0, if_neg sw1, if_neg sw2, if_neg sw3, if_neg sw4, if_pos sw5, if_neg c119]) rfl dL_value_148
      · exact absurd c135 c119
    · refine lv_sipush (v := 5801) hx hb dL_value_122 (by decide +kernel) ?_
      refine lv_goto (tgt := 131) hx hb dL_value_125 (by decide) ?_
      refine lv_irem hx hb dL_value_131 (by decide +kernel) ?_
      refine lv_iload_n hx hb dL_value_132 rfl (lv_at hl 1 rfl) ?_
      refine lv_iconst (v := 5) hx hb dL_value_133 (by decide +kernel) ?_
      refine lv_irem hx hb dL_value_134 (by decide +kernel) ?_
      refine lv_if_ne (tgt := 144) hx hb dL_value_135 (by decide) (fun c135 => ?_) (fun c135 => ?_)
      · exact absurd c119 c135
      · refine lv_sipush (v := 2900) hx hb dL_value_138 (by decide +kernel) ?_
        refine lv_goto (tgt := 147) hx hb dL_value_141 (by decide) ?_
        refine lv_isub hx hb dL_value_147 ?_
        exact zEia (v := (y - y / 5801 * 5801) - 2900) (ws' := []) hx hb hlocks hr rfl hK hP hD hS [] rfl rfl (by unfold vaT; rw [if_neg sw0, if_neg sw1, if_neg sw2, if_neg sw3, if_neg sw4, if_pos sw5, if_pos c119]) rfl dL_value_148
  by_cases sw6 : w = 6
  · refine lv_tableIn (off := 148) (tgt := 149) hx hb dL_value_1 (by rw [sw6]; decide +kernel) (by rw [sw6]; decide +kernel) (by rw [sw6]; rfl) (by decide) ?_
    refine lv_iload_n hx hb dL_value_149 rfl (lv_at hl 1 rfl) ?_
    refine lv_bipush (v := 51) hx hb dL_value_150 (by decide +kernel) ?_
    refine lv_irem hx hb dL_value_152 (by decide +kernel) ?_
    exact zEia (v := y - y / 51 * 51) (ws' := []) hx hb hlocks hr rfl hK hP hD hS [] rfl rfl (by unfold vaT; rw [if_neg sw0, if_neg sw1, if_neg sw2, if_neg sw3, if_neg sw4, if_neg sw5, if_pos sw6]) rfl dL_value_153
  refine lv_tableOut (tgt := 154) hx hb dL_value_1 (by have := sw_out (x := w) (n := 7) (by decide) (by intro k hk; match k, hk with | 0, _ => exact sw0 | 1, _ => exact sw1 | 2, _ => exact sw2 | 3, _ => exact sw3 | 4, _ => exact sw4 | 5, _ => exact sw5 | 6, _ => exact sw6); omega) (by decide) ?_
  refine lv_iload_n hx hb dL_value_154 rfl (lv_at hl 1 rfl) ?_
  refine lv_iload_n hx hb dL_value_155 rfl (lv_at hl 1 rfl) ?_
  refine lv_iconst (v := 2) hx hb dL_value_156 (by decide +kernel) ?_
  refine lv_irem hx hb dL_value_157 (by decide +kernel) ?_
  refine lv_if_ne (tgt := 167) hx hb dL_value_158 (by decide) (fun c158 => ?_) (fun c158 => ?_)
  · refine lv_bipush (v := 20) hx hb dL_value_167 (by decide +kernel) ?_
    refine lv_irem hx hb dL_value_169 (by decide +kernel) ?_
    exact zEia (v := y - y / 20 * 20) (ws' := []) hx hb hlocks hr rfl hK hP hD hS [] rfl rfl (by unfold vaT; rw [if_neg sw0, if_neg sw1, if_neg sw2, if_neg sw3, if_neg sw4, if_neg sw5, if_neg sw6, if_neg c158]) rfl dL_value_170
  · refine lv_sipush (v := 201) hx hb dL_value_161 (by decide +kernel) ?_
    refine lv_goto (tgt := 169) hx hb dL_value_164 (by decide) ?_
    refine lv_irem hx hb dL_value_169 (by decide +kernel) ?_
    exact zEia (v := y - y / 201 * 201) (ws' := []) hx hb hlocks hr rfl hK hP hD hS [] rfl rfl (by unfold vaT; rw [if_neg sw0, if_neg sw1, if_neg sw2, if_neg sw3, if_neg sw4, if_neg sw5, if_neg sw6, if_pos c158]) rfl dL_value_170

