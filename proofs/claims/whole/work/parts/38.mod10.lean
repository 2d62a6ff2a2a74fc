set_option maxHeartbeats 4000000 in
set_option maxRecDepth 100000 in
theorem r_ramp (l : Launch) (g : G3) (m0 m1 m2 m3 m4 m5 m6 m7 m8 : Nat) (ps rn ty la mn ma sn so ca cm kd : Int32) (S fi fq : Nat → Int32) (n w : Int32) (hok : setOk S) : MI l yX9_ramp wsX9_ramp (rk 1 22) g [.ref m0, .int n, .int w] [(m0, oB 9 [.ref m1, .ref m2, .ref m3, .ref m4, .int ps, .int rn, .ref m5, .int ty, .ref m6, .ref m7, .int la, .int mn, .int ma, .int sn, .int so, .int ca, .int cm, .int kd, .ref m8]), (m1, aI g 63 S), (m6, aI g 201 fi), (m7, aI g 201 fq)] (rpR S n w) [(m0, oB 9 [.ref m1, .ref m2, .ref m3, .ref m4, .int ps, .int rn, .ref m5, .int ty, .ref m6, .ref m7, .int (if rpP n w then nI (topS S) else la), .int mn, .int ma, .int sn, .int so, .int ca, .int cm, .int kd, .ref m8]), (m1, aI g 63 S), (m6, aI g 201 (if rpP n w then fillT (ivS S) fi (topS S + 1) else fi)), (m7, aI g 201 (if rpP n w then fillT (rsS S) fq (topS S + 1) else fq))] := by
  refine zWalk.met (Qc := fun A => zQi g (rpR S n w) [(m0, oB 9 [.ref m1, .ref m2, .ref m3, .ref m4, .int ps, .int rn, .ref m5, .int ty, .ref m6, .ref m7, .int (if rpP n w then nI (topS S) else la), .int mn, .int ma, .int sn, .int so, .int ca, .int cm, .int kd, .ref m8]), (m1, aI g 63 S), (m6, aI g 201 (if rpP n w then fillT (ivS S) fi (topS S + 1) else fi)), (m7, aI g 201 (if rpP n w then fillT (rsS S) fq (topS S + 1) else fq))] A) (cc := cX9_ramp) (maxL := 5) (ret := (some .int)) ?_ (by decide) rfl (Nat.le_of_ble_eq_true rfl)
  intro pg ev sx mi args below meth cd A H locs ls hx hb hr hml hown hts hlocks hA hE hK hP hD hS hl
  have iX9 : ∀ w ∈ u_ws RX9 TX9 19, w ∈ wsX9_ramp := (fun _ h => (List.mem_cons_of_mem _ (List.mem_append_right _ h)))
  have hl : lv_has ls 5 [(0, .ref m0), (1, .int n), (2, .int w)] := hl
  have h200 : topS S ≤ 200 := topS_le hok
  refine lv_iload_n hx hb dX9_ramp_0 rfl (lv_at hl 1 rfl) ?_
  refine lv_if_lt (tgt := 13) hx hb dX9_ramp_1 (by decide) (fun c1 => ?_) (fun c1 => ?_)
  · refine lv_ldc hx hb hown (hts (.constant RX9 53 (-1000001)) (List.mem_of_getElem? (i := 1) rfl)) dX9_ramp_13 ?_
    exact zEi (v := (-1000001)) (ws' := [(m0, oB 9 [.ref m1, .ref m2, .ref m3, .ref m4, .int ps, .int rn, .ref m5, .int ty, .ref m6, .ref m7, .int la, .int mn, .int ma, .int sn, .int so, .int ca, .int cm, .int kd, .ref m8]), (m1, aI g 63 S), (m6, aI g 201 fi), (m7, aI g 201 fq)]) hx hb hlocks hr rfl hK hP hD hS [0, 1, 2, 3] rfl rfl (by unfold rpR; rw [if_neg (fun h : rpP n w => zgt h.1 c1)]) (by simp only [if_neg (fun h : rpP n w => zgt h.1 c1)]) dX9_ramp_15
  · refine lv_iload_n hx hb dX9_ramp_4 rfl (lv_at hl 2 rfl) ?_
    refine lv_iconst (v := 0) hx hb dX9_ramp_5 (by decide +kernel) ?_
    refine lv_iconst (v := 3) hx hb dX9_ramp_6 (by decide +kernel) ?_
    refine zSI (As := [.int w, .int 0, .int 3]) (rest := []) (wc := []) (wr := [(m0, oB 9 [.ref m1, .ref m2, .ref m3, .ref m4, .int ps, .int rn, .ref m5, .int ty, .ref m6, .ref m7, .int la, .int mn, .int ma, .int sn, .int so, .int ca, .int cm, .int kd, .ref m8]), (m1, aI g 63 S), (m6, aI g 201 fi), (m7, aI g 201 fq)]) (wc' := []) ⟨hx, hb, hml, hown, hts⟩ (r_in l g w 0 3) (va_cwS 3 hts gX9_ramp_X9_in rfl rfl rfl (by decide +kernel) ⟨Nat.le_of_ble_eq_true rfl, Nat.le_of_ble_eq_true rfl⟩) hE hK hP hD hS hA [] [0, 1, 2, 3] rfl rfl rfl rfl (by decide) rfl hl.1 rfl (lv_room (Nat.le_of_ble_eq_true rfl)) ⟨Nat.zero_le _, Nat.zero_le _⟩ dX9_ramp_7 (fun H locs hP hD hS => ?_)
    have hP : va_P g.1 vwCl [(m0, oB 9 [.ref m1, .ref m2, .ref m3, .ref m4, .int ps, .int rn, .ref m5, .int ty, .ref m6, .ref m7, .int la, .int mn, .int ma, .int sn, .int so, .int ca, .int cm, .int kd, .ref m8]), (m1, aI g 63 S), (m6, aI g 201 fi), (m7, aI g 201 fq)] H := hP
    have hD : va_D A [(m0, oB 9 [.ref m1, .ref m2, .ref m3, .ref m4, .int ps, .int rn, .ref m5, .int ty, .ref m6, .ref m7, .int la, .int mn, .int ma, .int sn, .int so, .int ca, .int cm, .int kd, .ref m8]), (m1, aI g 63 S), (m6, aI g 201 fi), (m7, aI g 201 fq)] := hD
    refine lv_if_ne (tgt := 16) hx hb dX9_ramp_10 (by decide) (fun c10 => ?_) (fun c10 => ?_)
    · have c10 := b01_t c10
      have hC : rpP n w := ⟨zge c1, c10⟩
      obtain ⟨N, hN0⟩ : ∃ N, N = n.toInt.toNat := ⟨_, rfl⟩
      have en : n = nI N := by rw [hN0]; exact zof (zp0 hC.1)
      refine lv_aload_n hx hb dX9_ramp_16 rfl (lv_at hl 0 rfl) ?_
      refine zVV (As := []) (rest := []) (wc := [(m0, oB 9 [.ref m1, .ref m2, .ref m3, .ref m4, .int ps, .int rn, .ref m5, .int ty, .ref m6, .ref m7, .int la, .int mn, .int ma, .int sn, .int so, .int ca, .int cm, .int kd, .ref m8]), (m1, aI g 63 S), (m6, aI g 201 fi), (m7, aI g 201 fq)]) (wr := []) (wc' := [(m0, oB 9 [.ref m1, .ref m2, .ref m3, .ref m4, .int ps, .int rn, .ref m5, .int ty, .ref m6, .ref m7, .int (nI (topS S)), .int mn, .int ma, .int sn, .int so, .int ca, .int cm, .int kd, .ref m8]), (m1, aI g 63 S), (m6, aI g 201 (fillT (ivS S) fi (topS S + 1))), (m7, aI g 201 (fillT (rsS S) fq (topS S + 1)))]) ⟨hx, hb, hml, hown, hts⟩ (r_lays l g m0 m1 m2 m3 m4 m5 m6 m7 m8 ps rn ty la mn ma sn so ca cm kd S fi fq hok) (cwV 0 hts gX9_ramp_X9_lays rfl rfl rfl (by decide +kernel) ⟨Nat.le_of_ble_eq_true rfl, Nat.le_of_ble_eq_true rfl⟩) hE hK hP hD hS hA 0 9 rfl rfl rfl [0, 1, 2, 3] [] rfl rfl rfl rfl (by decide) rfl hl.1 rfl (lv_room (Nat.le_of_ble_eq_true rfl)) ⟨Nat.zero_le _, Nat.zero_le _⟩ dX9_ramp_17 (fun H locs hP hD hS => ?_)
      have hP : va_P g.1 vwCl [(m0, oB 9 [.ref m1, .ref m2, .ref m3, .ref m4, .int ps, .int rn, .ref m5, .int ty, .ref m6, .ref m7, .int (nI (topS S)), .int mn, .int ma, .int sn, .int so, .int ca, .int cm, .int kd, .ref m8]), (m1, aI g 63 S), (m6, aI g 201 (fillT (ivS S) fi (topS S + 1))), (m7, aI g 201 (fillT (rsS S) fq (topS S + 1)))] H := hP
      have hD : va_D A [(m0, oB 9 [.ref m1, .ref m2, .ref m3, .ref m4, .int ps, .int rn, .ref m5, .int ty, .ref m6, .ref m7, .int (nI (topS S)), .int mn, .int ma, .int sn, .int so, .int ca, .int cm, .int kd, .ref m8]), (m1, aI g 63 S), (m6, aI g 201 (fillT (ivS S) fi (topS S + 1))), (m7, aI g 201 (fillT (rsS S) fq (topS S + 1)))] := hD
      refine lv_iload_n hx hb dX9_ramp_20 rfl (lv_at hl 1 rfl) ?_
      refine lv_aload_n hx hb dX9_ramp_21 rfl (lv_at hl 0 rfl) ?_
      refine va_get (D := g.1) (ci := 9) (v := .int (nI (topS S))) (C := RX9) (T := TX9) (N := 19) hx hb hts iX9 hown hK hP 0 rfl rfl 10 (by decide) (hts (.fieldLink RX9 63 "StepAxisModel" "last" "I") (List.mem_of_getElem? (i := 2) rfl)) (fun _ h9 => h9) rfl dX9_ramp_22 ?_
      refine lv_icmp_le (tgt := 31) hx hb dX9_ramp_25 (by decide) (fun c25 => ?_) (fun c25 => ?_)
      · have hNt : N ≤ topS S := nle_le (by omega) c25 en hN0
        refine lv_iconst (v := 0) hx hb dX9_ramp_31 (by decide +kernel) ?_
        refine lv_istore_n (lv' := [(3, .int 0), (0, .ref m0), (1, .int n), (2, .int w)]) hx hb dX9_ramp_32 rfl hl (by decide) rfl (fun ls hl => ?_)
        refine lv_iconst (v := 0) hx hb dX9_ramp_33 (by decide +kernel) ?_
        refine lv_istore (lv' := [(4, .int 0), (3, .int 0), (0, .ref m0), (1, .int n), (2, .int w)]) hx hb dX9_ramp_34 hl (by decide) rfl (fun ls hl => ?_)
        have lp36 : ∀ (fu : Nat) (k : Nat) (j : Int32) (v : Int32), (k ≤ N + 1) → (j = nI k) → (v = smP S k) → (N + 1 - k) < fu → ∀ (H : Heap) (locs : List Loc), va_P g.1 vwCl [(m0, oB 9 [.ref m1, .ref m2, .ref m3, .ref m4, .int ps, .int rn, .ref m5, .int ty, .ref m6, .ref m7, .int (nI (topS S)), .int mn, .int ma, .int sn, .int so, .int ca, .int cm, .int kd, .ref m8]), (m1, aI g 63 S), (m6, aI g 201 (fillT (ivS S) fi (topS S + 1))), (m7, aI g 201 (fillT (rsS S) fq (topS S + 1)))] H → va_D A [(m0, oB 9 [.ref m1, .ref m2, .ref m3, .ref m4, .int ps, .int rn, .ref m5, .int ty, .ref m6, .ref m7, .int (nI (topS S)), .int mn, .int ma, .int sn, .int so, .int ca, .int cm, .int kd, .ref m8]), (m1, aI g 63 S), (m6, aI g 201 (fillT (ivS S) fi (topS S + 1))), (m7, aI g 201 (fillT (rsS S) fq (topS S + 1)))] → va_S A sx.heap H locs → ∀ (ls : Array Slot), lv_has ls 5 [(4, .int j), (3, .int v), (0, .ref m0), (1, .int n), (2, .int w)] → W pg l ev (rk 1 22) sx mi args below meth cd H locs 0 0 (MQ below (zQi g (rpR S n w) [(m0, oB 9 [.ref m1, .ref m2, .ref m3, .ref m4, .int ps, .int rn, .ref m5, .int ty, .ref m6, .ref m7, .int (if rpP n w then nI (topS S) else la), .int mn, .int ma, .int sn, .int so, .int ca, .int cm, .int kd, .ref m8]), (m1, aI g 63 S), (m6, aI g 201 (if rpP n w then fillT (ivS S) fi (topS S + 1) else fi)), (m7, aI g 201 (if rpP n w then fillT (rsS S) fq (topS S + 1) else fq))] A) args sx 0 0 A) (F0 mi 36 ls []) := by
          intro fu
          induction fu with
          | zero =>
            intro k j v hk ei ev hmu
            exact absurd hmu (Nat.not_lt_zero _)
          | succ fu ih =>
            intro k j v hk ei ev hmu H locs hP hD hS ls hl
            refine lv_iload hx hb dX9_ramp_36 (lv_at hl 0 rfl) ?_
            refine lv_iload_n hx hb dX9_ramp_38 rfl (lv_at hl 3 rfl) ?_
            refine lv_icmp_gt (tgt := 58) hx hb dX9_ramp_39 (by decide) (fun c39 => ?_) (fun c39 => ?_)
            · have hkn : k = N + 1 := Nat.le_antisymm hk (lop_t (by omega) (by omega) ei en c39)
              refine lv_iload_n hx hb dX9_ramp_58 rfl (lv_at hl 4 rfl) ?_
              refine lv_if_ne (tgt := 71) hx hb dX9_ramp_59 (by decide) (fun c59 => ?_) (fun c59 => ?_)
              · refine lv_iload_n hx hb dX9_ramp_71 rfl (lv_at hl 4 rfl) ?_
                refine lv_iconst (v := 1) hx hb dX9_ramp_72 (by decide +kernel) ?_
                refine lv_icmp_ne (tgt := 85) hx hb dX9_ramp_73 (by decide) (fun c73 => ?_) (fun c73 => ?_)
                · refine lv_iload_n hx hb dX9_ramp_85 rfl (lv_at hl 4 rfl) ?_
                  refine lv_iconst (v := 2) hx hb dX9_ramp_86 (by decide +kernel) ?_
                  refine lv_icmp_ne (tgt := 98) hx hb dX9_ramp_87 (by decide) (fun c87 => ?_) (fun c87 => ?_)
                  · refine lv_iload_n hx hb dX9_ramp_98 rfl (lv_at hl 1 rfl) ?_
                    exact zEi (v := v) (ws' := [(m0, oB 9 [.ref m1, .ref m2, .ref m3, .ref m4, .int ps, .int rn, .ref m5, .int ty, .ref m6, .ref m7, .int (nI (topS S)), .int mn, .int ma, .int sn, .int so, .int ca, .int cm, .int kd, .ref m8]), (m1, aI g 63 S), (m6, aI g 201 (fillT (ivS S) fi (topS S + 1))), (m7, aI g 201 (fillT (rsS S) fq (topS S + 1)))]) hx hb hlocks hr rfl hK hP hD hS [0, 1, 2, 3] rfl rfl (by unfold rpR; rw [if_pos hC, if_pos c25, if_neg c59, if_neg c73, if_neg c87, ← hN0, ev, hkn]; exact smP_s S N) (by simp only [if_pos hC]) dX9_ramp_99
                  · refine lv_aload_n hx hb dX9_ramp_90 rfl (lv_at hl 2 rfl) ?_
                    refine lv_iload_n hx hb dX9_ramp_91 rfl (lv_at hl 3 rfl) ?_
                    refine zVI (As := [.int n]) (rest := []) (wc := [(m0, oB 9 [.ref m1, .ref m2, .ref m3, .ref m4, .int ps, .int rn, .ref m5, .int ty, .ref m6, .ref m7, .int (nI (topS S)), .int mn, .int ma, .int sn, .int so, .int ca, .int cm, .int kd, .ref m8]), (m1, aI g 63 S)]) (wr := [(m6, aI g 201 (fillT (ivS S) fi (topS S + 1))), (m7, aI g 201 (fillT (rsS S) fq (topS S + 1)))]) (wc' := [(m0, oB 9 [.ref m1, .ref m2, .ref m3, .ref m4, .int ps, .int rn, .ref m5, .int ty, .ref m6, .ref m7, .int (nI (topS S)), .int mn, .int ma, .int sn, .int so, .int ca, .int cm, .int kd, .ref m8]), (m1, aI g 63 S)]) ⟨hx, hb, hml, hown, hts⟩ (r_pull l g m0 m1 m2 m3 m4 m5 m6 m7 m8 ps rn ty (nI (topS S)) mn ma sn so ca cm kd S n) (cwV 1 hts gX9_ramp_X9_pull rfl rfl rfl (by decide +kernel) ⟨Nat.le_of_ble_eq_true rfl, Nat.le_of_ble_eq_true rfl⟩) hE hK hP hD hS hA 0 9 rfl rfl rfl [0, 1] [2, 3] rfl rfl rfl rfl (by decide) rfl hl.1 rfl (lv_room (Nat.le_of_ble_eq_true rfl)) ⟨Nat.zero_le _, Nat.zero_le _⟩ dX9_ramp_92 (fun H locs hP hD hS => ?_)
                    have hP : va_P g.1 vwCl [(m6, aI g 201 (fillT (ivS S) fi (topS S + 1))), (m7, aI g 201 (fillT (rsS S) fq (topS S + 1))), (m0, oB 9 [.ref m1, .ref m2, .ref m3, .ref m4, .int ps, .int rn, .ref m5, .int ty, .ref m6, .ref m7, .int (nI (topS S)), .int mn, .int ma, .int sn, .int so, .int ca, .int cm, .int kd, .ref m8]), (m1, aI g 63 S)] H := hP
                    have hD : va_D A [(m6, aI g 201 (fillT (ivS S) fi (topS S + 1))), (m7, aI g 201 (fillT (rsS S) fq (topS S + 1))), (m0, oB 9 [.ref m1, .ref m2, .ref m3, .ref m4, .int ps, .int rn, .ref m5, .int ty, .ref m6, .ref m7, .int (nI (topS S)), .int mn, .int ma, .int sn, .int so, .int ca, .int cm, .int kd, .ref m8]), (m1, aI g 63 S)] := hD
                    refine lv_goto (tgt := 99) hx hb dX9_ramp_95 (by decide) ?_
                    exact zEi (v := puT (S 3) (S 4) n) (ws' := [(m0, oB 9 [.ref m1, .ref m2, .ref m3, .ref m4, .int ps, .int rn, .ref m5, .int ty, .ref m6, .ref m7, .int (nI (topS S)), .int mn, .int ma, .int sn, .int so, .int ca, .int cm, .int kd, .ref m8]), (m1, aI g 63 S), (m6, aI g 201 (fillT (ivS S) fi (topS S + 1))), (m7, aI g 201 (fillT (rsS S) fq (topS S + 1)))]) hx hb hlocks hr rfl hK hP hD hS [2, 3, 0, 1] rfl rfl (by unfold rpR; rw [if_pos hC, if_pos c25, if_neg c59, if_neg c73, if_pos c87]) (by simp only [if_pos hC]) dX9_ramp_99
                · refine lv_aload_n hx hb dX9_ramp_76 rfl (lv_at hl 2 rfl) ?_
                  refine va_get (D := g.1) (ci := 9) (v := .ref m7) (C := RX9) (T := TX9) (N := 19) hx hb hts iX9 hown hK hP 0 rfl rfl 9 (by decide) (hts (.fieldLink RX9 28 "StepAxisModel" "rests" "[I") (List.mem_of_getElem? (i := 5) rfl)) (fun _ h9 => h9) rfl dX9_ramp_77 ?_
                  refine lv_iload_n hx hb dX9_ramp_80 rfl (lv_at hl 3 rfl) ?_
                  refine zald (k := N) hx hb hK hP 3 0 rfl rfl (IX.of en (by omega) (by decide)) dX9_ramp_81 ?_
                  refine zTop (y := rsS S N) (fillT_in (by omega)) ?_
                  refine lv_goto (tgt := 99) hx hb dX9_ramp_82 (by decide) ?_
                  exact zEi (v := rsS S N) (ws' := [(m0, oB 9 [.ref m1, .ref m2, .ref m3, .ref m4, .int ps, .int rn, .ref m5, .int ty, .ref m6, .ref m7, .int (nI (topS S)), .int mn, .int ma, .int sn, .int so, .int ca, .int cm, .int kd, .ref m8]), (m1, aI g 63 S), (m6, aI g 201 (fillT (ivS S) fi (topS S + 1))), (m7, aI g 201 (fillT (rsS S) fq (topS S + 1)))]) hx hb hlocks hr rfl hK hP hD hS [0, 1, 2, 3] rfl rfl (by unfold rpR; rw [if_pos hC, if_pos c25, if_neg c59, if_pos c73, ← hN0]) (by simp only [if_pos hC]) dX9_ramp_99
              · refine lv_aload_n hx hb dX9_ramp_62 rfl (lv_at hl 2 rfl) ?_
                refine va_get (D := g.1) (ci := 9) (v := .ref m6) (C := RX9) (T := TX9) (N := 19) hx hb hts iX9 hown hK hP 0 rfl rfl 8 (by decide) (hts (.fieldLink RX9 25 "StepAxisModel" "intervals" "[I") (List.mem_of_getElem? (i := 4) rfl)) (fun _ h9 => h9) rfl dX9_ramp_63 ?_
                refine lv_iload_n hx hb dX9_ramp_66 rfl (lv_at hl 3 rfl) ?_
                refine zald (k := N) hx hb hK hP 2 0 rfl rfl (IX.of en (by omega) (by decide)) dX9_ramp_67 ?_
                refine zTop (y := ivS S N) (fillT_in (by omega)) ?_
                refine lv_goto (tgt := 99) hx hb dX9_ramp_68 (by decide) ?_
                exact zEi (v := ivS S N) (ws' := [(m0, oB 9 [.ref m1, .ref m2, .ref m3, .ref m4, .int ps, .int rn, .ref m5, .int ty, .ref m6, .ref m7, .int (nI (topS S)), .int mn, .int ma, .int sn, .int so, .int ca, .int cm, .int kd, .ref m8]), (m1, aI g 63 S), (m6, aI g 201 (fillT (ivS S) fi (topS S + 1))), (m7, aI g 201 (fillT (rsS S) fq (topS S + 1)))]) hx hb hlocks hr rfl hK hP hD hS [0, 1, 2, 3] rfl rfl (by unfold rpR; rw [if_pos hC, if_pos c25, if_pos c59, ← hN0]) (by simp only [if_pos hC]) dX9_ramp_99
            · have hlt : k ≤ N := lop_f (by omega) (by omega) ei en c39
              refine lv_iload_n hx hb dX9_ramp_42 rfl (lv_at hl 1 rfl) ?_
              refine lv_aload_n hx hb dX9_ramp_43 rfl (lv_at hl 2 rfl) ?_
              refine va_get (D := g.1) (ci := 9) (v := .ref m6) (C := RX9) (T := TX9) (N := 19) hx hb hts iX9 hown hK hP 0 rfl rfl 8 (by decide) (hts (.fieldLink RX9 25 "StepAxisModel" "intervals" "[I") (List.mem_of_getElem? (i := 4) rfl)) (fun _ h9 => h9) rfl dX9_ramp_44 ?_
              refine lv_iload hx hb dX9_ramp_47 (lv_at hl 0 rfl) ?_
              refine zald (k := k) hx hb hK hP 2 0 rfl rfl (IX.of ei (by omega) (by decide)) dX9_ramp_49 ?_
              refine zTop (y := ivS S k) (fillT_in (by omega)) ?_
              refine lv_iadd hx hb dX9_ramp_50 ?_
              refine lv_istore_n (lv' := [(3, .int (v + (ivS S k))), (4, .int j), (0, .ref m0), (1, .int n), (2, .int w)]) hx hb dX9_ramp_51 rfl hl (by decide) rfl (fun ls hl => ?_)
              refine lv_iinc (v := j + 1) (lv' := [(4, .int (j + 1)), (3, .int (v + (ivS S k))), (0, .ref m0), (1, .int n), (2, .int w)]) hx hb dX9_ramp_52 hl (k := 1) rfl (by rfl) (by decide) rfl (fun ls hl => ?_)
              refine lv_goto (tgt := 36) hx hb dX9_ramp_55 (by decide) ?_
              exact ih (k + 1) (j + 1) (v + (ivS S k)) (Nat.succ_le_succ hlt) (by rw [ei]; exact nI_1 k) (by rw [smP, ev]) (by omega) _ _ (zP_sub hP [0, 1, 2, 3] rfl) (hD.sub [0, 1, 2, 3] rfl rfl) hS ls (lv_sub hl [0, 1, 2, 3, 4] rfl)
        exact lp36 ((N + 1 - 0) + 1) 0 0 0 (Nat.zero_le _) rfl (by rw [smP]) (Nat.lt_succ_self _) _ _ (zP_sub hP [0, 1, 2, 3] rfl) (hD.sub [0, 1, 2, 3] rfl rfl) hS ls (lv_sub hl [0, 1, 2, 3, 4] rfl)
      · refine lv_ldc hx hb hown (hts (.constant RX9 59 (-1000004)) (List.mem_of_getElem? (i := 3) rfl)) dX9_ramp_28 ?_
        exact zEi (v := (-1000004)) (ws' := [(m0, oB 9 [.ref m1, .ref m2, .ref m3, .ref m4, .int ps, .int rn, .ref m5, .int ty, .ref m6, .ref m7, .int (nI (topS S)), .int mn, .int ma, .int sn, .int so, .int ca, .int cm, .int kd, .ref m8]), (m1, aI g 63 S), (m6, aI g 201 (fillT (ivS S) fi (topS S + 1))), (m7, aI g 201 (fillT (rsS S) fq (topS S + 1)))]) hx hb hlocks hr rfl hK hP hD hS [0, 1, 2, 3] rfl rfl (by unfold rpR; rw [if_pos hC, if_neg c25]) (by simp only [if_pos hC]) dX9_ramp_30
    · have c10 := b01_f c10
      refine lv_ldc hx hb hown (hts (.constant RX9 53 (-1000001)) (List.mem_of_getElem? (i := 1) rfl)) dX9_ramp_13 ?_
      exact zEi (v := (-1000001)) (ws' := [(m0, oB 9 [.ref m1, .ref m2, .ref m3, .ref m4, .int ps, .int rn, .ref m5, .int ty, .ref m6, .ref m7, .int la, .int mn, .int ma, .int sn, .int so, .int ca, .int cm, .int kd, .ref m8]), (m1, aI g 63 S), (m6, aI g 201 fi), (m7, aI g 201 fq)]) hx hb hlocks hr rfl hK hP hD hS [0, 1, 2, 3] rfl rfl (by unfold rpR; rw [if_neg (fun h : rpP n w => c10 h.2)]) (by simp only [if_neg (fun h : rpP n w => c10 h.2)]) dX9_ramp_15
