set_option maxHeartbeats 4000000 in
set_option maxRecDepth 100000 in
theorem r_homes (l : Launch) (g : G3) (m0 m1 m2 m3 m4 m5 m6 m7 m8 : Nat) (ps rn ty la mn ma sn so ca cm kd : Int32) (S fi fq : Nat → Int32) (hok : setOk S) (hnl : 0 ≤ (S 18).toInt ∧ (S 18).toInt ≤ 6) : MI l yX9_homes wsX9_homes (rk 4 92) g [.ref m0] [(m0, oB 9 [.ref m1, .ref m2, .ref m3, .ref m4, .int ps, .int rn, .ref m5, .int ty, .ref m6, .ref m7, .int la, .int mn, .int ma, .int sn, .int so, .int ca, .int cm, .int kd, .ref m8]), (m1, aI g 63 S), (m6, aI g 201 fi), (m7, aI g 201 fq)] (hmR S) [(m0, oB 9 [.ref m1, .ref m2, .ref m3, .ref m4, .int ps, .int rn, .ref m5, .int ty, .ref m6, .ref m7, .int (nI (topS S)), .int (hmM S mn), .int ma, .int sn, .int so, .int ca, .int cm, .int kd, .ref m8]), (m1, aI g 63 (hmF S)), (m6, aI g 201 (fillT (ivS S) fi (topS S + 1))), (m7, aI g 201 (fillT (rsS S) fq (topS S + 1)))] := by
  refine zWalk.met (Qc := fun A => zQi g (hmR S) [(m0, oB 9 [.ref m1, .ref m2, .ref m3, .ref m4, .int ps, .int rn, .ref m5, .int ty, .ref m6, .ref m7, .int (nI (topS S)), .int (hmM S mn), .int ma, .int sn, .int so, .int ca, .int cm, .int kd, .ref m8]), (m1, aI g 63 (hmF S)), (m6, aI g 201 (fillT (ivS S) fi (topS S + 1))), (m7, aI g 201 (fillT (rsS S) fq (topS S + 1)))] A) (cc := cX9_homes) (maxL := 4) (ret := (some .int)) ?_ (by decide) rfl (Nat.le_of_ble_eq_true rfl)
  intro pg ev sx mi args below meth cd A H locs ls hx hb hr hml hown hts hlocks hA hE hK hP hD hS hl
  have iX9 : ∀ w ∈ u_ws RX9 TX9 19, w ∈ wsX9_homes := (fun _ h => (List.mem_cons_of_mem _ (List.mem_append_right _ h)))
  have hl : lv_has ls 4 [(0, .ref m0)] := hl
  have hkl := kSl_le hok
  have hl1 := h1_le S
  have hl2 := h2_le S
  have hl3 := h3_le S
  obtain ⟨y1, hy1⟩ : ∃ y1, y1 = (rdn S (hG S) 4000 0 (getT S)).1 := ⟨_, rfl⟩
  obtain ⟨x1, hX1⟩ : ∃ x1, x1 = hx1 S := ⟨_, rfl⟩
  obtain ⟨x2, hX2⟩ : ∃ x2, x2 = (crp S 1 0 4000 0 x1).1 := ⟨_, rfl⟩
  obtain ⟨x3, hX3⟩ : ∃ x3, x3 = (crp S (-1) 1 4000 0 x2).1 := ⟨_, rfl⟩
  obtain ⟨v1, hV1⟩ : ∃ v1, v1 = rdM S (hG S) (-1) 4000 0 (getT S) mn := ⟨_, rfl⟩
  obtain ⟨v2, hV2⟩ : ∃ v2, v2 = hmM2 S mn := ⟨_, rfl⟩
  obtain ⟨v3, hV3⟩ : ∃ v3, v3 = crM S 1 0 4000 x1 v2 := ⟨_, rfl⟩
  obtain ⟨v4, hV4⟩ : ∃ v4, v4 = crM S (-1) 1 4000 x2 v3 := ⟨_, rfl⟩
  obtain ⟨n1, hN1⟩ : ∃ n1, n1 = (h1 S).2 := ⟨_, rfl⟩
  obtain ⟨n2, hN2⟩ : ∃ n2, n2 = (crp S 1 0 4000 0 x1).2 := ⟨_, rfl⟩
  obtain ⟨n3, hN3⟩ : ∃ n3, n3 = (crp S (-1) 1 4000 0 x2).2 := ⟨_, rfl⟩
  have hY1 : (h1 S).1 = y1 := by unfold h1; exact hy1.symm
  have hY2 : (h2 S).1 = x2 := by unfold h2; rw [hX2, hX1]
  have hY3 : (h3 S).1 = x3 := by unfold h3; rw [hX3, hY2]
  have hM2 : (h2 S).2 = n2 := by unfold h2; rw [hN2, hX1]
  have hM3 : (h3 S).2 = n3 := by unfold h3; rw [hN3, hY2]
  have hQ1 : hP1 S ↔ ¬ y1.2.2.1 = 0 := by
    show (¬ (h1 S).1.2.2.1 = 0) ↔ _
    rw [hY1]
  have hQ2 : hP2 S ↔ x2.2.2.1 = 0 := by
    show ((h2 S).1.2.2.1 = 0) ↔ _
    rw [hY2]
  have hQ3 : hP3 S ↔ x3.2.2.1 = 1 := by
    show ((h3 S).1.2.2.1 = 1) ↔ _
    rw [hY3]
  have hR2 : (rdn S (hG S) 4000 0 (getT S)).2 = n1 := by rw [hN1]; unfold h1; rfl
  have hW1 : hmM1 S mn = v1 := by unfold hmM1; exact hV1.symm
  have hW3 : hmM3 S mn = v3 := by unfold hmM3; rw [hV3, hX1, hV2]
  have hW4 : hmM4 S mn = v4 := by unfold hmM4; rw [hV4, hY2, hW3]
  have hK1 : min (n1 - 1) (hG S) = kSl S := by rw [hN1]; rfl
  refine lv_aload_n hx hb dX9_homes_0 rfl (lv_at hl 0 rfl) ?_
  refine zVV (As := []) (rest := []) (wc := [(m0, oB 9 [.ref m1, .ref m2, .ref m3, .ref m4, .int ps, .int rn, .ref m5, .int ty, .ref m6, .ref m7, .int la, .int mn, .int ma, .int sn, .int so, .int ca, .int cm, .int kd, .ref m8]), (m1, aI g 63 S), (m6, aI g 201 fi), (m7, aI g 201 fq)]) (wr := []) (wc' := [(m0, oB 9 [.ref m1, .ref m2, .ref m3, .ref m4, .int ps, .int rn, .ref m5, .int ty, .ref m6, .ref m7, .int (nI (topS S)), .int mn, .int ma, .int sn, .int so, .int ca, .int cm, .int kd, .ref m8]), (m1, aI g 63 S), (m6, aI g 201 (fillT (ivS S) fi (topS S + 1))), (m7, aI g 201 (fillT (rsS S) fq (topS S + 1)))]) ⟨hx, hb, hml, hown, hts⟩ (r_lays l g m0 m1 m2 m3 m4 m5 m6 m7 m8 ps rn ty la mn ma sn so ca cm kd S fi fq hok) (cwV 0 hts gX9_homes_X9_lays rfl rfl rfl (by decide +kernel) ⟨Nat.le_of_ble_eq_true rfl, Nat.le_of_ble_eq_true rfl⟩) hE hK hP hD hS hA 0 9 rfl rfl rfl [0, 1, 2, 3] [] rfl rfl rfl rfl (by decide) rfl hl.1 rfl (lv_room (Nat.le_of_ble_eq_true rfl)) ⟨Nat.zero_le _, Nat.zero_le _⟩ dX9_homes_1 (fun H locs hP hD hS => ?_)
  have hP : va_P g.1 vwCl [(m0, oB 9 [.ref m1, .ref m2, .ref m3, .ref m4, .int ps, .int rn, .ref m5, .int ty, .ref m6, .ref m7, .int (nI (topS S)), .int mn, .int ma, .int sn, .int so, .int ca, .int cm, .int kd, .ref m8]), (m1, aI g 63 S), (m6, aI g 201 (fillT (ivS S) fi (topS S + 1))), (m7, aI g 201 (fillT (rsS S) fq (topS S + 1)))] H := hP
  have hD : va_D A [(m0, oB 9 [.ref m1, .ref m2, .ref m3, .ref m4, .int ps, .int rn, .ref m5, .int ty, .ref m6, .ref m7, .int (nI (topS S)), .int mn, .int ma, .int sn, .int so, .int ca, .int cm, .int kd, .ref m8]), (m1, aI g 63 S), (m6, aI g 201 (fillT (ivS S) fi (topS S + 1))), (m7, aI g 201 (fillT (rsS S) fq (topS S + 1)))] := hD
  have hP := zP_arr (f' := putT S (getT S)) 1 rfl (fun k hk => by rw [putT_get]) hP
  have hD := hD.set (p := 1) (e := aI g 63 (putT S (getT S))) rfl
  have hP : va_P g.1 vwCl [(m0, oB 9 [.ref m1, .ref m2, .ref m3, .ref m4, .int ps, .int rn, .ref m5, .int ty, .ref m6, .ref m7, .int (nI (topS S)), .int mn, .int ma, .int sn, .int so, .int ca, .int cm, .int kd, .ref m8]), (m1, aI g 63 (putT S (getT S))), (m6, aI g 201 (fillT (ivS S) fi (topS S + 1))), (m7, aI g 201 (fillT (rsS S) fq (topS S + 1)))] H := hP
  have hD : va_D A [(m0, oB 9 [.ref m1, .ref m2, .ref m3, .ref m4, .int ps, .int rn, .ref m5, .int ty, .ref m6, .ref m7, .int (nI (topS S)), .int mn, .int ma, .int sn, .int so, .int ca, .int cm, .int kd, .ref m8]), (m1, aI g 63 (putT S (getT S))), (m6, aI g 201 (fillT (ivS S) fi (topS S + 1))), (m7, aI g 201 (fillT (rsS S) fq (topS S + 1)))] := hD
  refine lv_aload_n hx hb dX9_homes_4 rfl (lv_at hl 0 rfl) ?_
  refine zVI (As := []) (rest := []) (wc := [(m0, oB 9 [.ref m1, .ref m2, .ref m3, .ref m4, .int ps, .int rn, .ref m5, .int ty, .ref m6, .ref m7, .int (nI (topS S)), .int mn, .int ma, .int sn, .int so, .int ca, .int cm, .int kd, .ref m8]), (m1, aI g 63 (putT S (getT S))), (m6, aI g 201 (fillT (ivS S) fi (topS S + 1)))]) (wr := [(m7, aI g 201 (fillT (rsS S) fq (topS S + 1)))]) (wc' := [(m0, oB 9 [.ref m1, .ref m2, .ref m3, .ref m4, .int ps, .int rn, .ref m5, .int ty, .ref m6, .ref m7, .int (nI (topS S)), .int (if (rdn S (hG S) 4000 0 (getT S)).1.2.2.1 = 0 then rdM S (hG S) (-1) 4000 0 (getT S) mn else slM S (min ((rdn S (hG S) 4000 0 (getT S)).2 - 1) (hG S)) (rdn S (hG S) 4000 0 (getT S)).1 (rdM S (hG S) (-1) 4000 0 (getT S) mn) (-1) (min ((rdn S (hG S) 4000 0 (getT S)).2 - 1) (hG S))), .int ma, .int sn, .int so, .int ca, .int cm, .int kd, .ref m8]), (m1, aI g 63 (putT S (rdT S (getT S)))), (m6, aI g 201 (fillT (ivS S) fi (topS S + 1)))]) ⟨hx, hb, hml, hown, hts⟩ (r_runsDown l g m0 m1 m2 m3 m4 m5 m6 m7 m8 ps rn ty mn ma sn so ca cm kd S fi (getT S) hok hnl) (cwV 0 hts gX9_homes_X9_runsDown rfl rfl rfl (by decide +kernel) ⟨Nat.le_of_ble_eq_true rfl, Nat.le_of_ble_eq_true rfl⟩) hE hK hP hD hS hA 0 9 rfl rfl rfl [0, 1, 2] [3] rfl rfl rfl rfl (by decide) rfl hl.1 rfl (lv_room (Nat.le_of_ble_eq_true rfl)) ⟨Nat.zero_le _, Nat.zero_le _⟩ dX9_homes_5 (fun H locs hP hD hS => ?_)
  have hP : va_P g.1 vwCl [(m7, aI g 201 (fillT (rsS S) fq (topS S + 1))), (m0, oB 9 [.ref m1, .ref m2, .ref m3, .ref m4, .int ps, .int rn, .ref m5, .int ty, .ref m6, .ref m7, .int (nI (topS S)), .int (if (rdn S (hG S) 4000 0 (getT S)).1.2.2.1 = 0 then rdM S (hG S) (-1) 4000 0 (getT S) mn else slM S (min ((rdn S (hG S) 4000 0 (getT S)).2 - 1) (hG S)) (rdn S (hG S) 4000 0 (getT S)).1 (rdM S (hG S) (-1) 4000 0 (getT S) mn) (-1) (min ((rdn S (hG S) 4000 0 (getT S)).2 - 1) (hG S))), .int ma, .int sn, .int so, .int ca, .int cm, .int kd, .ref m8]), (m1, aI g 63 (putT S (rdT S (getT S)))), (m6, aI g 201 (fillT (ivS S) fi (topS S + 1)))] H := hP
  have hD : va_D A [(m7, aI g 201 (fillT (rsS S) fq (topS S + 1))), (m0, oB 9 [.ref m1, .ref m2, .ref m3, .ref m4, .int ps, .int rn, .ref m5, .int ty, .ref m6, .ref m7, .int (nI (topS S)), .int (if (rdn S (hG S) 4000 0 (getT S)).1.2.2.1 = 0 then rdM S (hG S) (-1) 4000 0 (getT S) mn else slM S (min ((rdn S (hG S) 4000 0 (getT S)).2 - 1) (hG S)) (rdn S (hG S) 4000 0 (getT S)).1 (rdM S (hG S) (-1) 4000 0 (getT S) mn) (-1) (min ((rdn S (hG S) 4000 0 (getT S)).2 - 1) (hG S))), .int ma, .int sn, .int so, .int ca, .int cm, .int kd, .ref m8]), (m1, aI g 63 (putT S (rdT S (getT S)))), (m6, aI g 201 (fillT (ivS S) fi (topS S + 1)))] := hD
  by_cases q1 : y1.2.2.1 = 0
  · refine zTop (y := (-1000004)) (if_pos (by rw [← hy1]; exact q1)) ?_
    rw [show rdT S (getT S) = y1 from by unfold rdT; rw [← hy1]; exact if_pos q1] at hP hD
    rw [show (if (rdn S (hG S) 4000 0 (getT S)).1.2.2.1 = 0 then rdM S (hG S) (-1) 4000 0 (getT S) mn else slM S (min ((rdn S (hG S) 4000 0 (getT S)).2 - 1) (hG S)) (rdn S (hG S) 4000 0 (getT S)).1 (rdM S (hG S) (-1) 4000 0 (getT S) mn) (-1) (min ((rdn S (hG S) 4000 0 (getT S)).2 - 1) (hG S))) = v1 from (by rw [hV1]; exact if_pos (by rw [← hy1]; exact q1))] at hP hD
    have hn1 : ¬ hP1 S := fun h => hQ1.mp h q1
    refine lv_istore_n (lv' := [(1, .int (-1000004)), (0, .ref m0)]) hx hb dX9_homes_8 rfl hl (by decide) rfl (fun ls hl => ?_)
    refine lv_iload_n hx hb dX9_homes_9 rfl (lv_at hl 0 rfl) ?_
    refine lv_if_ge (tgt := 17) hx hb dX9_homes_10 (by decide) (fun c10 => ?_) (fun c10 => ?_)
    · exact absurd c10 (by decide)
    · refine lv_iload_n hx hb dX9_homes_13 rfl (lv_at hl 0 rfl) ?_
      refine lv_goto (tgt := 23) hx hb dX9_homes_14 (by decide) ?_
      refine lv_istore_n (lv' := [(2, .int (-1000004)), (1, .int (-1000004)), (0, .ref m0)]) hx hb dX9_homes_23 rfl hl (by decide) rfl (fun ls hl => ?_)
      refine lv_iload_n hx hb dX9_homes_24 rfl (lv_at hl 0 rfl) ?_
      refine lv_if_ge (tgt := 32) hx hb dX9_homes_25 (by decide) (fun c25 => ?_) (fun c25 => ?_)
      · exact absurd c25 (by decide)
      · refine lv_iload_n hx hb dX9_homes_28 rfl (lv_at hl 0 rfl) ?_
        refine lv_goto (tgt := 38) hx hb dX9_homes_29 (by decide) ?_
        refine lv_istore_n (lv' := [(3, .int (-1000004)), (2, .int (-1000004)), (1, .int (-1000004)), (0, .ref m0)]) hx hb dX9_homes_38 rfl hl (by decide) rfl (fun ls hl => ?_)
        refine lv_iload_n hx hb dX9_homes_39 rfl (lv_at hl 0 rfl) ?_
        refine lv_if_ge (tgt := 46) hx hb dX9_homes_40 (by decide) (fun c40 => ?_) (fun c40 => ?_)
        · exact absurd c40 (by decide)
        · refine lv_ldc hx hb hown (hts (.constant RX9 58 (-1000002)) (List.mem_of_getElem? (i := 1) rfl)) dX9_homes_43 ?_
          exact zEi (v := (-1000002)) (ws' := [(m0, oB 9 [.ref m1, .ref m2, .ref m3, .ref m4, .int ps, .int rn, .ref m5, .int ty, .ref m6, .ref m7, .int (nI (topS S)), .int v1, .int ma, .int sn, .int so, .int ca, .int cm, .int kd, .ref m8]), (m1, aI g 63 (putT S y1)), (m6, aI g 201 (fillT (ivS S) fi (topS S + 1))), (m7, aI g 201 (fillT (rsS S) fq (topS S + 1)))]) hx hb hlocks hr rfl hK hP hD hS [1, 2, 3, 0] rfl rfl (if_neg (show ¬ hPP S from fun h => hn1 h.1)).symm (by rw [show hmF S = putT S y1 from by unfold hmF hmT; rw [if_neg (show ¬ hPP S from fun h => hn1 h.1), if_neg hn1, hY1], show hmM S mn = v1 from by unfold hmM; rw [if_neg hn1, hW1]]) dX9_homes_45
  · refine zTop (y := nI (n1 + kSl S)) (by rw [if_neg (by rw [← hy1]; exact q1), hR2, hK1]) ?_
    rw [show rdT S (getT S) = x1 from by rw [hX1]; exact rdT_x1 (by rw [← hy1]; exact q1)] at hP hD
    rw [show (if (rdn S (hG S) 4000 0 (getT S)).1.2.2.1 = 0 then rdM S (hG S) (-1) 4000 0 (getT S) mn else slM S (min ((rdn S (hG S) 4000 0 (getT S)).2 - 1) (hG S)) (rdn S (hG S) 4000 0 (getT S)).1 (rdM S (hG S) (-1) 4000 0 (getT S) mn) (-1) (min ((rdn S (hG S) 4000 0 (getT S)).2 - 1) (hG S))) = v2 from (by rw [if_neg (by rw [← hy1]; exact q1), hR2, hK1, hV2]; unfold hmM2 h1 hmM1; rfl)] at hP hD
    have hp1 : hP1 S := hQ1.mpr q1
    refine lv_istore_n (lv' := [(1, .int (nI (n1 + kSl S))), (0, .ref m0)]) hx hb dX9_homes_8 rfl hl (by decide) rfl (fun ls hl => ?_)
    refine lv_iload_n hx hb dX9_homes_9 rfl (lv_at hl 0 rfl) ?_
    refine lv_if_ge (tgt := 17) hx hb dX9_homes_10 (by decide) (fun c10 => ?_) (fun c10 => ?_)
    · refine lv_aload_n hx hb dX9_homes_17 rfl (lv_at hl 1 rfl) ?_
      refine lv_iconst (v := 1) hx hb dX9_homes_18 (by decide +kernel) ?_
      refine lv_iconst (v := 0) hx hb dX9_homes_19 (by decide +kernel) ?_
      refine zVI (As := [.int 1, .int 0]) (rest := []) (wc := [(m0, oB 9 [.ref m1, .ref m2, .ref m3, .ref m4, .int ps, .int rn, .ref m5, .int ty, .ref m6, .ref m7, .int (nI (topS S)), .int v2, .int ma, .int sn, .int so, .int ca, .int cm, .int kd, .ref m8]), (m1, aI g 63 (putT S x1)), (m6, aI g 201 (fillT (ivS S) fi (topS S + 1)))]) (wr := [(m7, aI g 201 (fillT (rsS S) fq (topS S + 1)))]) (wc' := [(m0, oB 9 [.ref m1, .ref m2, .ref m3, .ref m4, .int ps, .int rn, .ref m5, .int ty, .ref m6, .ref m7, .int (nI (topS S)), .int (crM S 1 0 4000 x1 v2), .int ma, .int sn, .int so, .int ca, .int cm, .int kd, .ref m8]), (m1, aI g 63 (putT S ((crp S 1 0 4000 0 x1).1))), (m6, aI g 201 (fillT (ivS S) fi (topS S + 1)))]) ⟨hx, hb, hml, hown, hts⟩ (r_creeps l g m0 m1 m2 m3 m4 m5 m6 m7 m8 ps rn ty v2 ma sn so ca cm kd S fi x1 1 0 hnl) (cwV 2 hts gX9_homes_X9_creeps rfl rfl rfl (by decide +kernel) ⟨Nat.le_of_ble_eq_true rfl, Nat.le_of_ble_eq_true rfl⟩) hE hK hP hD hS hA 1 9 rfl rfl rfl [1, 2, 3] [0] rfl rfl rfl rfl (by decide) rfl hl.1 rfl (lv_room (Nat.le_of_ble_eq_true rfl)) ⟨Nat.zero_le _, Nat.zero_le _⟩ dX9_homes_20 (fun H locs hP hD hS => ?_)
      have hP : va_P g.1 vwCl [(m7, aI g 201 (fillT (rsS S) fq (topS S + 1))), (m0, oB 9 [.ref m1, .ref m2, .ref m3, .ref m4, .int ps, .int rn, .ref m5, .int ty, .ref m6, .ref m7, .int (nI (topS S)), .int (crM S 1 0 4000 x1 v2), .int ma, .int sn, .int so, .int ca, .int cm, .int kd, .ref m8]), (m1, aI g 63 (putT S ((crp S 1 0 4000 0 x1).1))), (m6, aI g 201 (fillT (ivS S) fi (topS S + 1)))] H := hP
      have hD : va_D A [(m7, aI g 201 (fillT (rsS S) fq (topS S + 1))), (m0, oB 9 [.ref m1, .ref m2, .ref m3, .ref m4, .int ps, .int rn, .ref m5, .int ty, .ref m6, .ref m7, .int (nI (topS S)), .int (crM S 1 0 4000 x1 v2), .int ma, .int sn, .int so, .int ca, .int cm, .int kd, .ref m8]), (m1, aI g 63 (putT S ((crp S 1 0 4000 0 x1).1))), (m6, aI g 201 (fillT (ivS S) fi (topS S + 1)))] := hD
      rw [← hX2] at hP hD
      by_cases q2 : x2.2.2.1 = 0
      · refine zTop (y := nI n2) (by rw [← hX2, ← hN2]; exact if_pos q2) ?_
        rw [show (crM S 1 0 4000 x1 v2) = v3 from hV3.symm] at hP hD
        have hp2 : hP2 S := hQ2.mpr q2
        refine lv_istore_n (lv' := [(2, .int (nI n2)), (1, .int (nI (n1 + kSl S))), (0, .ref m0)]) hx hb dX9_homes_23 rfl hl (by decide) rfl (fun ls hl => ?_)
        refine lv_iload_n hx hb dX9_homes_24 rfl (lv_at hl 0 rfl) ?_
        refine lv_if_ge (tgt := 32) hx hb dX9_homes_25 (by decide) (fun c25 => ?_) (fun c25 => ?_)
        · refine lv_aload_n hx hb dX9_homes_32 rfl (lv_at hl 2 rfl) ?_
          refine lv_iconst (v := (-1)) hx hb dX9_homes_33 (by decide +kernel) ?_
          refine lv_iconst (v := 1) hx hb dX9_homes_34 (by decide +kernel) ?_
          refine zVI (As := [.int (-1), .int 1]) (rest := []) (wc := [(m0, oB 9 [.ref m1, .ref m2, .ref m3, .ref m4, .int ps, .int rn, .ref m5, .int ty, .ref m6, .ref m7, .int (nI (topS S)), .int v3, .int ma, .int sn, .int so, .int ca, .int cm, .int kd, .ref m8]), (m1, aI g 63 (putT S x2)), (m6, aI g 201 (fillT (ivS S) fi (topS S + 1)))]) (wr := [(m7, aI g 201 (fillT (rsS S) fq (topS S + 1)))]) (wc' := [(m0, oB 9 [.ref m1, .ref m2, .ref m3, .ref m4, .int ps, .int rn, .ref m5, .int ty, .ref m6, .ref m7, .int (nI (topS S)), .int (crM S (-1) 1 4000 x2 v3), .int ma, .int sn, .int so, .int ca, .int cm, .int kd, .ref m8]), (m1, aI g 63 (putT S ((crp S (-1) 1 4000 0 x2).1))), (m6, aI g 201 (fillT (ivS S) fi (topS S + 1)))]) ⟨hx, hb, hml, hown, hts⟩ (r_creeps l g m0 m1 m2 m3 m4 m5 m6 m7 m8 ps rn ty v3 ma sn so ca cm kd S fi x2 (-1) 1 hnl) (cwV 2 hts gX9_homes_X9_creeps rfl rfl rfl (by decide +kernel) ⟨Nat.le_of_ble_eq_true rfl, Nat.le_of_ble_eq_true rfl⟩) hE hK hP hD hS hA 1 9 rfl rfl rfl [1, 2, 3] [0] rfl rfl rfl rfl (by decide) rfl hl.1 rfl (lv_room (Nat.le_of_ble_eq_true rfl)) ⟨Nat.zero_le _, Nat.zero_le _⟩ dX9_homes_35 (fun H locs hP hD hS => ?_)
          have hP : va_P g.1 vwCl [(m7, aI g 201 (fillT (rsS S) fq (topS S + 1))), (m0, oB 9 [.ref m1, .ref m2, .ref m3, .ref m4, .int ps, .int rn, .ref m5, .int ty, .ref m6, .ref m7, .int (nI (topS S)), .int (crM S (-1) 1 4000 x2 v3), .int ma, .int sn, .int so, .int ca, .int cm, .int kd, .ref m8]), (m1, aI g 63 (putT S ((crp S (-1) 1 4000 0 x2).1))), (m6, aI g 201 (fillT (ivS S) fi (topS S + 1)))] H := hP
          have hD : va_D A [(m7, aI g 201 (fillT (rsS S) fq (topS S + 1))), (m0, oB 9 [.ref m1, .ref m2, .ref m3, .ref m4, .int ps, .int rn, .ref m5, .int ty, .ref m6, .ref m7, .int (nI (topS S)), .int (crM S (-1) 1 4000 x2 v3), .int ma, .int sn, .int so, .int ca, .int cm, .int kd, .ref m8]), (m1, aI g 63 (putT S ((crp S (-1) 1 4000 0 x2).1))), (m6, aI g 201 (fillT (ivS S) fi (topS S + 1)))] := hD
          rw [← hX3] at hP hD
          by_cases q3 : x3.2.2.1 = 1
          · refine zTop (y := nI n3) (by rw [← hX3, ← hN3]; exact if_pos q3) ?_
            rw [show (crM S (-1) 1 4000 x2 v3) = v4 from hV4.symm] at hP hD
            have hp3 : hP3 S := hQ3.mpr q3
            refine lv_istore_n (lv' := [(3, .int (nI n3)), (2, .int (nI n2)), (1, .int (nI (n1 + kSl S))), (0, .ref m0)]) hx hb dX9_homes_38 rfl hl (by decide) rfl (fun ls hl => ?_)
            refine lv_iload_n hx hb dX9_homes_39 rfl (lv_at hl 0 rfl) ?_
            refine lv_if_ge (tgt := 46) hx hb dX9_homes_40 (by decide) (fun c40 => ?_) (fun c40 => ?_)
            · refine lv_aload_n hx hb dX9_homes_46 rfl (lv_at hl 3 rfl) ?_
              refine va_get (D := g.1) (ci := 9) (v := .ref m1) (C := RX9) (T := TX9) (N := 19) hx hb hts iX9 hown hK hP 1 rfl rfl 0 (by decide) (hts (.fieldLink RX9 7 "StepAxisModel" "s" "[I") (List.mem_of_getElem? (i := 2) rfl)) (fun _ h9 => h9) rfl dX9_homes_47 ?_
              refine lv_bipush (v := 10) hx hb dX9_homes_50 (by decide +kernel) ?_
              refine lv_iconst (v := 0) hx hb dX9_homes_52 (by decide +kernel) ?_
              refine zast (k := 10) hx hb hK hP hD hS 2 0 rfl rfl (IX.lit (by decide +kernel)) dX9_homes_53 (fun H locs hP hD hS => ?_)
              have hP : va_P g.1 vwCl [(m7, aI g 201 (fillT (rsS S) fq (topS S + 1))), (m0, oB 9 [.ref m1, .ref m2, .ref m3, .ref m4, .int ps, .int rn, .ref m5, .int ty, .ref m6, .ref m7, .int (nI (topS S)), .int v4, .int ma, .int sn, .int so, .int ca, .int cm, .int kd, .ref m8]), (m1, aI g 63 (upd (putT S x3) 10 0)), (m6, aI g 201 (fillT (ivS S) fi (topS S + 1)))] H := hP
              have hD : va_D A [(m7, aI g 201 (fillT (rsS S) fq (topS S + 1))), (m0, oB 9 [.ref m1, .ref m2, .ref m3, .ref m4, .int ps, .int rn, .ref m5, .int ty, .ref m6, .ref m7, .int (nI (topS S)), .int v4, .int ma, .int sn, .int so, .int ca, .int cm, .int kd, .ref m8]), (m1, aI g 63 (upd (putT S x3) 10 0)), (m6, aI g 201 (fillT (ivS S) fi (topS S + 1)))] := hD
              refine lv_aload_n hx hb dX9_homes_54 rfl (lv_at hl 3 rfl) ?_
              refine va_get (D := g.1) (ci := 9) (v := .ref m1) (C := RX9) (T := TX9) (N := 19) hx hb hts iX9 hown hK hP 1 rfl rfl 0 (by decide) (hts (.fieldLink RX9 7 "StepAxisModel" "s" "[I") (List.mem_of_getElem? (i := 2) rfl)) (fun _ h9 => h9) rfl dX9_homes_55 ?_
              refine lv_bipush (v := 13) hx hb dX9_homes_58 (by decide +kernel) ?_
              refine lv_iconst (v := 1) hx hb dX9_homes_60 (by decide +kernel) ?_
              refine zast (k := 13) hx hb hK hP hD hS 2 0 rfl rfl (IX.lit (by decide +kernel)) dX9_homes_61 (fun H locs hP hD hS => ?_)
              have hP : va_P g.1 vwCl [(m7, aI g 201 (fillT (rsS S) fq (topS S + 1))), (m0, oB 9 [.ref m1, .ref m2, .ref m3, .ref m4, .int ps, .int rn, .ref m5, .int ty, .ref m6, .ref m7, .int (nI (topS S)), .int v4, .int ma, .int sn, .int so, .int ca, .int cm, .int kd, .ref m8]), (m1, aI g 63 (upd (upd (putT S x3) 10 0) 13 1)), (m6, aI g 201 (fillT (ivS S) fi (topS S + 1)))] H := hP
              have hD : va_D A [(m7, aI g 201 (fillT (rsS S) fq (topS S + 1))), (m0, oB 9 [.ref m1, .ref m2, .ref m3, .ref m4, .int ps, .int rn, .ref m5, .int ty, .ref m6, .ref m7, .int (nI (topS S)), .int v4, .int ma, .int sn, .int so, .int ca, .int cm, .int kd, .ref m8]), (m1, aI g 63 (upd (upd (putT S x3) 10 0) 13 1)), (m6, aI g 201 (fillT (ivS S) fi (topS S + 1)))] := hD
              refine lv_aload_n hx hb dX9_homes_62 rfl (lv_at hl 3 rfl) ?_
              refine va_get (D := g.1) (ci := 9) (v := .ref m1) (C := RX9) (T := TX9) (N := 19) hx hb hts iX9 hown hK hP 1 rfl rfl 0 (by decide) (hts (.fieldLink RX9 7 "StepAxisModel" "s" "[I") (List.mem_of_getElem? (i := 2) rfl)) (fun _ h9 => h9) rfl dX9_homes_63 ?_
              refine lv_bipush (v := 12) hx hb dX9_homes_66 (by decide +kernel) ?_
              refine lv_aload_n hx hb dX9_homes_68 rfl (lv_at hl 3 rfl) ?_
              refine va_get (D := g.1) (ci := 9) (v := .ref m1) (C := RX9) (T := TX9) (N := 19) hx hb hts iX9 hown hK hP 1 rfl rfl 0 (by decide) (hts (.fieldLink RX9 7 "StepAxisModel" "s" "[I") (List.mem_of_getElem? (i := 2) rfl)) (fun _ h9 => h9) rfl dX9_homes_69 ?_
              refine lv_bipush (v := 11) hx hb dX9_homes_72 (by decide +kernel) ?_
              refine zald (k := 11) hx hb hK hP 2 0 rfl rfl (IX.lit (by decide +kernel)) dX9_homes_74 ?_
              refine zTop (y := (putT S x3) 11) rfl ?_
              refine zTop (y := x3.2.1) rfl ?_
              refine lv_ineg hx hb dX9_homes_75 ?_
              refine zast (k := 12) hx hb hK hP hD hS 2 0 rfl rfl (IX.lit (by decide +kernel)) dX9_homes_76 (fun H locs hP hD hS => ?_)
              have hP : va_P g.1 vwCl [(m7, aI g 201 (fillT (rsS S) fq (topS S + 1))), (m0, oB 9 [.ref m1, .ref m2, .ref m3, .ref m4, .int ps, .int rn, .ref m5, .int ty, .ref m6, .ref m7, .int (nI (topS S)), .int v4, .int ma, .int sn, .int so, .int ca, .int cm, .int kd, .ref m8]), (m1, aI g 63 (upd (upd (upd (putT S x3) 10 0) 13 1) 12 (-x3.2.1))), (m6, aI g 201 (fillT (ivS S) fi (topS S + 1)))] H := hP
              have hD : va_D A [(m7, aI g 201 (fillT (rsS S) fq (topS S + 1))), (m0, oB 9 [.ref m1, .ref m2, .ref m3, .ref m4, .int ps, .int rn, .ref m5, .int ty, .ref m6, .ref m7, .int (nI (topS S)), .int v4, .int ma, .int sn, .int so, .int ca, .int cm, .int kd, .ref m8]), (m1, aI g 63 (upd (upd (upd (putT S x3) 10 0) 13 1) 12 (-x3.2.1))), (m6, aI g 201 (fillT (ivS S) fi (topS S + 1)))] := hD
              rw [show (upd (upd (upd (putT S x3) 10 0) 13 1) 12 (-x3.2.1)) = hmX S x3 from hmX_eq S x3] at hP hD
              refine lv_iload_n hx hb dX9_homes_77 rfl (lv_at hl 2 rfl) ?_
              refine lv_iload_n hx hb dX9_homes_78 rfl (lv_at hl 1 rfl) ?_
              refine lv_iadd hx hb dX9_homes_79 ?_
              refine lv_iload_n hx hb dX9_homes_80 rfl (lv_at hl 0 rfl) ?_
              refine lv_iadd hx hb dX9_homes_81 ?_
              exact zEi (v := ((nI (n1 + kSl S)) + (nI n2)) + (nI n3)) (ws' := [(m0, oB 9 [.ref m1, .ref m2, .ref m3, .ref m4, .int ps, .int rn, .ref m5, .int ty, .ref m6, .ref m7, .int (nI (topS S)), .int v4, .int ma, .int sn, .int so, .int ca, .int cm, .int kd, .ref m8]), (m1, aI g 63 (hmX S x3)), (m6, aI g 201 (fillT (ivS S) fi (topS S + 1))), (m7, aI g 201 (fillT (rsS S) fq (topS S + 1)))]) hx hb hlocks hr rfl hK hP hD hS [1, 2, 3, 0] rfl rfl (by unfold hmR; rw [if_pos (show hPP S from ⟨hp1, hp2, hp3⟩), ← hN1, hM2, hM3, nI_add, nI_add]) (by rw [show hmF S = hmX S x3 from by unfold hmF hmS; rw [if_pos (show hPP S from ⟨hp1, hp2, hp3⟩), hY3], show hmM S mn = v4 from by unfold hmM; rw [if_pos hp1, if_pos hp2, hW4]]) dX9_homes_82
            · exact absurd (nI_pos' (by omega)) c40
          · refine zTop (y := (-1000004)) (by rw [← hX3, ← hN3]; exact if_neg q3) ?_
            rw [show (crM S (-1) 1 4000 x2 v3) = v4 from hV4.symm] at hP hD
            have hn3 : ¬ hP3 S := fun h => q3 (hQ3.mp h)
            refine lv_istore_n (lv' := [(3, .int (-1000004)), (2, .int (nI n2)), (1, .int (nI (n1 + kSl S))), (0, .ref m0)]) hx hb dX9_homes_38 rfl hl (by decide) rfl (fun ls hl => ?_)
            refine lv_iload_n hx hb dX9_homes_39 rfl (lv_at hl 0 rfl) ?_
            refine lv_if_ge (tgt := 46) hx hb dX9_homes_40 (by decide) (fun c40 => ?_) (fun c40 => ?_)
            · exact absurd c40 (by decide)
            · refine lv_ldc hx hb hown (hts (.constant RX9 58 (-1000002)) (List.mem_of_getElem? (i := 1) rfl)) dX9_homes_43 ?_
              exact zEi (v := (-1000002)) (ws' := [(m0, oB 9 [.ref m1, .ref m2, .ref m3, .ref m4, .int ps, .int rn, .ref m5, .int ty, .ref m6, .ref m7, .int (nI (topS S)), .int v4, .int ma, .int sn, .int so, .int ca, .int cm, .int kd, .ref m8]), (m1, aI g 63 (putT S x3)), (m6, aI g 201 (fillT (ivS S) fi (topS S + 1))), (m7, aI g 201 (fillT (rsS S) fq (topS S + 1)))]) hx hb hlocks hr rfl hK hP hD hS [1, 2, 3, 0] rfl rfl (if_neg (show ¬ hPP S from fun h => hn3 h.2.2)).symm (by rw [show hmF S = putT S x3 from by unfold hmF hmT; rw [if_neg (show ¬ hPP S from fun h => hn3 h.2.2), if_pos hp1, if_pos hp2, hY3], show hmM S mn = v4 from by unfold hmM; rw [if_pos hp1, if_pos hp2, hW4]]) dX9_homes_45
        · exact absurd (nI_pos' (by omega)) c25
      · refine zTop (y := (-1000004)) (by rw [← hX2, ← hN2]; exact if_neg q2) ?_
        rw [show (crM S 1 0 4000 x1 v2) = v3 from hV3.symm] at hP hD
        have hn2 : ¬ hP2 S := fun h => q2 (hQ2.mp h)
        refine lv_istore_n (lv' := [(2, .int (-1000004)), (1, .int (nI (n1 + kSl S))), (0, .ref m0)]) hx hb dX9_homes_23 rfl hl (by decide) rfl (fun ls hl => ?_)
        refine lv_iload_n hx hb dX9_homes_24 rfl (lv_at hl 0 rfl) ?_
        refine lv_if_ge (tgt := 32) hx hb dX9_homes_25 (by decide) (fun c25 => ?_) (fun c25 => ?_)
        · exact absurd c25 (by decide)
        · refine lv_iload_n hx hb dX9_homes_28 rfl (lv_at hl 0 rfl) ?_
          refine lv_goto (tgt := 38) hx hb dX9_homes_29 (by decide) ?_
          refine lv_istore_n (lv' := [(3, .int (-1000004)), (2, .int (-1000004)), (1, .int (nI (n1 + kSl S))), (0, .ref m0)]) hx hb dX9_homes_38 rfl hl (by decide) rfl (fun ls hl => ?_)
          refine lv_iload_n hx hb dX9_homes_39 rfl (lv_at hl 0 rfl) ?_
          refine lv_if_ge (tgt := 46) hx hb dX9_homes_40 (by decide) (fun c40 => ?_) (fun c40 => ?_)
          · exact absurd c40 (by decide)
          · refine lv_ldc hx hb hown (hts (.constant RX9 58 (-1000002)) (List.mem_of_getElem? (i := 1) rfl)) dX9_homes_43 ?_
            exact zEi (v := (-1000002)) (ws' := [(m0, oB 9 [.ref m1, .ref m2, .ref m3, .ref m4, .int ps, .int rn, .ref m5, .int ty, .ref m6, .ref m7, .int (nI (topS S)), .int v3, .int ma, .int sn, .int so, .int ca, .int cm, .int kd, .ref m8]), (m1, aI g 63 (putT S x2)), (m6, aI g 201 (fillT (ivS S) fi (topS S + 1))), (m7, aI g 201 (fillT (rsS S) fq (topS S + 1)))]) hx hb hlocks hr rfl hK hP hD hS [1, 2, 3, 0] rfl rfl (if_neg (show ¬ hPP S from fun h => hn2 h.2.1)).symm (by rw [show hmF S = putT S x2 from by unfold hmF hmT; rw [if_neg (show ¬ hPP S from fun h => hn2 h.2.1), if_pos hp1, if_neg hn2, hY2], show hmM S mn = v3 from by unfold hmM; rw [if_pos hp1, if_neg hn2, hW3]]) dX9_homes_45
    · exact absurd (nI_pos' (by omega)) c10
set_option maxHeartbeats 4000000 in
set_option maxRecDepth 100000 in
theorem r_home (l : Launch) (g : G3) (m0 m1 m2 m3 m4 m5 m6 m7 m8 : Nat) (ps rn ty la mn ma sn so ca cm kd : Int32) (S pf tf fi fq : Nat → Int32) (hps : 0 ≤ ps.toInt ∧ ps.toInt ≤ 4) (hok : setOk S) (hnl : 0 ≤ (S 18).toInt ∧ (S 18).toInt ≤ 6) : MI l yX9_home wsX9_home (rk 5 115) g [.ref m0] [(m0, oB 9 [.ref m1, .ref m2, .ref m3, .ref m4, .int ps, .int rn, .ref m5, .int ty, .ref m6, .ref m7, .int la, .int mn, .int ma, .int sn, .int so, .int ca, .int cm, .int kd, .ref m8]), (m1, aI g 63 S), (m2, aI g 252 pf), (m4, aI g 63 tf), (m6, aI g 201 fi), (m7, aI g 201 fq)] (hmR S) [(m0, oB 9 [.ref m1, .ref m2, .ref m3, .ref m4, .int (if hPP S then psF rn ps else ps), .int rn, .ref m5, .int ty, .ref m6, .ref m7, .int (nI (topS S)), .int (if hPP S then hmM S (hmM S mn) else hmM S mn), .int ma, .int sn, .int so, .int ca, .int cm, .int kd, .ref m8]), (m1, aI g 63 (if hPP S then hmF S else S)), (m2, aI g 252 (if hPP S then pfF rn ps pf S else pf)), (m4, aI g 63 (fillT S tf 63)), (m6, aI g 201 (fillT (ivS S) fi (topS S + 1))), (m7, aI g 201 (fillT (rsS S) fq (topS S + 1)))] := by
  refine zWalk.met (Qc := fun A => zQi g (hmR S) [(m0, oB 9 [.ref m1, .ref m2, .ref m3, .ref m4, .int (if hPP S then psF rn ps else ps), .int rn, .ref m5, .int ty, .ref m6, .ref m7, .int (nI (topS S)), .int (if hPP S then hmM S (hmM S mn) else hmM S mn), .int ma, .int sn, .int so, .int ca, .int cm, .int kd, .ref m8]), (m1, aI g 63 (if hPP S then hmF S else S)), (m2, aI g 252 (if hPP S then pfF rn ps pf S else pf)), (m4, aI g 63 (fillT S tf 63)), (m6, aI g 201 (fillT (ivS S) fi (topS S + 1))), (m7, aI g 201 (fillT (rsS S) fq (topS S + 1)))] A) (cc := cX9_home) (maxL := 2) (ret := (some .int)) ?_ (by decide) rfl (Nat.le_of_ble_eq_true rfl)
  intro pg ev sx mi args below meth cd A H locs ls hx hb hr hml hown hts hlocks hA hE hK hP hD hS hl
  have iX9 : ∀ w ∈ u_ws RX9 TX9 19, w ∈ wsX9_home := (fun _ h => (List.mem_cons_of_mem _ (List.mem_append_right _ h)))
  have hl : lv_has ls 2 [(0, .ref m0)] := hl
  have hkl := kSl_le hok
  have hl1 := h1_le S
  have hl2 := h2_le S
  have hl3 := h3_le S
  refine lv_aload_n hx hb dX9_home_0 rfl (lv_at hl 0 rfl) ?_
  refine va_get (D := g.1) (ci := 9) (v := .ref m1) (C := RX9) (T := TX9) (N := 19) hx hb hts iX9 hown hK hP 0 rfl rfl 0 (by decide) (hts (.fieldLink RX9 7 "StepAxisModel" "s" "[I") (List.mem_of_getElem? (i := 1) rfl)) (fun _ h9 => h9) rfl dX9_home_1 ?_
  refine lv_aload_n hx hb dX9_home_4 rfl (lv_at hl 0 rfl) ?_
  refine va_get (D := g.1) (ci := 9) (v := .ref m4) (C := RX9) (T := TX9) (N := 19) hx hb hts iX9 hown hK hP 0 rfl rfl 3 (by decide) (hts (.fieldLink RX9 19 "StepAxisModel" "tried" "[I") (List.mem_of_getElem? (i := 2) rfl)) (fun _ h9 => h9) rfl dX9_home_5 ?_
  refine zSV (As := [.ref m1, .ref m4]) (rest := []) (wc := [(m1, aI g 63 S), (m4, aI g 63 tf)]) (wr := [(m0, oB 9 [.ref m1, .ref m2, .ref m3, .ref m4, .int ps, .int rn, .ref m5, .int ty, .ref m6, .ref m7, .int la, .int mn, .int ma, .int sn, .int so, .int ca, .int cm, .int kd, .ref m8]), (m2, aI g 252 pf), (m6, aI g 201 fi), (m7, aI g 201 fq)]) (wc' := [(m1, aI g 63 S), (m4, aI g 63 (fillT S tf 63))]) ⟨hx, hb, hml, hown, hts⟩ (r_copies l g m1 m4 S tf) (va_cwS 2 hts gX9_home_X9_copies rfl rfl rfl (by decide +kernel) ⟨Nat.le_of_ble_eq_true rfl, Nat.le_of_ble_eq_true rfl⟩) hE hK hP hD hS hA [1, 3] [0, 2, 4, 5] rfl rfl rfl rfl (by decide) rfl hl.1 rfl (lv_room (Nat.le_of_ble_eq_true rfl)) ⟨Nat.zero_le _, Nat.zero_le _⟩ dX9_home_8 (fun H locs hP hD hS => ?_)
  have hP : va_P g.1 vwCl [(m0, oB 9 [.ref m1, .ref m2, .ref m3, .ref m4, .int ps, .int rn, .ref m5, .int ty, .ref m6, .ref m7, .int la, .int mn, .int ma, .int sn, .int so, .int ca, .int cm, .int kd, .ref m8]), (m2, aI g 252 pf), (m6, aI g 201 fi), (m7, aI g 201 fq), (m1, aI g 63 S), (m4, aI g 63 (fillT S tf 63))] H := hP
  have hD : va_D A [(m0, oB 9 [.ref m1, .ref m2, .ref m3, .ref m4, .int ps, .int rn, .ref m5, .int ty, .ref m6, .ref m7, .int la, .int mn, .int ma, .int sn, .int so, .int ca, .int cm, .int kd, .ref m8]), (m2, aI g 252 pf), (m6, aI g 201 fi), (m7, aI g 201 fq), (m1, aI g 63 S), (m4, aI g 63 (fillT S tf 63))] := hD
  refine lv_aload_n hx hb dX9_home_11 rfl (lv_at hl 0 rfl) ?_
  refine zVI (As := []) (rest := []) (wc := [(m0, oB 9 [.ref m1, .ref m2, .ref m3, .ref m4, .int ps, .int rn, .ref m5, .int ty, .ref m6, .ref m7, .int la, .int mn, .int ma, .int sn, .int so, .int ca, .int cm, .int kd, .ref m8]), (m1, aI g 63 S), (m6, aI g 201 fi), (m7, aI g 201 fq)]) (wr := [(m2, aI g 252 pf), (m4, aI g 63 (fillT S tf 63))]) (wc' := [(m0, oB 9 [.ref m1, .ref m2, .ref m3, .ref m4, .int ps, .int rn, .ref m5, .int ty, .ref m6, .ref m7, .int (nI (topS S)), .int (hmM S mn), .int ma, .int sn, .int so, .int ca, .int cm, .int kd, .ref m8]), (m1, aI g 63 (hmF S)), (m6, aI g 201 (fillT (ivS S) fi (topS S + 1))), (m7, aI g 201 (fillT (rsS S) fq (topS S + 1)))]) ⟨hx, hb, hml, hown, hts⟩ (r_homes l g m0 m1 m2 m3 m4 m5 m6 m7 m8 ps rn ty la mn ma sn so ca cm kd S fi fq hok hnl) (cwV 0 hts gX9_home_X9_homes rfl rfl rfl (by decide +kernel) ⟨Nat.le_of_ble_eq_true rfl, Nat.le_of_ble_eq_true rfl⟩) hE hK hP hD hS hA 0 9 rfl rfl rfl [0, 4, 2, 3] [1, 5] rfl rfl rfl rfl (by decide) rfl hl.1 rfl (lv_room (Nat.le_of_ble_eq_true rfl)) ⟨Nat.zero_le _, Nat.zero_le _⟩ dX9_home_12 (fun H locs hP hD hS => ?_)
  have hP : va_P g.1 vwCl [(m2, aI g 252 pf), (m4, aI g 63 (fillT S tf 63)), (m0, oB 9 [.ref m1, .ref m2, .ref m3, .ref m4, .int ps, .int rn, .ref m5, .int ty, .ref m6, .ref m7, .int (nI (topS S)), .int (hmM S mn), .int ma, .int sn, .int so, .int ca, .int cm, .int kd, .ref m8]), (m1, aI g 63 (hmF S)), (m6, aI g 201 (fillT (ivS S) fi (topS S + 1))), (m7, aI g 201 (fillT (rsS S) fq (topS S + 1)))] H := hP
  have hD : va_D A [(m2, aI g 252 pf), (m4, aI g 63 (fillT S tf 63)), (m0, oB 9 [.ref m1, .ref m2, .ref m3, .ref m4, .int ps, .int rn, .ref m5, .int ty, .ref m6, .ref m7, .int (nI (topS S)), .int (hmM S mn), .int ma, .int sn, .int so, .int ca, .int cm, .int kd, .ref m8]), (m1, aI g 63 (hmF S)), (m6, aI g 201 (fillT (ivS S) fi (topS S + 1))), (m7, aI g 201 (fillT (rsS S) fq (topS S + 1)))] := hD
  by_cases qh : hPP S
  · refine zTop (y := nI ((h1 S).2 + kSl S + (h2 S).2 + (h3 S).2)) (if_pos qh) ?_
    refine lv_istore_n (lv' := [(1, .int (nI ((h1 S).2 + kSl S + (h2 S).2 + (h3 S).2))), (0, .ref m0)]) hx hb dX9_home_15 rfl hl (by decide) rfl (fun ls hl => ?_)
    refine lv_aload_n hx hb dX9_home_16 rfl (lv_at hl 1 rfl) ?_
    refine va_get (D := g.1) (ci := 9) (v := .ref m4) (C := RX9) (T := TX9) (N := 19) hx hb hts iX9 hown hK hP 2 rfl rfl 3 (by decide) (hts (.fieldLink RX9 19 "StepAxisModel" "tried" "[I") (List.mem_of_getElem? (i := 2) rfl)) (fun _ h9 => h9) rfl dX9_home_17 ?_
    refine lv_aload_n hx hb dX9_home_20 rfl (lv_at hl 1 rfl) ?_
    refine va_get (D := g.1) (ci := 9) (v := .ref m1) (C := RX9) (T := TX9) (N := 19) hx hb hts iX9 hown hK hP 2 rfl rfl 0 (by decide) (hts (.fieldLink RX9 7 "StepAxisModel" "s" "[I") (List.mem_of_getElem? (i := 1) rfl)) (fun _ h9 => h9) rfl dX9_home_21 ?_
    refine zSV (As := [.ref m4, .ref m1]) (rest := []) (wc := [(m4, aI g 63 (fillT S tf 63)), (m1, aI g 63 (hmF S))]) (wr := [(m2, aI g 252 pf), (m0, oB 9 [.ref m1, .ref m2, .ref m3, .ref m4, .int ps, .int rn, .ref m5, .int ty, .ref m6, .ref m7, .int (nI (topS S)), .int (hmM S mn), .int ma, .int sn, .int so, .int ca, .int cm, .int kd, .ref m8]), (m6, aI g 201 (fillT (ivS S) fi (topS S + 1))), (m7, aI g 201 (fillT (rsS S) fq (topS S + 1)))]) (wc' := [(m4, aI g 63 (fillT S tf 63)), (m1, aI g 63 (fillT (fillT S tf 63) (hmF S) 63))]) ⟨hx, hb, hml, hown, hts⟩ (r_copies l g m4 m1 (fillT S tf 63) (hmF S)) (va_cwS 2 hts gX9_home_X9_copies rfl rfl rfl (by decide +kernel) ⟨Nat.le_of_ble_eq_true rfl, Nat.le_of_ble_eq_true rfl⟩) hE hK hP hD hS hA [1, 3] [0, 2, 4, 5] rfl rfl rfl rfl (by decide) rfl hl.1 rfl (lv_room (Nat.le_of_ble_eq_true rfl)) ⟨Nat.zero_le _, Nat.zero_le _⟩ dX9_home_24 (fun H locs hP hD hS => ?_)
    have hP : va_P g.1 vwCl [(m2, aI g 252 pf), (m0, oB 9 [.ref m1, .ref m2, .ref m3, .ref m4, .int ps, .int rn, .ref m5, .int ty, .ref m6, .ref m7, .int (nI (topS S)), .int (hmM S mn), .int ma, .int sn, .int so, .int ca, .int cm, .int kd, .ref m8]), (m6, aI g 201 (fillT (ivS S) fi (topS S + 1))), (m7, aI g 201 (fillT (rsS S) fq (topS S + 1))), (m4, aI g 63 (fillT S tf 63)), (m1, aI g 63 (fillT (fillT S tf 63) (hmF S) 63))] H := hP
    have hD : va_D A [(m2, aI g 252 pf), (m0, oB 9 [.ref m1, .ref m2, .ref m3, .ref m4, .int ps, .int rn, .ref m5, .int ty, .ref m6, .ref m7, .int (nI (topS S)), .int (hmM S mn), .int ma, .int sn, .int so, .int ca, .int cm, .int kd, .ref m8]), (m6, aI g 201 (fillT (ivS S) fi (topS S + 1))), (m7, aI g 201 (fillT (rsS S) fq (topS S + 1))), (m4, aI g 63 (fillT S tf 63)), (m1, aI g 63 (fillT (fillT S tf 63) (hmF S) 63))] := hD
    have hP := zP_arr (f' := S) 5 rfl (fun k hk => by rw [fillT_in hk, fillT_in hk]) hP
    have hD := hD.set (p := 5) (e := aI g 63 S) rfl
    have hP : va_P g.1 vwCl [(m2, aI g 252 pf), (m0, oB 9 [.ref m1, .ref m2, .ref m3, .ref m4, .int ps, .int rn, .ref m5, .int ty, .ref m6, .ref m7, .int (nI (topS S)), .int (hmM S mn), .int ma, .int sn, .int so, .int ca, .int cm, .int kd, .ref m8]), (m6, aI g 201 (fillT (ivS S) fi (topS S + 1))), (m7, aI g 201 (fillT (rsS S) fq (topS S + 1))), (m4, aI g 63 (fillT S tf 63)), (m1, aI g 63 S)] H := hP
    have hD : va_D A [(m2, aI g 252 pf), (m0, oB 9 [.ref m1, .ref m2, .ref m3, .ref m4, .int ps, .int rn, .ref m5, .int ty, .ref m6, .ref m7, .int (nI (topS S)), .int (hmM S mn), .int ma, .int sn, .int so, .int ca, .int cm, .int kd, .ref m8]), (m6, aI g 201 (fillT (ivS S) fi (topS S + 1))), (m7, aI g 201 (fillT (rsS S) fq (topS S + 1))), (m4, aI g 63 (fillT S tf 63)), (m1, aI g 63 S)] := hD
    refine lv_iload_n hx hb dX9_home_27 rfl (lv_at hl 0 rfl) ?_
    refine lv_if_ge (tgt := 33) hx hb dX9_home_28 (by decide) (fun c28 => ?_) (fun c28 => ?_)
    · refine lv_aload_n hx hb dX9_home_33 rfl (lv_at hl 1 rfl) ?_
      refine zVV (As := []) (rest := []) (wc := [(m0, oB 9 [.ref m1, .ref m2, .ref m3, .ref m4, .int ps, .int rn, .ref m5, .int ty, .ref m6, .ref m7, .int (nI (topS S)), .int (hmM S mn), .int ma, .int sn, .int so, .int ca, .int cm, .int kd, .ref m8]), (m1, aI g 63 S), (m2, aI g 252 pf)]) (wr := [(m6, aI g 201 (fillT (ivS S) fi (topS S + 1))), (m7, aI g 201 (fillT (rsS S) fq (topS S + 1))), (m4, aI g 63 (fillT S tf 63))]) (wc' := [(m0, oB 9 [.ref m1, .ref m2, .ref m3, .ref m4, .int (psF rn ps), .int rn, .ref m5, .int ty, .ref m6, .ref m7, .int (nI (topS S)), .int (hmM S mn), .int ma, .int sn, .int so, .int ca, .int cm, .int kd, .ref m8]), (m1, aI g 63 S), (m2, aI g 252 (pfF rn ps pf S))]) ⟨hx, hb, hml, hown, hts⟩ (r_changes l g m0 m1 m2 m3 m4 m5 m6 m7 m8 ps rn ty (nI (topS S)) (hmM S mn) ma sn so ca cm kd S pf hps) (cwV 0 hts gX9_home_X9_changes rfl rfl rfl (by decide +kernel) ⟨Nat.le_of_ble_eq_true rfl, Nat.le_of_ble_eq_true rfl⟩) hE hK hP hD hS hA 1 9 rfl rfl rfl [1, 5, 0] [2, 3, 4] rfl rfl rfl rfl (by decide) rfl hl.1 rfl (lv_room (Nat.le_of_ble_eq_true rfl)) ⟨Nat.zero_le _, Nat.zero_le _⟩ dX9_home_34 (fun H locs hP hD hS => ?_)
      have hP : va_P g.1 vwCl [(m6, aI g 201 (fillT (ivS S) fi (topS S + 1))), (m7, aI g 201 (fillT (rsS S) fq (topS S + 1))), (m4, aI g 63 (fillT S tf 63)), (m0, oB 9 [.ref m1, .ref m2, .ref m3, .ref m4, .int (psF rn ps), .int rn, .ref m5, .int ty, .ref m6, .ref m7, .int (nI (topS S)), .int (hmM S mn), .int ma, .int sn, .int so, .int ca, .int cm, .int kd, .ref m8]), (m1, aI g 63 S), (m2, aI g 252 (pfF rn ps pf S))] H := hP
      have hD : va_D A [(m6, aI g 201 (fillT (ivS S) fi (topS S + 1))), (m7, aI g 201 (fillT (rsS S) fq (topS S + 1))), (m4, aI g 63 (fillT S tf 63)), (m0, oB 9 [.ref m1, .ref m2, .ref m3, .ref m4, .int (psF rn ps), .int rn, .ref m5, .int ty, .ref m6, .ref m7, .int (nI (topS S)), .int (hmM S mn), .int ma, .int sn, .int so, .int ca, .int cm, .int kd, .ref m8]), (m1, aI g 63 S), (m2, aI g 252 (pfF rn ps pf S))] := hD
      refine lv_aload_n hx hb dX9_home_37 rfl (lv_at hl 1 rfl) ?_
      refine zVI (As := []) (rest := []) (wc := [(m0, oB 9 [.ref m1, .ref m2, .ref m3, .ref m4, .int (psF rn ps), .int rn, .ref m5, .int ty, .ref m6, .ref m7, .int (nI (topS S)), .int (hmM S mn), .int ma, .int sn, .int so, .int ca, .int cm, .int kd, .ref m8]), (m1, aI g 63 S), (m6, aI g 201 (fillT (ivS S) fi (topS S + 1))), (m7, aI g 201 (fillT (rsS S) fq (topS S + 1)))]) (wr := [(m4, aI g 63 (fillT S tf 63)), (m2, aI g 252 (pfF rn ps pf S))]) (wc' := [(m0, oB 9 [.ref m1, .ref m2, .ref m3, .ref m4, .int (psF rn ps), .int rn, .ref m5, .int ty, .ref m6, .ref m7, .int (nI (topS S)), .int (hmM S (hmM S mn)), .int ma, .int sn, .int so, .int ca, .int cm, .int kd, .ref m8]), (m1, aI g 63 (hmF S)), (m6, aI g 201 (fillT (ivS S) (fillT (ivS S) fi (topS S + 1)) (topS S + 1))), (m7, aI g 201 (fillT (rsS S) (fillT (rsS S) fq (topS S + 1)) (topS S + 1)))]) ⟨hx, hb, hml, hown, hts⟩ (r_homes l g m0 m1 m2 m3 m4 m5 m6 m7 m8 (psF rn ps) rn ty (nI (topS S)) (hmM S mn) ma sn so ca cm kd S (fillT (ivS S) fi (topS S + 1)) (fillT (rsS S) fq (topS S + 1)) hok hnl) (cwV 0 hts gX9_home_X9_homes rfl rfl rfl (by decide +kernel) ⟨Nat.le_of_ble_eq_true rfl, Nat.le_of_ble_eq_true rfl⟩) hE hK hP hD hS hA 3 9 rfl rfl rfl [3, 4, 0, 1] [2, 5] rfl rfl rfl rfl (by decide) rfl hl.1 rfl (lv_room (Nat.le_of_ble_eq_true rfl)) ⟨Nat.zero_le _, Nat.zero_le _⟩ dX9_home_38 (fun H locs hP hD hS => ?_)
      have hP : va_P g.1 vwCl [(m4, aI g 63 (fillT S tf 63)), (m2, aI g 252 (pfF rn ps pf S)), (m0, oB 9 [.ref m1, .ref m2, .ref m3, .ref m4, .int (psF rn ps), .int rn, .ref m5, .int ty, .ref m6, .ref m7, .int (nI (topS S)), .int (hmM S (hmM S mn)), .int ma, .int sn, .int so, .int ca, .int cm, .int kd, .ref m8]), (m1, aI g 63 (hmF S)), (m6, aI g 201 (fillT (ivS S) (fillT (ivS S) fi (topS S + 1)) (topS S + 1))), (m7, aI g 201 (fillT (rsS S) (fillT (rsS S) fq (topS S + 1)) (topS S + 1)))] H := hP
      have hD : va_D A [(m4, aI g 63 (fillT S tf 63)), (m2, aI g 252 (pfF rn ps pf S)), (m0, oB 9 [.ref m1, .ref m2, .ref m3, .ref m4, .int (psF rn ps), .int rn, .ref m5, .int ty, .ref m6, .ref m7, .int (nI (topS S)), .int (hmM S (hmM S mn)), .int ma, .int sn, .int so, .int ca, .int cm, .int kd, .ref m8]), (m1, aI g 63 (hmF S)), (m6, aI g 201 (fillT (ivS S) (fillT (ivS S) fi (topS S + 1)) (topS S + 1))), (m7, aI g 201 (fillT (rsS S) (fillT (rsS S) fq (topS S + 1)) (topS S + 1)))] := hD
      rw [show (fillT (ivS S) (fillT (ivS S) fi (topS S + 1)) (topS S + 1)) = fillT (ivS S) fi (topS S + 1) from fillT_2 _ _ _] at hP hD
      rw [show (fillT (rsS S) (fillT (rsS S) fq (topS S + 1)) (topS S + 1)) = fillT (rsS S) fq (topS S + 1) from fillT_2 _ _ _] at hP hD
      exact zEi (v := hmR S) (ws' := [(m0, oB 9 [.ref m1, .ref m2, .ref m3, .ref m4, .int (psF rn ps), .int rn, .ref m5, .int ty, .ref m6, .ref m7, .int (nI (topS S)), .int (hmM S (hmM S mn)), .int ma, .int sn, .int so, .int ca, .int cm, .int kd, .ref m8]), (m1, aI g 63 (hmF S)), (m2, aI g 252 (pfF rn ps pf S)), (m4, aI g 63 (fillT S tf 63)), (m6, aI g 201 (fillT (ivS S) fi (topS S + 1))), (m7, aI g 201 (fillT (rsS S) fq (topS S + 1)))]) hx hb hlocks hr rfl hK hP hD hS [2, 3, 1, 0, 4, 5] rfl rfl rfl (by simp only [if_pos qh]) dX9_home_41
    · exact absurd (nI_pos' (by omega)) c28
  · refine zTop (y := (-1000002)) (if_neg qh) ?_
    refine lv_istore_n (lv' := [(1, .int (-1000002)), (0, .ref m0)]) hx hb dX9_home_15 rfl hl (by decide) rfl (fun ls hl => ?_)
    refine lv_aload_n hx hb dX9_home_16 rfl (lv_at hl 1 rfl) ?_
    refine va_get (D := g.1) (ci := 9) (v := .ref m4) (C := RX9) (T := TX9) (N := 19) hx hb hts iX9 hown hK hP 2 rfl rfl 3 (by decide) (hts (.fieldLink RX9 19 "StepAxisModel" "tried" "[I") (List.mem_of_getElem? (i := 2) rfl)) (fun _ h9 => h9) rfl dX9_home_17 ?_
    refine lv_aload_n hx hb dX9_home_20 rfl (lv_at hl 1 rfl) ?_
    refine va_get (D := g.1) (ci := 9) (v := .ref m1) (C := RX9) (T := TX9) (N := 19) hx hb hts iX9 hown hK hP 2 rfl rfl 0 (by decide) (hts (.fieldLink RX9 7 "StepAxisModel" "s" "[I") (List.mem_of_getElem? (i := 1) rfl)) (fun _ h9 => h9) rfl dX9_home_21 ?_
    refine zSV (As := [.ref m4, .ref m1]) (rest := []) (wc := [(m4, aI g 63 (fillT S tf 63)), (m1, aI g 63 (hmF S))]) (wr := [(m2, aI g 252 pf), (m0, oB 9 [.ref m1, .ref m2, .ref m3, .ref m4, .int ps, .int rn, .ref m5, .int ty, .ref m6, .ref m7, .int (nI (topS S)), .int (hmM S mn), .int ma, .int sn, .int so, .int ca, .int cm, .int kd, .ref m8]), (m6, aI g 201 (fillT (ivS S) fi (topS S + 1))), (m7, aI g 201 (fillT (rsS S) fq (topS S + 1)))]) (wc' := [(m4, aI g 63 (fillT S tf 63)), (m1, aI g 63 (fillT (fillT S tf 63) (hmF S) 63))]) ⟨hx, hb, hml, hown, hts⟩ (r_copies l g m4 m1 (fillT S tf 63) (hmF S)) (va_cwS 2 hts gX9_home_X9_copies rfl rfl rfl (by decide +kernel) ⟨Nat.le_of_ble_eq_true rfl, Nat.le_of_ble_eq_true rfl⟩) hE hK hP hD hS hA [1, 3] [0, 2, 4, 5] rfl rfl rfl rfl (by decide) rfl hl.1 rfl (lv_room (Nat.le_of_ble_eq_true rfl)) ⟨Nat.zero_le _, Nat.zero_le _⟩ dX9_home_24 (fun H locs hP hD hS => ?_)
    have hP : va_P g.1 vwCl [(m2, aI g 252 pf), (m0, oB 9 [.ref m1, .ref m2, .ref m3, .ref m4, .int ps, .int rn, .ref m5, .int ty, .ref m6, .ref m7, .int (nI (topS S)), .int (hmM S mn), .int ma, .int sn, .int so, .int ca, .int cm, .int kd, .ref m8]), (m6, aI g 201 (fillT (ivS S) fi (topS S + 1))), (m7, aI g 201 (fillT (rsS S) fq (topS S + 1))), (m4, aI g 63 (fillT S tf 63)), (m1, aI g 63 (fillT (fillT S tf 63) (hmF S) 63))] H := hP
    have hD : va_D A [(m2, aI g 252 pf), (m0, oB 9 [.ref m1, .ref m2, .ref m3, .ref m4, .int ps, .int rn, .ref m5, .int ty, .ref m6, .ref m7, .int (nI (topS S)), .int (hmM S mn), .int ma, .int sn, .int so, .int ca, .int cm, .int kd, .ref m8]), (m6, aI g 201 (fillT (ivS S) fi (topS S + 1))), (m7, aI g 201 (fillT (rsS S) fq (topS S + 1))), (m4, aI g 63 (fillT S tf 63)), (m1, aI g 63 (fillT (fillT S tf 63) (hmF S) 63))] := hD
    have hP := zP_arr (f' := S) 5 rfl (fun k hk => by rw [fillT_in hk, fillT_in hk]) hP
    have hD := hD.set (p := 5) (e := aI g 63 S) rfl
    have hP : va_P g.1 vwCl [(m2, aI g 252 pf), (m0, oB 9 [.ref m1, .ref m2, .ref m3, .ref m4, .int ps, .int rn, .ref m5, .int ty, .ref m6, .ref m7, .int (nI (topS S)), .int (hmM S mn), .int ma, .int sn, .int so, .int ca, .int cm, .int kd, .ref m8]), (m6, aI g 201 (fillT (ivS S) fi (topS S + 1))), (m7, aI g 201 (fillT (rsS S) fq (topS S + 1))), (m4, aI g 63 (fillT S tf 63)), (m1, aI g 63 S)] H := hP
    have hD : va_D A [(m2, aI g 252 pf), (m0, oB 9 [.ref m1, .ref m2, .ref m3, .ref m4, .int ps, .int rn, .ref m5, .int ty, .ref m6, .ref m7, .int (nI (topS S)), .int (hmM S mn), .int ma, .int sn, .int so, .int ca, .int cm, .int kd, .ref m8]), (m6, aI g 201 (fillT (ivS S) fi (topS S + 1))), (m7, aI g 201 (fillT (rsS S) fq (topS S + 1))), (m4, aI g 63 (fillT S tf 63)), (m1, aI g 63 S)] := hD
    refine lv_iload_n hx hb dX9_home_27 rfl (lv_at hl 0 rfl) ?_
    refine lv_if_ge (tgt := 33) hx hb dX9_home_28 (by decide) (fun c28 => ?_) (fun c28 => ?_)
    · exact absurd c28 (by decide)
    · refine lv_iload_n hx hb dX9_home_31 rfl (lv_at hl 0 rfl) ?_
      exact zEi (v := (-1000002)) (ws' := [(m0, oB 9 [.ref m1, .ref m2, .ref m3, .ref m4, .int ps, .int rn, .ref m5, .int ty, .ref m6, .ref m7, .int (nI (topS S)), .int (hmM S mn), .int ma, .int sn, .int so, .int ca, .int cm, .int kd, .ref m8]), (m1, aI g 63 S), (m2, aI g 252 pf), (m4, aI g 63 (fillT S tf 63)), (m6, aI g 201 (fillT (ivS S) fi (topS S + 1))), (m7, aI g 201 (fillT (rsS S) fq (topS S + 1)))]) hx hb hlocks hr rfl hK hP hD hS [1, 5, 0, 4, 2, 3] rfl rfl (if_neg qh).symm (by simp only [if_neg qh]) dX9_home_32
