set_option maxHeartbeats 4000000 in
set_option maxRecDepth 100000 in
theorem r_lays (l : Launch) (g : G3) (m0 m1 m2 m3 m4 m5 m6 m7 m8 : Nat) (ps rn ty la mn ma sn so ca cm kd : Int32) (S fi fq : Nat → Int32) (hok : setOk S) : MV l yX9_lays wsX9_lays (rk 0 0) g [.ref m0] [(m0, oB 9 [.ref m1, .ref m2, .ref m3, .ref m4, .int ps, .int rn, .ref m5, .int ty, .ref m6, .ref m7, .int la, .int mn, .int ma, .int sn, .int so, .int ca, .int cm, .int kd, .ref m8]), (m1, aI g 63 S), (m6, aI g 201 fi), (m7, aI g 201 fq)] [(m0, oB 9 [.ref m1, .ref m2, .ref m3, .ref m4, .int ps, .int rn, .ref m5, .int ty, .ref m6, .ref m7, .int (nI (topS S)), .int mn, .int ma, .int sn, .int so, .int ca, .int cm, .int kd, .ref m8]), (m1, aI g 63 S), (m6, aI g 201 (fillT (ivS S) fi (topS S + 1))), (m7, aI g 201 (fillT (rsS S) fq (topS S + 1)))] := by
  refine zWalk.met (Qc := fun A => zQv g [(m0, oB 9 [.ref m1, .ref m2, .ref m3, .ref m4, .int ps, .int rn, .ref m5, .int ty, .ref m6, .ref m7, .int (nI (topS S)), .int mn, .int ma, .int sn, .int so, .int ca, .int cm, .int kd, .ref m8]), (m1, aI g 63 S), (m6, aI g 201 (fillT (ivS S) fi (topS S + 1))), (m7, aI g 201 (fillT (rsS S) fq (topS S + 1)))] A) (cc := cX9_lays) (maxL := 3) (ret := none) ?_ (by decide) rfl (Nat.le_of_ble_eq_true rfl)
  intro pg ev sx mi args below meth cd A H locs ls hx hb hr hml hown hts hlocks hA hE hK hP hD hS hl
  have iX9 : ∀ w ∈ u_ws RX9 TX9 19, w ∈ wsX9_lays := (fun _ h => (List.mem_cons_of_mem _ (List.mem_append_right _ h)))
  have hl : lv_has ls 3 [(0, .ref m0)] := hl
  have hS2 := hok.2.2.1
  refine lv_aload_n hx hb dX9_lays_0 rfl (lv_at hl 0 rfl) ?_
  refine lv_iconst (v := 0) hx hb dX9_lays_1 (by decide +kernel) ?_
  refine va_put (D := g.1) (ci := 9) (v := .int 0) (ty := .int) (C := RX9) (T := TX9) (N := 19) hx hb hts iX9 tyX9 tyX9_ok nmX9 hown hK hP hD hS 0 rfl rfl 10 (by decide) (hts (.fieldLink RX9 63 "StepAxisModel" "last" "I") (List.mem_of_getElem? (i := 1) rfl)) (fun _ h9 => h9) rfl (by decide +kernel) rfl rfl (Nat.le_of_ble_eq_true rfl) dX9_lays_2 (fun H locs hP hD hS => ?_)
  have hP : va_P g.1 vwCl [(m0, oB 9 [.ref m1, .ref m2, .ref m3, .ref m4, .int ps, .int rn, .ref m5, .int ty, .ref m6, .ref m7, .int 0, .int mn, .int ma, .int sn, .int so, .int ca, .int cm, .int kd, .ref m8]), (m1, aI g 63 S), (m6, aI g 201 fi), (m7, aI g 201 fq)] H := hP
  have hD : va_D A [(m0, oB 9 [.ref m1, .ref m2, .ref m3, .ref m4, .int ps, .int rn, .ref m5, .int ty, .ref m6, .ref m7, .int 0, .int mn, .int ma, .int sn, .int so, .int ca, .int cm, .int kd, .ref m8]), (m1, aI g 63 S), (m6, aI g 201 fi), (m7, aI g 201 fq)] := hD
  refine lv_aload_n hx hb dX9_lays_5 rfl (lv_at hl 0 rfl) ?_
  refine va_get (D := g.1) (ci := 9) (v := .ref m6) (C := RX9) (T := TX9) (N := 19) hx hb hts iX9 hown hK hP 0 rfl rfl 8 (by decide) (hts (.fieldLink RX9 25 "StepAxisModel" "intervals" "[I") (List.mem_of_getElem? (i := 2) rfl)) (fun _ h9 => h9) rfl dX9_lays_6 ?_
  refine lv_iconst (v := 0) hx hb dX9_lays_9 (by decide +kernel) ?_
  refine lv_aload_n hx hb dX9_lays_10 rfl (lv_at hl 0 rfl) ?_
  refine va_get (D := g.1) (ci := 9) (v := .ref m1) (C := RX9) (T := TX9) (N := 19) hx hb hts iX9 hown hK hP 0 rfl rfl 0 (by decide) (hts (.fieldLink RX9 7 "StepAxisModel" "s" "[I") (List.mem_of_getElem? (i := 3) rfl)) (fun _ h9 => h9) rfl dX9_lays_11 ?_
  refine lv_iconst (v := 0) hx hb dX9_lays_14 (by decide +kernel) ?_
  refine zald (k := 0) hx hb hK hP 1 0 rfl rfl (IX.lit (by decide +kernel)) dX9_lays_15 ?_
  refine zast (k := 0) hx hb hK hP hD hS 2 0 rfl rfl (IX.lit (by decide +kernel)) dX9_lays_16 (fun H locs hP hD hS => ?_)
  have hP : va_P g.1 vwCl [(m0, oB 9 [.ref m1, .ref m2, .ref m3, .ref m4, .int ps, .int rn, .ref m5, .int ty, .ref m6, .ref m7, .int 0, .int mn, .int ma, .int sn, .int so, .int ca, .int cm, .int kd, .ref m8]), (m1, aI g 63 S), (m6, aI g 201 (upd fi 0 (S 0))), (m7, aI g 201 fq)] H := hP
  have hD : va_D A [(m0, oB 9 [.ref m1, .ref m2, .ref m3, .ref m4, .int ps, .int rn, .ref m5, .int ty, .ref m6, .ref m7, .int 0, .int mn, .int ma, .int sn, .int so, .int ca, .int cm, .int kd, .ref m8]), (m1, aI g 63 S), (m6, aI g 201 (upd fi 0 (S 0))), (m7, aI g 201 fq)] := hD
  refine lv_aload_n hx hb dX9_lays_17 rfl (lv_at hl 0 rfl) ?_
  refine va_get (D := g.1) (ci := 9) (v := .ref m7) (C := RX9) (T := TX9) (N := 19) hx hb hts iX9 hown hK hP 0 rfl rfl 9 (by decide) (hts (.fieldLink RX9 28 "StepAxisModel" "rests" "[I") (List.mem_of_getElem? (i := 4) rfl)) (fun _ h9 => h9) rfl dX9_lays_18 ?_
  refine lv_iconst (v := 0) hx hb dX9_lays_21 (by decide +kernel) ?_
  refine lv_iconst (v := 0) hx hb dX9_lays_22 (by decide +kernel) ?_
  refine zast (k := 0) hx hb hK hP hD hS 3 0 rfl rfl (IX.lit (by decide +kernel)) dX9_lays_23 (fun H locs hP hD hS => ?_)
  have hP : va_P g.1 vwCl [(m0, oB 9 [.ref m1, .ref m2, .ref m3, .ref m4, .int ps, .int rn, .ref m5, .int ty, .ref m6, .ref m7, .int 0, .int mn, .int ma, .int sn, .int so, .int ca, .int cm, .int kd, .ref m8]), (m1, aI g 63 S), (m6, aI g 201 (upd fi 0 (S 0))), (m7, aI g 201 (upd fq 0 0))] H := hP
  have hD : va_D A [(m0, oB 9 [.ref m1, .ref m2, .ref m3, .ref m4, .int ps, .int rn, .ref m5, .int ty, .ref m6, .ref m7, .int 0, .int mn, .int ma, .int sn, .int so, .int ca, .int cm, .int kd, .ref m8]), (m1, aI g 63 S), (m6, aI g 201 (upd fi 0 (S 0))), (m7, aI g 201 (upd fq 0 0))] := hD
  rw [show upd fi 0 (S 0) = fillT (ivS S) fi (0 + 1) from fillT_1 (ivS_z S)] at hP hD
  rw [show upd fq 0 0 = fillT (rsS S) fq (0 + 1) from fillT_1 (rsS_z S)] at hP hD
  have lp24 : ∀ (fu : Nat) (k : Nat), (k ≤ (S 2).toInt.toNat) → (∀ j, j < k → S 1 < ivS S j) → ((S 2).toInt.toNat - k) < fu → ∀ (H : Heap) (locs : List Loc), va_P g.1 vwCl [(m0, oB 9 [.ref m1, .ref m2, .ref m3, .ref m4, .int ps, .int rn, .ref m5, .int ty, .ref m6, .ref m7, .int (nI k), .int mn, .int ma, .int sn, .int so, .int ca, .int cm, .int kd, .ref m8]), (m1, aI g 63 S), (m6, aI g 201 (fillT (ivS S) fi (k + 1))), (m7, aI g 201 (fillT (rsS S) fq (k + 1)))] H → va_D A [(m0, oB 9 [.ref m1, .ref m2, .ref m3, .ref m4, .int ps, .int rn, .ref m5, .int ty, .ref m6, .ref m7, .int (nI k), .int mn, .int ma, .int sn, .int so, .int ca, .int cm, .int kd, .ref m8]), (m1, aI g 63 S), (m6, aI g 201 (fillT (ivS S) fi (k + 1))), (m7, aI g 201 (fillT (rsS S) fq (k + 1)))] → va_S A sx.heap H locs → ∀ (ls : Array Slot), lv_has ls 3 [(0, .ref m0)] → W pg l ev (rk 0 0) sx mi args below meth cd H locs 0 0 (MQ below (zQv g [(m0, oB 9 [.ref m1, .ref m2, .ref m3, .ref m4, .int ps, .int rn, .ref m5, .int ty, .ref m6, .ref m7, .int (nI (topS S)), .int mn, .int ma, .int sn, .int so, .int ca, .int cm, .int kd, .ref m8]), (m1, aI g 63 S), (m6, aI g 201 (fillT (ivS S) fi (topS S + 1))), (m7, aI g 201 (fillT (rsS S) fq (topS S + 1)))] A) args sx 0 0 A) (F0 mi 24 ls []) := by
    intro fu
    induction fu with
    | zero =>
      intro k hk hall hmu
      exact absurd hmu (Nat.not_lt_zero _)
    | succ fu ih =>
      intro k hk hall hmu H locs hP hD hS ls hl
      refine lv_aload_n hx hb dX9_lays_24 rfl (lv_at hl 0 rfl) ?_
      refine va_get (D := g.1) (ci := 9) (v := .ref m6) (C := RX9) (T := TX9) (N := 19) hx hb hts iX9 hown hK hP 0 rfl rfl 8 (by decide) (hts (.fieldLink RX9 25 "StepAxisModel" "intervals" "[I") (List.mem_of_getElem? (i := 2) rfl)) (fun _ h9 => h9) rfl dX9_lays_25 ?_
      refine lv_aload_n hx hb dX9_lays_28 rfl (lv_at hl 0 rfl) ?_
      refine va_get (D := g.1) (ci := 9) (v := .int (nI k)) (C := RX9) (T := TX9) (N := 19) hx hb hts iX9 hown hK hP 0 rfl rfl 10 (by decide) (hts (.fieldLink RX9 63 "StepAxisModel" "last" "I") (List.mem_of_getElem? (i := 1) rfl)) (fun _ h9 => h9) rfl dX9_lays_29 ?_
      refine zald (k := k) hx hb hK hP 2 0 rfl rfl (IX.of rfl (by omega) (by decide)) dX9_lays_32 ?_
      refine zTop (y := ivS S k) (fillT_in (Nat.lt_succ_self k)) ?_
      refine lv_aload_n hx hb dX9_lays_33 rfl (lv_at hl 0 rfl) ?_
      refine va_get (D := g.1) (ci := 9) (v := .ref m1) (C := RX9) (T := TX9) (N := 19) hx hb hts iX9 hown hK hP 0 rfl rfl 0 (by decide) (hts (.fieldLink RX9 7 "StepAxisModel" "s" "[I") (List.mem_of_getElem? (i := 3) rfl)) (fun _ h9 => h9) rfl dX9_lays_34 ?_
      refine lv_iconst (v := 1) hx hb dX9_lays_37 (by decide +kernel) ?_
      refine zald (k := 1) hx hb hK hP 1 0 rfl rfl (IX.lit (by decide +kernel)) dX9_lays_38 ?_
      refine lv_icmp_le (tgt := 161) hx hb dX9_lays_39 (by decide) (fun c39 => ?_) (fun c39 => ?_)
      · have c39n : ¬ S 1 < ivS S k := zgt c39
        exact zEv (ws' := [(m0, oB 9 [.ref m1, .ref m2, .ref m3, .ref m4, .int ps, .int rn, .ref m5, .int ty, .ref m6, .ref m7, .int (nI k), .int mn, .int ma, .int sn, .int so, .int ca, .int cm, .int kd, .ref m8]), (m1, aI g 63 S), (m6, aI g 201 (fillT (ivS S) fi (k + 1))), (m7, aI g 201 (fillT (rsS S) fq (k + 1)))]) hx hb hlocks hr hK hP hD hS [0, 1, 2, 3] rfl rfl (by rw [show topS S = k from topN_eq hk hall (Or.inr c39n)]) dX9_lays_161
      · refine lv_aload_n hx hb dX9_lays_42 rfl (lv_at hl 0 rfl) ?_
        refine va_get (D := g.1) (ci := 9) (v := .int (nI k)) (C := RX9) (T := TX9) (N := 19) hx hb hts iX9 hown hK hP 0 rfl rfl 10 (by decide) (hts (.fieldLink RX9 63 "StepAxisModel" "last" "I") (List.mem_of_getElem? (i := 1) rfl)) (fun _ h9 => h9) rfl dX9_lays_43 ?_
        refine lv_aload_n hx hb dX9_lays_46 rfl (lv_at hl 0 rfl) ?_
        refine va_get (D := g.1) (ci := 9) (v := .ref m1) (C := RX9) (T := TX9) (N := 19) hx hb hts iX9 hown hK hP 0 rfl rfl 0 (by decide) (hts (.fieldLink RX9 7 "StepAxisModel" "s" "[I") (List.mem_of_getElem? (i := 3) rfl)) (fun _ h9 => h9) rfl dX9_lays_47 ?_
        refine lv_iconst (v := 2) hx hb dX9_lays_50 (by decide +kernel) ?_
        refine zald (k := 2) hx hb hK hP 1 0 rfl rfl (IX.lit (by decide +kernel)) dX9_lays_51 ?_
        refine lv_icmp_ge (tgt := 161) hx hb dX9_lays_52 (by decide) (fun c52 => ?_) (fun c52 => ?_)
        · have hkm : k = (S 2).toInt.toNat := by rw [zle, znI (by omega)] at c52; omega
          exact zEv (ws' := [(m0, oB 9 [.ref m1, .ref m2, .ref m3, .ref m4, .int ps, .int rn, .ref m5, .int ty, .ref m6, .ref m7, .int (nI k), .int mn, .int ma, .int sn, .int so, .int ca, .int cm, .int kd, .ref m8]), (m1, aI g 63 S), (m6, aI g 201 (fillT (ivS S) fi (k + 1))), (m7, aI g 201 (fillT (rsS S) fq (k + 1)))]) hx hb hlocks hr hK hP hD hS [0, 1, 2, 3] rfl rfl (by rw [show topS S = k from topN_eq hk hall (Or.inl hkm)]) dX9_lays_161
        · have hlt : k + 1 ≤ (S 2).toInt.toNat := by rw [zle, znI (by omega)] at c52; omega
          have h200 : k + 1 ≤ 200 := by omega
          refine lv_iconst (v := 2) hx hb dX9_lays_55 (by decide +kernel) ?_
          refine lv_aload_n hx hb dX9_lays_56 rfl (lv_at hl 0 rfl) ?_
          refine va_get (D := g.1) (ci := 9) (v := .ref m6) (C := RX9) (T := TX9) (N := 19) hx hb hts iX9 hown hK hP 0 rfl rfl 8 (by decide) (hts (.fieldLink RX9 25 "StepAxisModel" "intervals" "[I") (List.mem_of_getElem? (i := 2) rfl)) (fun _ h9 => h9) rfl dX9_lays_57 ?_
          refine lv_aload_n hx hb dX9_lays_60 rfl (lv_at hl 0 rfl) ?_
          refine va_get (D := g.1) (ci := 9) (v := .int (nI k)) (C := RX9) (T := TX9) (N := 19) hx hb hts iX9 hown hK hP 0 rfl rfl 10 (by decide) (hts (.fieldLink RX9 63 "StepAxisModel" "last" "I") (List.mem_of_getElem? (i := 1) rfl)) (fun _ h9 => h9) rfl dX9_lays_61 ?_
          refine zald (k := k) hx hb hK hP 2 0 rfl rfl (IX.of rfl (by omega) (by decide)) dX9_lays_64 ?_
          refine zTop (y := ivS S k) (fillT_in (Nat.lt_succ_self k)) ?_
          refine lv_imul hx hb dX9_lays_65 ?_
          refine lv_aload_n hx hb dX9_lays_66 rfl (lv_at hl 0 rfl) ?_
          refine va_get (D := g.1) (ci := 9) (v := .ref m7) (C := RX9) (T := TX9) (N := 19) hx hb hts iX9 hown hK hP 0 rfl rfl 9 (by decide) (hts (.fieldLink RX9 28 "StepAxisModel" "rests" "[I") (List.mem_of_getElem? (i := 4) rfl)) (fun _ h9 => h9) rfl dX9_lays_67 ?_
          refine lv_aload_n hx hb dX9_lays_70 rfl (lv_at hl 0 rfl) ?_
          refine va_get (D := g.1) (ci := 9) (v := .int (nI k)) (C := RX9) (T := TX9) (N := 19) hx hb hts iX9 hown hK hP 0 rfl rfl 10 (by decide) (hts (.fieldLink RX9 63 "StepAxisModel" "last" "I") (List.mem_of_getElem? (i := 1) rfl)) (fun _ h9 => h9) rfl dX9_lays_71 ?_
          refine zald (k := k) hx hb hK hP 3 0 rfl rfl (IX.of rfl (by omega) (by decide)) dX9_lays_74 ?_
          refine zTop (y := rsS S k) (fillT_in (Nat.lt_succ_self k)) ?_
          refine lv_iadd hx hb dX9_lays_75 ?_
          refine lv_istore_n (lv' := [(1, .int ((2 * (ivS S k)) + (rsS S k))), (0, .ref m0)]) hx hb dX9_lays_76 rfl hl (by decide) rfl (fun ls hl => ?_)
          refine lv_aload_n hx hb dX9_lays_77 rfl (lv_at hl 1 rfl) ?_
          refine lv_dup hx hb dX9_lays_78 rfl ?_
          refine va_get (D := g.1) (ci := 9) (v := .int (nI k)) (C := RX9) (T := TX9) (N := 19) hx hb hts iX9 hown hK hP 0 rfl rfl 10 (by decide) (hts (.fieldLink RX9 63 "StepAxisModel" "last" "I") (List.mem_of_getElem? (i := 1) rfl)) (fun _ h9 => h9) rfl dX9_lays_79 ?_
          refine lv_iconst (v := 1) hx hb dX9_lays_82 (by decide +kernel) ?_
          refine lv_iadd hx hb dX9_lays_83 ?_
          refine zTop (y := nI (k + 1)) (nI_1 k) ?_
          refine va_put (D := g.1) (ci := 9) (v := .int (nI (k + 1))) (ty := .int) (C := RX9) (T := TX9) (N := 19) hx hb hts iX9 tyX9 tyX9_ok nmX9 hown hK hP hD hS 0 rfl rfl 10 (by decide) (hts (.fieldLink RX9 63 "StepAxisModel" "last" "I") (List.mem_of_getElem? (i := 1) rfl)) (fun _ h9 => h9) rfl (by decide +kernel) rfl rfl (Nat.le_of_ble_eq_true rfl) dX9_lays_84 (fun H locs hP hD hS => ?_)
          have hP : va_P g.1 vwCl [(m0, oB 9 [.ref m1, .ref m2, .ref m3, .ref m4, .int ps, .int rn, .ref m5, .int ty, .ref m6, .ref m7, .int (nI (k + 1)), .int mn, .int ma, .int sn, .int so, .int ca, .int cm, .int kd, .ref m8]), (m1, aI g 63 S), (m6, aI g 201 (fillT (ivS S) fi (k + 1))), (m7, aI g 201 (fillT (rsS S) fq (k + 1)))] H := hP
          have hD : va_D A [(m0, oB 9 [.ref m1, .ref m2, .ref m3, .ref m4, .int ps, .int rn, .ref m5, .int ty, .ref m6, .ref m7, .int (nI (k + 1)), .int mn, .int ma, .int sn, .int so, .int ca, .int cm, .int kd, .ref m8]), (m1, aI g 63 S), (m6, aI g 201 (fillT (ivS S) fi (k + 1))), (m7, aI g 201 (fillT (rsS S) fq (k + 1)))] := hD
          refine lv_aload_n hx hb dX9_lays_87 rfl (lv_at hl 1 rfl) ?_
          refine va_get (D := g.1) (ci := 9) (v := .ref m6) (C := RX9) (T := TX9) (N := 19) hx hb hts iX9 hown hK hP 0 rfl rfl 8 (by decide) (hts (.fieldLink RX9 25 "StepAxisModel" "intervals" "[I") (List.mem_of_getElem? (i := 2) rfl)) (fun _ h9 => h9) rfl dX9_lays_88 ?_
          refine lv_aload_n hx hb dX9_lays_91 rfl (lv_at hl 1 rfl) ?_
          refine va_get (D := g.1) (ci := 9) (v := .int (nI (k + 1))) (C := RX9) (T := TX9) (N := 19) hx hb hts iX9 hown hK hP 0 rfl rfl 10 (by decide) (hts (.fieldLink RX9 63 "StepAxisModel" "last" "I") (List.mem_of_getElem? (i := 1) rfl)) (fun _ h9 => h9) rfl dX9_lays_92 ?_
          refine lv_iconst (v := 1) hx hb dX9_lays_95 (by decide +kernel) ?_
          refine lv_isub hx hb dX9_lays_96 ?_
          refine zald (k := k) hx hb hK hP 2 0 rfl rfl (IX.of (nI_pred k) (by omega) (by decide)) dX9_lays_97 ?_
          refine zTop (y := ivS S k) (fillT_in (Nat.lt_succ_self k)) ?_
          refine lv_iload_n hx hb dX9_lays_98 rfl (lv_at hl 0 rfl) ?_
          refine lv_iconst (v := 4) hx hb dX9_lays_99 (by decide +kernel) ?_
          refine lv_aload_n hx hb dX9_lays_100 rfl (lv_at hl 1 rfl) ?_
          refine va_get (D := g.1) (ci := 9) (v := .int (nI (k + 1))) (C := RX9) (T := TX9) (N := 19) hx hb hts iX9 hown hK hP 0 rfl rfl 10 (by decide) (hts (.fieldLink RX9 63 "StepAxisModel" "last" "I") (List.mem_of_getElem? (i := 1) rfl)) (fun _ h9 => h9) rfl dX9_lays_101 ?_
          refine lv_imul hx hb dX9_lays_104 ?_
          refine lv_iconst (v := 1) hx hb dX9_lays_105 (by decide +kernel) ?_
          refine lv_iadd hx hb dX9_lays_106 ?_
          refine zTop (y := rD k) (rD_s k) ?_
          refine lv_idiv hx hb dX9_lays_107 (rD_ne (by omega)) ?_
          refine lv_isub hx hb dX9_lays_108 ?_
          refine lv_istore_n (lv' := [(2, .int ((ivS S k) - (((2 * (ivS S k)) + (rsS S k)) / (rD k)))), (1, .int ((2 * (ivS S k)) + (rsS S k))), (0, .ref m0)]) hx hb dX9_lays_109 rfl hl (by decide) rfl (fun ls hl => ?_)
          refine lv_aload_n hx hb dX9_lays_110 rfl (lv_at hl 2 rfl) ?_
          refine va_get (D := g.1) (ci := 9) (v := .ref m7) (C := RX9) (T := TX9) (N := 19) hx hb hts iX9 hown hK hP 0 rfl rfl 9 (by decide) (hts (.fieldLink RX9 28 "StepAxisModel" "rests" "[I") (List.mem_of_getElem? (i := 4) rfl)) (fun _ h9 => h9) rfl dX9_lays_111 ?_
          refine lv_aload_n hx hb dX9_lays_114 rfl (lv_at hl 2 rfl) ?_
          refine va_get (D := g.1) (ci := 9) (v := .int (nI (k + 1))) (C := RX9) (T := TX9) (N := 19) hx hb hts iX9 hown hK hP 0 rfl rfl 10 (by decide) (hts (.fieldLink RX9 63 "StepAxisModel" "last" "I") (List.mem_of_getElem? (i := 1) rfl)) (fun _ h9 => h9) rfl dX9_lays_115 ?_
          refine lv_iload_n hx hb dX9_lays_118 rfl (lv_at hl 1 rfl) ?_
          refine lv_iconst (v := 4) hx hb dX9_lays_119 (by decide +kernel) ?_
          refine lv_aload_n hx hb dX9_lays_120 rfl (lv_at hl 2 rfl) ?_
          refine va_get (D := g.1) (ci := 9) (v := .int (nI (k + 1))) (C := RX9) (T := TX9) (N := 19) hx hb hts iX9 hown hK hP 0 rfl rfl 10 (by decide) (hts (.fieldLink RX9 63 "StepAxisModel" "last" "I") (List.mem_of_getElem? (i := 1) rfl)) (fun _ h9 => h9) rfl dX9_lays_121 ?_
          refine lv_imul hx hb dX9_lays_124 ?_
          refine lv_iconst (v := 1) hx hb dX9_lays_125 (by decide +kernel) ?_
          refine lv_iadd hx hb dX9_lays_126 ?_
          refine zTop (y := rD k) (rD_s k) ?_
          refine lv_irem hx hb dX9_lays_127 (rD_ne (by omega)) ?_
          refine zast (k := (k + 1)) hx hb hK hP hD hS 3 0 rfl rfl (IX.of rfl (by omega) (by decide)) dX9_lays_128 (fun H locs hP hD hS => ?_)
          have hP : va_P g.1 vwCl [(m0, oB 9 [.ref m1, .ref m2, .ref m3, .ref m4, .int ps, .int rn, .ref m5, .int ty, .ref m6, .ref m7, .int (nI (k + 1)), .int mn, .int ma, .int sn, .int so, .int ca, .int cm, .int kd, .ref m8]), (m1, aI g 63 S), (m6, aI g 201 (fillT (ivS S) fi (k + 1))), (m7, aI g 201 (upd (fillT (rsS S) fq (k + 1)) (k + 1) (((2 * (ivS S k)) + (rsS S k)) - ((2 * (ivS S k)) + (rsS S k)) / (rD k) * (rD k))))] H := hP
          have hD : va_D A [(m0, oB 9 [.ref m1, .ref m2, .ref m3, .ref m4, .int ps, .int rn, .ref m5, .int ty, .ref m6, .ref m7, .int (nI (k + 1)), .int mn, .int ma, .int sn, .int so, .int ca, .int cm, .int kd, .ref m8]), (m1, aI g 63 S), (m6, aI g 201 (fillT (ivS S) fi (k + 1))), (m7, aI g 201 (upd (fillT (rsS S) fq (k + 1)) (k + 1) (((2 * (ivS S k)) + (rsS S k)) - ((2 * (ivS S k)) + (rsS S k)) / (rD k) * (rD k))))] := hD
          rw [show upd (fillT (rsS S) fq (k + 1)) (k + 1) (((2 * (ivS S k)) + (rsS S k)) - ((2 * (ivS S k)) + (rsS S k)) / (rD k) * (rD k)) = fillT (rsS S) fq (k + 1 + 1) from fillT_upd (rsS_s S k)] at hP hD
          refine lv_aload_n hx hb dX9_lays_129 rfl (lv_at hl 2 rfl) ?_
          refine va_get (D := g.1) (ci := 9) (v := .ref m6) (C := RX9) (T := TX9) (N := 19) hx hb hts iX9 hown hK hP 0 rfl rfl 8 (by decide) (hts (.fieldLink RX9 25 "StepAxisModel" "intervals" "[I") (List.mem_of_getElem? (i := 2) rfl)) (fun _ h9 => h9) rfl dX9_lays_130 ?_
          refine lv_aload_n hx hb dX9_lays_133 rfl (lv_at hl 2 rfl) ?_
          refine va_get (D := g.1) (ci := 9) (v := .int (nI (k + 1))) (C := RX9) (T := TX9) (N := 19) hx hb hts iX9 hown hK hP 0 rfl rfl 10 (by decide) (hts (.fieldLink RX9 63 "StepAxisModel" "last" "I") (List.mem_of_getElem? (i := 1) rfl)) (fun _ h9 => h9) rfl dX9_lays_134 ?_
          refine lv_iload_n hx hb dX9_lays_137 rfl (lv_at hl 0 rfl) ?_
          refine lv_aload_n hx hb dX9_lays_138 rfl (lv_at hl 2 rfl) ?_
          refine va_get (D := g.1) (ci := 9) (v := .ref m1) (C := RX9) (T := TX9) (N := 19) hx hb hts iX9 hown hK hP 0 rfl rfl 0 (by decide) (hts (.fieldLink RX9 7 "StepAxisModel" "s" "[I") (List.mem_of_getElem? (i := 3) rfl)) (fun _ h9 => h9) rfl dX9_lays_139 ?_
          refine lv_iconst (v := 1) hx hb dX9_lays_142 (by decide +kernel) ?_
          refine zald (k := 1) hx hb hK hP 1 0 rfl rfl (IX.lit (by decide +kernel)) dX9_lays_143 ?_
          refine lv_icmp_le (tgt := 151) hx hb dX9_lays_144 (by decide) (fun c144 => ?_) (fun c144 => ?_)
          · refine lv_aload_n hx hb dX9_lays_151 rfl (lv_at hl 2 rfl) ?_
            refine va_get (D := g.1) (ci := 9) (v := .ref m1) (C := RX9) (T := TX9) (N := 19) hx hb hts iX9 hown hK hP 0 rfl rfl 0 (by decide) (hts (.fieldLink RX9 7 "StepAxisModel" "s" "[I") (List.mem_of_getElem? (i := 3) rfl)) (fun _ h9 => h9) rfl dX9_lays_152 ?_
            refine lv_iconst (v := 1) hx hb dX9_lays_155 (by decide +kernel) ?_
            refine zald (k := 1) hx hb hK hP 1 0 rfl rfl (IX.lit (by decide +kernel)) dX9_lays_156 ?_
            refine zast (k := (k + 1)) hx hb hK hP hD hS 2 0 rfl rfl (IX.of rfl (by omega) (by decide)) dX9_lays_157 (fun H locs hP hD hS => ?_)
            have hP : va_P g.1 vwCl [(m0, oB 9 [.ref m1, .ref m2, .ref m3, .ref m4, .int ps, .int rn, .ref m5, .int ty, .ref m6, .ref m7, .int (nI (k + 1)), .int mn, .int ma, .int sn, .int so, .int ca, .int cm, .int kd, .ref m8]), (m1, aI g 63 S), (m6, aI g 201 (upd (fillT (ivS S) fi (k + 1)) (k + 1) (S 1))), (m7, aI g 201 (fillT (rsS S) fq (k + 1 + 1)))] H := hP
            have hD : va_D A [(m0, oB 9 [.ref m1, .ref m2, .ref m3, .ref m4, .int ps, .int rn, .ref m5, .int ty, .ref m6, .ref m7, .int (nI (k + 1)), .int mn, .int ma, .int sn, .int so, .int ca, .int cm, .int kd, .ref m8]), (m1, aI g 63 S), (m6, aI g 201 (upd (fillT (ivS S) fi (k + 1)) (k + 1) (S 1))), (m7, aI g 201 (fillT (rsS S) fq (k + 1 + 1)))] := hD
            rw [show upd (fillT (ivS S) fi (k + 1)) (k + 1) (S 1) = fillT (ivS S) fi (k + 1 + 1) from fillT_upd ((if_neg (zgt c144)).symm.trans (ivS_s S k))] at hP hD
            refine lv_goto (tgt := 24) hx hb dX9_lays_158 (by decide) ?_
            exact ih (k + 1) hlt (fun j hj => (Nat.lt_or_ge j k).elim (fun h => hall j h) (fun h => by rw [show j = k by omega]; exact znle c39)) (by omega) _ _ (zP_sub hP [0, 1, 2, 3] rfl) (hD.sub [0, 1, 2, 3] rfl rfl) hS ls (lv_sub hl [2] rfl)
          · refine lv_iload_n hx hb dX9_lays_147 rfl (lv_at hl 0 rfl) ?_
            refine lv_goto (tgt := 157) hx hb dX9_lays_148 (by decide) ?_
            refine zast (k := (k + 1)) hx hb hK hP hD hS 2 0 rfl rfl (IX.of rfl (by omega) (by decide)) dX9_lays_157 (fun H locs hP hD hS => ?_)
            have hP : va_P g.1 vwCl [(m0, oB 9 [.ref m1, .ref m2, .ref m3, .ref m4, .int ps, .int rn, .ref m5, .int ty, .ref m6, .ref m7, .int (nI (k + 1)), .int mn, .int ma, .int sn, .int so, .int ca, .int cm, .int kd, .ref m8]), (m1, aI g 63 S), (m6, aI g 201 (upd (fillT (ivS S) fi (k + 1)) (k + 1) ((ivS S k) - (((2 * (ivS S k)) + (rsS S k)) / (rD k))))), (m7, aI g 201 (fillT (rsS S) fq (k + 1 + 1)))] H := hP
            have hD : va_D A [(m0, oB 9 [.ref m1, .ref m2, .ref m3, .ref m4, .int ps, .int rn, .ref m5, .int ty, .ref m6, .ref m7, .int (nI (k + 1)), .int mn, .int ma, .int sn, .int so, .int ca, .int cm, .int kd, .ref m8]), (m1, aI g 63 S), (m6, aI g 201 (upd (fillT (ivS S) fi (k + 1)) (k + 1) ((ivS S k) - (((2 * (ivS S k)) + (rsS S k)) / (rD k))))), (m7, aI g 201 (fillT (rsS S) fq (k + 1 + 1)))] := hD
            rw [show upd (fillT (ivS S) fi (k + 1)) (k + 1) ((ivS S k) - (((2 * (ivS S k)) + (rsS S k)) / (rD k))) = fillT (ivS S) fi (k + 1 + 1) from fillT_upd ((if_pos (znle c144)).symm.trans (ivS_s S k))] at hP hD
            refine lv_goto (tgt := 24) hx hb dX9_lays_158 (by decide) ?_
            exact ih (k + 1) hlt (fun j hj => (Nat.lt_or_ge j k).elim (fun h => hall j h) (fun h => by rw [show j = k by omega]; exact znle c39)) (by omega) _ _ (zP_sub hP [0, 1, 2, 3] rfl) (hD.sub [0, 1, 2, 3] rfl rfl) hS ls (lv_sub hl [2] rfl)
  exact lp24 (((S 2).toInt.toNat - 0) + 1) 0 (Nat.zero_le _) (fun j h => absurd h (Nat.not_lt_zero j)) (Nat.lt_succ_self _) _ _ (zP_sub hP [0, 1, 2, 3] rfl) (hD.sub [0, 1, 2, 3] rfl rfl) hS ls (lv_sub hl [0] rfl)
set_option maxHeartbeats 4000000 in
set_option maxRecDepth 100000 in
theorem r_goes (l : Launch) (g : G3) (m0 m1 m2 m3 m4 m5 m6 m7 m8 : Nat) (ps rn ty mn ma sn so ca cm kd : Int32) (S fi : Nat → Int32) (pl : Int32) (hok : setOk S) (hnl : 0 ≤ (S 18).toInt ∧ (S 18).toInt ≤ 6) (hto : okP (S 10)) (hpl : okP pl) : MI l yX9_goes wsX9_goes (rk 3 68) g [.ref m0, .int pl] [(m0, oB 9 [.ref m1, .ref m2, .ref m3, .ref m4, .int ps, .int rn, .ref m5, .int ty, .ref m6, .ref m7, .int (nI (topS S)), .int mn, .int ma, .int sn, .int so, .int ca, .int cm, .int kd, .ref m8]), (m1, aI g 63 S), (m6, aI g 201 (fillT (ivS S) fi (topS S + 1)))] (nI (dist (S 10) pl)) [(m0, oB 9 [.ref m1, .ref m2, .ref m3, .ref m4, .int ps, .int rn, .ref m5, .int ty, .ref m6, .ref m7, .int (nI (topS S)), .int (gmis S (topS S) (dist (S 10) pl) (dirT (S 10) pl) (dist (S 10) pl)), .int (gat S (topS S) (dist (S 10) pl) (dirT (S 10) pl) (dist (S 10) pl)), .int (gsp S (topS S) (dist (S 10) pl) (dist (S 10) pl)), .int so, .int ca, .int cm, .int kd, .ref m8]), (m1, aI g 63 (putT S (gst S (topS S) (dist (S 10) pl) (dirT (S 10) pl) (dist (S 10) pl)))), (m6, aI g 201 (fillT (ivS S) fi (topS S + 1)))] := by
  refine zWalk.met (Qc := fun A => zQi g (nI (dist (S 10) pl)) [(m0, oB 9 [.ref m1, .ref m2, .ref m3, .ref m4, .int ps, .int rn, .ref m5, .int ty, .ref m6, .ref m7, .int (nI (topS S)), .int (gmis S (topS S) (dist (S 10) pl) (dirT (S 10) pl) (dist (S 10) pl)), .int (gat S (topS S) (dist (S 10) pl) (dirT (S 10) pl) (dist (S 10) pl)), .int (gsp S (topS S) (dist (S 10) pl) (dist (S 10) pl)), .int so, .int ca, .int cm, .int kd, .ref m8]), (m1, aI g 63 (putT S (gst S (topS S) (dist (S 10) pl) (dirT (S 10) pl) (dist (S 10) pl)))), (m6, aI g 201 (fillT (ivS S) fi (topS S + 1)))] A) (cc := cX9_goes) (maxL := 8) (ret := (some .int)) ?_ (by decide) rfl (Nat.le_of_ble_eq_true rfl)
  intro pg ev sx mi args below meth cd A H locs ls hx hb hr hml hown hts hlocks hA hE hK hP hD hS hl
  have iX9 : ∀ w ∈ u_ws RX9 TX9 19, w ∈ wsX9_goes := (fun _ h => (List.mem_cons_of_mem _ (List.mem_append_right _ h)))
  have hl : lv_has ls 8 [(0, .ref m0), (1, .int pl)] := hl
  have h200 : topS S ≤ 200 := topS_le hok
  obtain ⟨D, hDe⟩ : ∃ D, D = dist (S 10) pl := ⟨_, rfl⟩
  have hDD : D ≤ 8000 := by rw [hDe]; exact dist_le hto hpl
  obtain ⟨dir, hdir⟩ : ∃ dir, dir = dirT (S 10) pl := ⟨_, rfl⟩
  rw [← hDe, ← hdir]
  refine lv_iload_n hx hb dX9_goes_0 rfl (lv_at hl 1 rfl) ?_
  refine lv_aload_n hx hb dX9_goes_1 rfl (lv_at hl 0 rfl) ?_
  refine va_get (D := g.1) (ci := 9) (v := .ref m1) (C := RX9) (T := TX9) (N := 19) hx hb hts iX9 hown hK hP 0 rfl rfl 0 (by decide) (hts (.fieldLink RX9 7 "StepAxisModel" "s" "[I") (List.mem_of_getElem? (i := 1) rfl)) (fun _ h9 => h9) rfl dX9_goes_2 ?_
  refine lv_bipush (v := 10) hx hb dX9_goes_5 (by decide +kernel) ?_
  refine zald (k := 10) hx hb hK hP 1 0 rfl rfl (IX.lit (by decide +kernel)) dX9_goes_7 ?_
  refine lv_isub hx hb dX9_goes_8 ?_
  refine lv_istore_n (lv' := [(2, .int (pl - (S 10))), (0, .ref m0), (1, .int pl)]) hx hb dX9_goes_9 rfl hl (by decide) rfl (fun ls hl => ?_)
  refine lv_iload_n hx hb dX9_goes_10 rfl (lv_at hl 0 rfl) ?_
  have j19 : ∀ (H : Heap) (locs : List Loc), va_P g.1 vwCl [(m0, oB 9 [.ref m1, .ref m2, .ref m3, .ref m4, .int ps, .int rn, .ref m5, .int ty, .ref m6, .ref m7, .int (nI (topS S)), .int mn, .int ma, .int sn, .int so, .int ca, .int cm, .int kd, .ref m8]), (m1, aI g 63 S), (m6, aI g 201 (fillT (ivS S) fi (topS S + 1)))] H → va_D A [(m0, oB 9 [.ref m1, .ref m2, .ref m3, .ref m4, .int ps, .int rn, .ref m5, .int ty, .ref m6, .ref m7, .int (nI (topS S)), .int mn, .int ma, .int sn, .int so, .int ca, .int cm, .int kd, .ref m8]), (m1, aI g 63 S), (m6, aI g 201 (fillT (ivS S) fi (topS S + 1)))] → va_S A sx.heap H locs → ∀ (ls : Array Slot), lv_has ls 8 [(2, .int (pl - (S 10))), (0, .ref m0), (1, .int pl)] → W pg l ev (rk 3 68) sx mi args below meth cd H locs 0 0 (MQ below (zQi g (nI D) [(m0, oB 9 [.ref m1, .ref m2, .ref m3, .ref m4, .int ps, .int rn, .ref m5, .int ty, .ref m6, .ref m7, .int (nI (topS S)), .int (gmis S (topS S) D dir D), .int (gat S (topS S) D dir D), .int (gsp S (topS S) D D), .int so, .int ca, .int cm, .int kd, .ref m8]), (m1, aI g 63 (putT S (gst S (topS S) D dir D))), (m6, aI g 201 (fillT (ivS S) fi (topS S + 1)))] A) args sx 0 0 A) (F0 mi 19 ls [.int dir]) := by
    intro H locs hP hD hS ls hl
    refine lv_istore_n (lv' := [(3, .int dir), (2, .int (pl - (S 10))), (0, .ref m0), (1, .int pl)]) hx hb dX9_goes_19 rfl hl (by decide) rfl (fun ls hl => ?_)
    refine lv_iload_n hx hb dX9_goes_20 rfl (lv_at hl 1 rfl) ?_
    refine lv_iload_n hx hb dX9_goes_21 rfl (lv_at hl 0 rfl) ?_
    refine lv_imul hx hb dX9_goes_22 ?_
    refine zTop (y := nI D) (by rw [hdir, hDe]; exact way_many hto hpl) ?_
    refine lv_istore (lv' := [(4, .int (nI D)), (3, .int dir), (2, .int (pl - (S 10))), (0, .ref m0), (1, .int pl)]) hx hb dX9_goes_23 hl (by decide) rfl (fun ls hl => ?_)
    refine lv_aload_n hx hb dX9_goes_25 rfl (lv_at hl 3 rfl) ?_
    refine lv_iconst (v := 0) hx hb dX9_goes_26 (by decide +kernel) ?_
    refine va_put (D := g.1) (ci := 9) (v := .int 0) (ty := .int) (C := RX9) (T := TX9) (N := 19) hx hb hts iX9 tyX9 tyX9_ok nmX9 hown hK hP hD hS 0 rfl rfl 11 (by decide) (hts (.fieldLink RX9 80 "StepAxisModel" "missedNow" "I") (List.mem_of_getElem? (i := 2) rfl)) (fun _ h9 => h9) rfl (by decide +kernel) rfl rfl (Nat.le_of_ble_eq_true rfl) dX9_goes_27 (fun H locs hP hD hS => ?_)
    have hP : va_P g.1 vwCl [(m0, oB 9 [.ref m1, .ref m2, .ref m3, .ref m4, .int ps, .int rn, .ref m5, .int ty, .ref m6, .ref m7, .int (nI (topS S)), .int 0, .int ma, .int sn, .int so, .int ca, .int cm, .int kd, .ref m8]), (m1, aI g 63 S), (m6, aI g 201 (fillT (ivS S) fi (topS S + 1)))] H := hP
    have hD : va_D A [(m0, oB 9 [.ref m1, .ref m2, .ref m3, .ref m4, .int ps, .int rn, .ref m5, .int ty, .ref m6, .ref m7, .int (nI (topS S)), .int 0, .int ma, .int sn, .int so, .int ca, .int cm, .int kd, .ref m8]), (m1, aI g 63 S), (m6, aI g 201 (fillT (ivS S) fi (topS S + 1)))] := hD
    refine lv_aload_n hx hb dX9_goes_30 rfl (lv_at hl 3 rfl) ?_
    refine lv_ldc hx hb hown (hts (.constant RX9 59 (-1000004)) (List.mem_of_getElem? (i := 3) rfl)) dX9_goes_31 ?_
    refine va_put (D := g.1) (ci := 9) (v := .int (-1000004)) (ty := .int) (C := RX9) (T := TX9) (N := 19) hx hb hts iX9 tyX9 tyX9_ok nmX9 hown hK hP hD hS 0 rfl rfl 12 (by decide) (hts (.fieldLink RX9 83 "StepAxisModel" "missedAt" "I") (List.mem_of_getElem? (i := 4) rfl)) (fun _ h9 => h9) rfl (by decide +kernel) rfl rfl (Nat.le_of_ble_eq_true rfl) dX9_goes_33 (fun H locs hP hD hS => ?_)
    have hP : va_P g.1 vwCl [(m0, oB 9 [.ref m1, .ref m2, .ref m3, .ref m4, .int ps, .int rn, .ref m5, .int ty, .ref m6, .ref m7, .int (nI (topS S)), .int 0, .int (-1000004), .int sn, .int so, .int ca, .int cm, .int kd, .ref m8]), (m1, aI g 63 S), (m6, aI g 201 (fillT (ivS S) fi (topS S + 1)))] H := hP
    have hD : va_D A [(m0, oB 9 [.ref m1, .ref m2, .ref m3, .ref m4, .int ps, .int rn, .ref m5, .int ty, .ref m6, .ref m7, .int (nI (topS S)), .int 0, .int (-1000004), .int sn, .int so, .int ca, .int cm, .int kd, .ref m8]), (m1, aI g 63 S), (m6, aI g 201 (fillT (ivS S) fi (topS S + 1)))] := hD
    refine lv_aload_n hx hb dX9_goes_36 rfl (lv_at hl 3 rfl) ?_
    refine lv_iconst (v := 0) hx hb dX9_goes_37 (by decide +kernel) ?_
    refine va_put (D := g.1) (ci := 9) (v := .int 0) (ty := .int) (C := RX9) (T := TX9) (N := 19) hx hb hts iX9 tyX9 tyX9_ok nmX9 hown hK hP hD hS 0 rfl rfl 13 (by decide) (hts (.fieldLink RX9 86 "StepAxisModel" "spent" "I") (List.mem_of_getElem? (i := 5) rfl)) (fun _ h9 => h9) rfl (by decide +kernel) rfl rfl (Nat.le_of_ble_eq_true rfl) dX9_goes_38 (fun H locs hP hD hS => ?_)
    have hP : va_P g.1 vwCl [(m0, oB 9 [.ref m1, .ref m2, .ref m3, .ref m4, .int ps, .int rn, .ref m5, .int ty, .ref m6, .ref m7, .int (nI (topS S)), .int 0, .int (-1000004), .int 0, .int so, .int ca, .int cm, .int kd, .ref m8]), (m1, aI g 63 S), (m6, aI g 201 (fillT (ivS S) fi (topS S + 1)))] H := hP
    have hD : va_D A [(m0, oB 9 [.ref m1, .ref m2, .ref m3, .ref m4, .int ps, .int rn, .ref m5, .int ty, .ref m6, .ref m7, .int (nI (topS S)), .int 0, .int (-1000004), .int 0, .int so, .int ca, .int cm, .int kd, .ref m8]), (m1, aI g 63 S), (m6, aI g 201 (fillT (ivS S) fi (topS S + 1)))] := hD
    refine lv_iconst (v := 0) hx hb dX9_goes_41 (by decide +kernel) ?_
    refine lv_istore (lv' := [(5, .int 0), (4, .int (nI D)), (3, .int dir), (2, .int (pl - (S 10))), (0, .ref m0), (1, .int pl)]) hx hb dX9_goes_42 hl (by decide) rfl (fun ls hl => ?_)
    have hP := zP_arr (f' := putT S (gst S (topS S) D dir 0)) 1 rfl (fun k hk => by rw [show gst S (topS S) D dir 0 = getT S from by rw [gst], putT_get]) hP
    have hD := hD.set (p := 1) (e := aI g 63 (putT S (gst S (topS S) D dir 0))) rfl
    have hP : va_P g.1 vwCl [(m0, oB 9 [.ref m1, .ref m2, .ref m3, .ref m4, .int ps, .int rn, .ref m5, .int ty, .ref m6, .ref m7, .int (nI (topS S)), .int 0, .int (-1000004), .int 0, .int so, .int ca, .int cm, .int kd, .ref m8]), (m1, aI g 63 (putT S (gst S (topS S) D dir 0))), (m6, aI g 201 (fillT (ivS S) fi (topS S + 1)))] H := hP
    have hD : va_D A [(m0, oB 9 [.ref m1, .ref m2, .ref m3, .ref m4, .int ps, .int rn, .ref m5, .int ty, .ref m6, .ref m7, .int (nI (topS S)), .int 0, .int (-1000004), .int 0, .int so, .int ca, .int cm, .int kd, .ref m8]), (m1, aI g 63 (putT S (gst S (topS S) D dir 0))), (m6, aI g 201 (fillT (ivS S) fi (topS S + 1)))] := hD
    have hP : va_P g.1 vwCl [(m0, oB 9 [.ref m1, .ref m2, .ref m3, .ref m4, .int ps, .int rn, .ref m5, .int ty, .ref m6, .ref m7, .int (nI (topS S)), .int (gmis S (topS S) D dir 0), .int (gat S (topS S) D dir 0), .int (gsp S (topS S) D 0), .int so, .int ca, .int cm, .int kd, .ref m8]), (m1, aI g 63 (putT S (gst S (topS S) D dir 0))), (m6, aI g 201 (fillT (ivS S) fi (topS S + 1)))] H := by rw [show gmis S (topS S) D dir 0 = 0 from by rw [gmis], show gat S (topS S) D dir 0 = -1000004 from by rw [gat], show gsp S (topS S) D 0 = 0 from by rw [gsp]]; exact hP
    have hD : va_D A [(m0, oB 9 [.ref m1, .ref m2, .ref m3, .ref m4, .int ps, .int rn, .ref m5, .int ty, .ref m6, .ref m7, .int (nI (topS S)), .int (gmis S (topS S) D dir 0), .int (gat S (topS S) D dir 0), .int (gsp S (topS S) D 0), .int so, .int ca, .int cm, .int kd, .ref m8]), (m1, aI g 63 (putT S (gst S (topS S) D dir 0))), (m6, aI g 201 (fillT (ivS S) fi (topS S + 1)))] := by rw [show gmis S (topS S) D dir 0 = 0 from by rw [gmis], show gat S (topS S) D dir 0 = -1000004 from by rw [gat], show gsp S (topS S) D 0 = 0 from by rw [gsp]]; exact hD
    have lp44 : ∀ (fu : Nat) (k : Nat) (i : Int32), (k ≤ D) → (i = nI k) → (D - k) < fu → ∀ (H : Heap) (locs : List Loc), va_P g.1 vwCl [(m0, oB 9 [.ref m1, .ref m2, .ref m3, .ref m4, .int ps, .int rn, .ref m5, .int ty, .ref m6, .ref m7, .int (nI (topS S)), .int (gmis S (topS S) D dir k), .int (gat S (topS S) D dir k), .int (gsp S (topS S) D k), .int so, .int ca, .int cm, .int kd, .ref m8]), (m1, aI g 63 (putT S (gst S (topS S) D dir k))), (m6, aI g 201 (fillT (ivS S) fi (topS S + 1)))] H → va_D A [(m0, oB 9 [.ref m1, .ref m2, .ref m3, .ref m4, .int ps, .int rn, .ref m5, .int ty, .ref m6, .ref m7, .int (nI (topS S)), .int (gmis S (topS S) D dir k), .int (gat S (topS S) D dir k), .int (gsp S (topS S) D k), .int so, .int ca, .int cm, .int kd, .ref m8]), (m1, aI g 63 (putT S (gst S (topS S) D dir k))), (m6, aI g 201 (fillT (ivS S) fi (topS S + 1)))] → va_S A sx.heap H locs → ∀ (ls : Array Slot), lv_has ls 8 [(5, .int i), (4, .int (nI D)), (3, .int dir), (0, .ref m0)] → W pg l ev (rk 3 68) sx mi args below meth cd H locs 0 0 (MQ below (zQi g (nI D) [(m0, oB 9 [.ref m1, .ref m2, .ref m3, .ref m4, .int ps, .int rn, .ref m5, .int ty, .ref m6, .ref m7, .int (nI (topS S)), .int (gmis S (topS S) D dir D), .int (gat S (topS S) D dir D), .int (gsp S (topS S) D D), .int so, .int ca, .int cm, .int kd, .ref m8]), (m1, aI g 63 (putT S (gst S (topS S) D dir D))), (m6, aI g 201 (fillT (ivS S) fi (topS S + 1)))] A) args sx 0 0 A) (F0 mi 44 ls []) := by
      intro fu
      induction fu with
      | zero =>
        intro k i hk ei hmu
        exact absurd hmu (Nat.not_lt_zero _)
      | succ fu ih =>
        intro k i hk ei hmu H locs hP hD hS ls hl
        refine lv_iload hx hb dX9_goes_44 (lv_at hl 0 rfl) ?_
        refine lv_iload hx hb dX9_goes_46 (lv_at hl 1 rfl) ?_
        refine lv_icmp_ge (tgt := 132) hx hb dX9_goes_48 (by decide) (fun c48 => ?_) (fun c48 => ?_)
        · have hkn : k = D := Nat.le_antisymm hk (nle_of (by omega) (by omega) (by rw [ei] at c48; exact c48))
          rw [hkn] at hP hD
          refine lv_iload hx hb dX9_goes_132 (lv_at hl 1 rfl) ?_
          exact zEi (v := nI D) (ws' := [(m0, oB 9 [.ref m1, .ref m2, .ref m3, .ref m4, .int ps, .int rn, .ref m5, .int ty, .ref m6, .ref m7, .int (nI (topS S)), .int (gmis S (topS S) D dir D), .int (gat S (topS S) D dir D), .int (gsp S (topS S) D D), .int so, .int ca, .int cm, .int kd, .ref m8]), (m1, aI g 63 (putT S (gst S (topS S) D dir D))), (m6, aI g 201 (fillT (ivS S) fi (topS S + 1)))]) hx hb hlocks hr rfl hK hP hD hS [0, 1, 2] rfl rfl rfl rfl dX9_goes_134
        · have hlt : k < D := nlt_of (by omega) (by rw [ei] at c48; exact c48)
          refine lv_aload_n hx hb dX9_goes_51 rfl (lv_at hl 3 rfl) ?_
          refine lv_iload hx hb dX9_goes_52 (lv_at hl 0 rfl) ?_
          refine lv_iload hx hb dX9_goes_54 (lv_at hl 1 rfl) ?_
          refine zVI (As := [.int i, .int (nI D)]) (rest := []) (wc := [(m0, oB 9 [.ref m1, .ref m2, .ref m3, .ref m4, .int ps, .int rn, .ref m5, .int ty, .ref m6, .ref m7, .int (nI (topS S)), .int (gmis S (topS S) D dir k), .int (gat S (topS S) D dir k), .int (gsp S (topS S) D k), .int so, .int ca, .int cm, .int kd, .ref m8])]) (wr := [(m1, aI g 63 (putT S (gst S (topS S) D dir k))), (m6, aI g 201 (fillT (ivS S) fi (topS S + 1)))]) (wc' := [(m0, oB 9 [.ref m1, .ref m2, .ref m3, .ref m4, .int ps, .int rn, .ref m5, .int ty, .ref m6, .ref m7, .int (nI (topS S)), .int (gmis S (topS S) D dir k), .int (gat S (topS S) D dir k), .int (gsp S (topS S) D k), .int so, .int ca, .int cm, .int kd, .ref m8])]) ⟨hx, hb, hml, hown, hts⟩ (r_indexOf l g m0 m1 m2 m3 m4 m5 m6 m7 m8 ps rn ty (nI (topS S)) (gmis S (topS S) D dir k) (gat S (topS S) D dir k) (gsp S (topS S) D k) so ca cm kd i (nI D)) (cwV 2 hts gX9_goes_X9_indexOf rfl rfl rfl (by decide +kernel) ⟨Nat.le_of_ble_eq_true rfl, Nat.le_of_ble_eq_true rfl⟩) hE hK hP hD hS hA 0 9 rfl rfl rfl [0] [1, 2] rfl rfl rfl rfl (by decide) rfl hl.1 rfl (lv_room (Nat.le_of_ble_eq_true rfl)) ⟨Nat.zero_le _, Nat.zero_le _⟩ dX9_goes_56 (fun H locs hP hD hS => ?_)
          have hP : va_P g.1 vwCl [(m1, aI g 63 (putT S (gst S (topS S) D dir k))), (m6, aI g 201 (fillT (ivS S) fi (topS S + 1))), (m0, oB 9 [.ref m1, .ref m2, .ref m3, .ref m4, .int ps, .int rn, .ref m5, .int ty, .ref m6, .ref m7, .int (nI (topS S)), .int (gmis S (topS S) D dir k), .int (gat S (topS S) D dir k), .int (gsp S (topS S) D k), .int so, .int ca, .int cm, .int kd, .ref m8])] H := hP
          have hD : va_D A [(m1, aI g 63 (putT S (gst S (topS S) D dir k))), (m6, aI g 201 (fillT (ivS S) fi (topS S + 1))), (m0, oB 9 [.ref m1, .ref m2, .ref m3, .ref m4, .int ps, .int rn, .ref m5, .int ty, .ref m6, .ref m7, .int (nI (topS S)), .int (gmis S (topS S) D dir k), .int (gat S (topS S) D dir k), .int (gsp S (topS S) D k), .int so, .int ca, .int cm, .int kd, .ref m8])] := hD
          refine zTop (y := nI (ix (topS S) k D)) (by rw [ei]; exact idxR_eq h200 hlt hDD) ?_
          refine lv_istore (lv' := [(6, .int (nI (ix (topS S) k D))), (5, .int i), (4, .int (nI D)), (3, .int dir), (0, .ref m0)]) hx hb dX9_goes_59 hl (by decide) rfl (fun ls hl => ?_)
          refine lv_aload_n hx hb dX9_goes_61 rfl (lv_at hl 4 rfl) ?_
          refine va_get (D := g.1) (ci := 9) (v := .ref m1) (C := RX9) (T := TX9) (N := 19) hx hb hts iX9 hown hK hP 2 rfl rfl 0 (by decide) (hts (.fieldLink RX9 7 "StepAxisModel" "s" "[I") (List.mem_of_getElem? (i := 1) rfl)) (fun _ h9 => h9) rfl dX9_goes_62 ?_
          refine lv_bipush (v := 11) hx hb dX9_goes_65 (by decide +kernel) ?_
          refine zald (k := 11) hx hb hK hP 0 0 rfl rfl (IX.lit (by decide +kernel)) dX9_goes_67 ?_
          refine lv_istore (lv' := [(7, .int ((putT S (gst S (topS S) D dir k)) 11)), (6, .int (nI (ix (topS S) k D))), (5, .int i), (4, .int (nI D)), (3, .int dir), (0, .ref m0)]) hx hb dX9_goes_68 hl (by decide) rfl (fun ls hl => ?_)
          refine lv_aload_n hx hb dX9_goes_70 rfl (lv_at hl 5 rfl) ?_
          refine lv_iload_n hx hb dX9_goes_71 rfl (lv_at hl 4 rfl) ?_
          refine lv_iload hx hb dX9_goes_72 (lv_at hl 1 rfl) ?_
          refine zVI (As := [.int dir, .int (nI (ix (topS S) k D))]) (rest := []) (wc := [(m0, oB 9 [.ref m1, .ref m2, .ref m3, .ref m4, .int ps, .int rn, .ref m5, .int ty, .ref m6, .ref m7, .int (nI (topS S)), .int (gmis S (topS S) D dir k), .int (gat S (topS S) D dir k), .int (gsp S (topS S) D k), .int so, .int ca, .int cm, .int kd, .ref m8]), (m1, aI g 63 (putT S (gst S (topS S) D dir k))), (m6, aI g 201 (fillT (ivS S) fi (topS S + 1)))]) (wr := []) (wc' := [(m0, oB 9 [.ref m1, .ref m2, .ref m3, .ref m4, .int ps, .int rn, .ref m5, .int ty, .ref m6, .ref m7, .int (nI (topS S)), .int (gmis S (topS S) D dir k), .int (gat S (topS S) D dir k), .int (gsp S (topS S) D k), .int so, .int ca, .int cm, .int kd, .ref m8]), (m1, aI g 63 (putT (putT S (gst S (topS S) D dir k)) (stp (putT S (gst S (topS S) D dir k)) dir ((fillT (ivS S) fi (topS S + 1)) (ix (topS S) k D)) (puT ((putT S (gst S (topS S) D dir k)) 3) ((putT S (gst S (topS S) D dir k)) 4) (nI (ix (topS S) k D))) (getT (putT S (gst S (topS S) D dir k)))))), (m6, aI g 201 (fillT (ivS S) fi (topS S + 1)))]) ⟨hx, hb, hml, hown, hts⟩ (r_steps l g m0 m1 m2 m3 m4 m5 m6 m7 m8 ps rn ty (nI (topS S)) (gmis S (topS S) D dir k) (gat S (topS S) D dir k) (gsp S (topS S) D k) so ca cm kd (putT S (gst S (topS S) D dir k)) (fillT (ivS S) fi (topS S + 1)) dir (nI (ix (topS S) k D)) (ix (topS S) k D) hnl rfl (by have := ix_le (topS S) k D; omega)) (cwV 2 hts gX9_goes_X9_steps rfl rfl rfl (by decide +kernel) ⟨Nat.le_of_ble_eq_true rfl, Nat.le_of_ble_eq_true rfl⟩) hE hK hP hD hS hA 2 9 rfl rfl rfl [2, 0, 1] [] rfl rfl rfl rfl (by decide) rfl hl.1 rfl (lv_room (Nat.le_of_ble_eq_true rfl)) ⟨Nat.zero_le _, Nat.zero_le _⟩ dX9_goes_74 (fun H locs hP hD hS => ?_)
          have hP : va_P g.1 vwCl [(m0, oB 9 [.ref m1, .ref m2, .ref m3, .ref m4, .int ps, .int rn, .ref m5, .int ty, .ref m6, .ref m7, .int (nI (topS S)), .int (gmis S (topS S) D dir k), .int (gat S (topS S) D dir k), .int (gsp S (topS S) D k), .int so, .int ca, .int cm, .int kd, .ref m8]), (m1, aI g 63 (putT (putT S (gst S (topS S) D dir k)) (stp (putT S (gst S (topS S) D dir k)) dir ((fillT (ivS S) fi (topS S + 1)) (ix (topS S) k D)) (puT ((putT S (gst S (topS S) D dir k)) 3) ((putT S (gst S (topS S) D dir k)) 4) (nI (ix (topS S) k D))) (getT (putT S (gst S (topS S) D dir k)))))), (m6, aI g 201 (fillT (ivS S) fi (topS S + 1)))] H := hP
          have hD : va_D A [(m0, oB 9 [.ref m1, .ref m2, .ref m3, .ref m4, .int ps, .int rn, .ref m5, .int ty, .ref m6, .ref m7, .int (nI (topS S)), .int (gmis S (topS S) D dir k), .int (gat S (topS S) D dir k), .int (gsp S (topS S) D k), .int so, .int ca, .int cm, .int kd, .ref m8]), (m1, aI g 63 (putT (putT S (gst S (topS S) D dir k)) (stp (putT S (gst S (topS S) D dir k)) dir ((fillT (ivS S) fi (topS S + 1)) (ix (topS S) k D)) (puT ((putT S (gst S (topS S) D dir k)) 3) ((putT S (gst S (topS S) D dir k)) 4) (nI (ix (topS S) k D))) (getT (putT S (gst S (topS S) D dir k)))))), (m6, aI g 201 (fillT (ivS S) fi (topS S + 1)))] := hD
          have e1 : stp (putT S (gst S (topS S) D dir k)) dir (fillT (ivS S) fi (topS S + 1) (ix (topS S) k D)) (puT (putT S (gst S (topS S) D dir k) 3) (putT S (gst S (topS S) D dir k) 4) (nI (ix (topS S) k D))) (getT (putT S (gst S (topS S) D dir k))) = gst S (topS S) D dir (k + 1) := by rw [stp_put, fillT_in (Nat.lt_succ_of_le (ix_le _ _ _))]; rfl
          rw [show putT (putT S (gst S (topS S) D dir k)) (stp (putT S (gst S (topS S) D dir k)) dir ((fillT (ivS S) fi (topS S + 1)) (ix (topS S) k D)) (puT ((putT S (gst S (topS S) D dir k)) 3) ((putT S (gst S (topS S) D dir k)) 4) (nI (ix (topS S) k D))) (getT (putT S (gst S (topS S) D dir k)))) = putT S (gst S (topS S) D dir (k + 1)) from (by rw [e1, putT_put])] at hP hD
          refine zTop (y := b01 (gMs S (topS S) D dir k)) (by rw [ldS_put]; rfl) ?_
          refine lv_if_eq (tgt := 110) hx hb dX9_goes_77 (by decide) (fun c77 => ?_) (fun c77 => ?_)
          · have c77 := b01_f c77
            refine lv_aload_n hx hb dX9_goes_110 rfl (lv_at hl 5 rfl) ?_
            refine lv_dup hx hb dX9_goes_111 rfl ?_
            refine va_get (D := g.1) (ci := 9) (v := .int (gsp S (topS S) D k)) (C := RX9) (T := TX9) (N := 19) hx hb hts iX9 hown hK hP 0 rfl rfl 13 (by decide) (hts (.fieldLink RX9 86 "StepAxisModel" "spent" "I") (List.mem_of_getElem? (i := 5) rfl)) (fun _ h9 => h9) rfl dX9_goes_112 ?_
            refine lv_aload_n hx hb dX9_goes_115 rfl (lv_at hl 5 rfl) ?_
            refine va_get (D := g.1) (ci := 9) (v := .ref m6) (C := RX9) (T := TX9) (N := 19) hx hb hts iX9 hown hK hP 0 rfl rfl 8 (by decide) (hts (.fieldLink RX9 25 "StepAxisModel" "intervals" "[I") (List.mem_of_getElem? (i := 6) rfl)) (fun _ h9 => h9) rfl dX9_goes_116 ?_
            refine lv_iload hx hb dX9_goes_119 (lv_at hl 1 rfl) ?_
            refine zald (k := (ix (topS S) k D)) hx hb hK hP 2 0 rfl rfl (IX.of rfl (by have := ix_le (topS S) k D; omega) (by decide)) dX9_goes_121 ?_
            refine lv_iadd hx hb dX9_goes_122 ?_
            refine va_put (D := g.1) (ci := 9) (v := .int ((gsp S (topS S) D k) + ((fillT (ivS S) fi (topS S + 1)) (ix (topS S) k D)))) (ty := .int) (C := RX9) (T := TX9) (N := 19) hx hb hts iX9 tyX9 tyX9_ok nmX9 hown hK hP hD hS 0 rfl rfl 13 (by decide) (hts (.fieldLink RX9 86 "StepAxisModel" "spent" "I") (List.mem_of_getElem? (i := 5) rfl)) (fun _ h9 => h9) rfl (by decide +kernel) rfl rfl (Nat.le_of_ble_eq_true rfl) dX9_goes_123 (fun H locs hP hD hS => ?_)
            have hP : va_P g.1 vwCl [(m0, oB 9 [.ref m1, .ref m2, .ref m3, .ref m4, .int ps, .int rn, .ref m5, .int ty, .ref m6, .ref m7, .int (nI (topS S)), .int (gmis S (topS S) D dir k), .int (gat S (topS S) D dir k), .int ((gsp S (topS S) D k) + ((fillT (ivS S) fi (topS S + 1)) (ix (topS S) k D))), .int so, .int ca, .int cm, .int kd, .ref m8]), (m1, aI g 63 (putT S (gst S (topS S) D dir (k + 1)))), (m6, aI g 201 (fillT (ivS S) fi (topS S + 1)))] H := hP
            have hD : va_D A [(m0, oB 9 [.ref m1, .ref m2, .ref m3, .ref m4, .int ps, .int rn, .ref m5, .int ty, .ref m6, .ref m7, .int (nI (topS S)), .int (gmis S (topS S) D dir k), .int (gat S (topS S) D dir k), .int ((gsp S (topS S) D k) + ((fillT (ivS S) fi (topS S + 1)) (ix (topS S) k D))), .int so, .int ca, .int cm, .int kd, .ref m8]), (m1, aI g 63 (putT S (gst S (topS S) D dir (k + 1)))), (m6, aI g 201 (fillT (ivS S) fi (topS S + 1)))] := hD
            have eF : gat S (topS S) D dir k = gat S (topS S) D dir (k + 1) := (by rw [gat, if_neg c77])
            rw [eF] at hP hD
            have hP : va_P g.1 vwCl [(m0, oB 9 [.ref m1, .ref m2, .ref m3, .ref m4, .int ps, .int rn, .ref m5, .int ty, .ref m6, .ref m7, .int (nI (topS S)), .int (gmis S (topS S) D dir k), .int (gat S (topS S) D dir (k + 1)), .int ((gsp S (topS S) D k) + ((fillT (ivS S) fi (topS S + 1)) (ix (topS S) k D))), .int so, .int ca, .int cm, .int kd, .ref m8]), (m1, aI g 63 (putT S (gst S (topS S) D dir (k + 1)))), (m6, aI g 201 (fillT (ivS S) fi (topS S + 1)))] H := hP
            have hD : va_D A [(m0, oB 9 [.ref m1, .ref m2, .ref m3, .ref m4, .int ps, .int rn, .ref m5, .int ty, .ref m6, .ref m7, .int (nI (topS S)), .int (gmis S (topS S) D dir k), .int (gat S (topS S) D dir (k + 1)), .int ((gsp S (topS S) D k) + ((fillT (ivS S) fi (topS S + 1)) (ix (topS S) k D))), .int so, .int ca, .int cm, .int kd, .ref m8]), (m1, aI g 63 (putT S (gst S (topS S) D dir (k + 1)))), (m6, aI g 201 (fillT (ivS S) fi (topS S + 1)))] := hD
            have eF : gmis S (topS S) D dir k = gmis S (topS S) D dir (k + 1) := (by rw [gmis, if_neg c77])
            rw [eF] at hP hD
            have hP : va_P g.1 vwCl [(m0, oB 9 [.ref m1, .ref m2, .ref m3, .ref m4, .int ps, .int rn, .ref m5, .int ty, .ref m6, .ref m7, .int (nI (topS S)), .int (gmis S (topS S) D dir (k + 1)), .int (gat S (topS S) D dir (k + 1)), .int ((gsp S (topS S) D k) + ((fillT (ivS S) fi (topS S + 1)) (ix (topS S) k D))), .int so, .int ca, .int cm, .int kd, .ref m8]), (m1, aI g 63 (putT S (gst S (topS S) D dir (k + 1)))), (m6, aI g 201 (fillT (ivS S) fi (topS S + 1)))] H := hP
            have hD : va_D A [(m0, oB 9 [.ref m1, .ref m2, .ref m3, .ref m4, .int ps, .int rn, .ref m5, .int ty, .ref m6, .ref m7, .int (nI (topS S)), .int (gmis S (topS S) D dir (k + 1)), .int (gat S (topS S) D dir (k + 1)), .int ((gsp S (topS S) D k) + ((fillT (ivS S) fi (topS S + 1)) (ix (topS S) k D))), .int so, .int ca, .int cm, .int kd, .ref m8]), (m1, aI g 63 (putT S (gst S (topS S) D dir (k + 1)))), (m6, aI g 201 (fillT (ivS S) fi (topS S + 1)))] := hD
            have eF : (gsp S (topS S) D k) + ((fillT (ivS S) fi (topS S + 1)) (ix (topS S) k D)) = gsp S (topS S) D (k + 1) := (by rw [fillT_in (Nat.lt_succ_of_le (ix_le _ _ _))]; rfl)
            rw [eF] at hP hD
            have hP : va_P g.1 vwCl [(m0, oB 9 [.ref m1, .ref m2, .ref m3, .ref m4, .int ps, .int rn, .ref m5, .int ty, .ref m6, .ref m7, .int (nI (topS S)), .int (gmis S (topS S) D dir (k + 1)), .int (gat S (topS S) D dir (k + 1)), .int (gsp S (topS S) D (k + 1)), .int so, .int ca, .int cm, .int kd, .ref m8]), (m1, aI g 63 (putT S (gst S (topS S) D dir (k + 1)))), (m6, aI g 201 (fillT (ivS S) fi (topS S + 1)))] H := hP
            have hD : va_D A [(m0, oB 9 [.ref m1, .ref m2, .ref m3, .ref m4, .int ps, .int rn, .ref m5, .int ty, .ref m6, .ref m7, .int (nI (topS S)), .int (gmis S (topS S) D dir (k + 1)), .int (gat S (topS S) D dir (k + 1)), .int (gsp S (topS S) D (k + 1)), .int so, .int ca, .int cm, .int kd, .ref m8]), (m1, aI g 63 (putT S (gst S (topS S) D dir (k + 1)))), (m6, aI g 201 (fillT (ivS S) fi (topS S + 1)))] := hD
            refine lv_iinc (v := i + 1) (lv' := [(5, .int (i + 1)), (7, .int ((putT S (gst S (topS S) D dir k)) 11)), (6, .int (nI (ix (topS S) k D))), (4, .int (nI D)), (3, .int dir), (0, .ref m0)]) hx hb dX9_goes_126 hl (k := 2) rfl (by rfl) (by decide) rfl (fun ls hl => ?_)
            refine lv_goto (tgt := 44) hx hb dX9_goes_129 (by decide) ?_
            exact ih (k + 1) (i + 1) hlt (by rw [ei]; exact nI_1 k) (by omega) _ _ (zP_sub hP [0, 1, 2] rfl) (hD.sub [0, 1, 2] rfl rfl) hS ls (lv_sub hl [0, 3, 4, 5] rfl)
          · have c77 := b01_t c77
            refine lv_aload_n hx hb dX9_goes_80 rfl (lv_at hl 5 rfl) ?_
            refine lv_aload_n hx hb dX9_goes_81 rfl (lv_at hl 5 rfl) ?_
            refine va_get (D := g.1) (ci := 9) (v := .int (gmis S (topS S) D dir k)) (C := RX9) (T := TX9) (N := 19) hx hb hts iX9 hown hK hP 0 rfl rfl 11 (by decide) (hts (.fieldLink RX9 80 "StepAxisModel" "missedNow" "I") (List.mem_of_getElem? (i := 2) rfl)) (fun _ h9 => h9) rfl dX9_goes_82 ?_
            refine lv_if_ne (tgt := 93) hx hb dX9_goes_85 (by decide) (fun c85 => ?_) (fun c85 => ?_)
            · refine lv_aload_n hx hb dX9_goes_93 rfl (lv_at hl 5 rfl) ?_
              refine va_get (D := g.1) (ci := 9) (v := .int (gat S (topS S) D dir k)) (C := RX9) (T := TX9) (N := 19) hx hb hts iX9 hown hK hP 0 rfl rfl 12 (by decide) (hts (.fieldLink RX9 83 "StepAxisModel" "missedAt" "I") (List.mem_of_getElem? (i := 4) rfl)) (fun _ h9 => h9) rfl dX9_goes_94 ?_
              refine va_put (D := g.1) (ci := 9) (v := .int (gat S (topS S) D dir k)) (ty := .int) (C := RX9) (T := TX9) (N := 19) hx hb hts iX9 tyX9 tyX9_ok nmX9 hown hK hP hD hS 0 rfl rfl 12 (by decide) (hts (.fieldLink RX9 83 "StepAxisModel" "missedAt" "I") (List.mem_of_getElem? (i := 4) rfl)) (fun _ h9 => h9) rfl (by decide +kernel) rfl rfl (Nat.le_of_ble_eq_true rfl) dX9_goes_97 (fun H locs hP hD hS => ?_)
              have hP : va_P g.1 vwCl [(m0, oB 9 [.ref m1, .ref m2, .ref m3, .ref m4, .int ps, .int rn, .ref m5, .int ty, .ref m6, .ref m7, .int (nI (topS S)), .int (gmis S (topS S) D dir k), .int (gat S (topS S) D dir k), .int (gsp S (topS S) D k), .int so, .int ca, .int cm, .int kd, .ref m8]), (m1, aI g 63 (putT S (gst S (topS S) D dir (k + 1)))), (m6, aI g 201 (fillT (ivS S) fi (topS S + 1)))] H := hP
              have hD : va_D A [(m0, oB 9 [.ref m1, .ref m2, .ref m3, .ref m4, .int ps, .int rn, .ref m5, .int ty, .ref m6, .ref m7, .int (nI (topS S)), .int (gmis S (topS S) D dir k), .int (gat S (topS S) D dir k), .int (gsp S (topS S) D k), .int so, .int ca, .int cm, .int kd, .ref m8]), (m1, aI g 63 (putT S (gst S (topS S) D dir (k + 1)))), (m6, aI g 201 (fillT (ivS S) fi (topS S + 1)))] := hD
              have eF : gat S (topS S) D dir k = gat S (topS S) D dir (k + 1) := (by rw [gat, if_pos c77, if_neg c85])
              rw [eF] at hP hD
              have hP : va_P g.1 vwCl [(m0, oB 9 [.ref m1, .ref m2, .ref m3, .ref m4, .int ps, .int rn, .ref m5, .int ty, .ref m6, .ref m7, .int (nI (topS S)), .int (gmis S (topS S) D dir k), .int (gat S (topS S) D dir (k + 1)), .int (gsp S (topS S) D k), .int so, .int ca, .int cm, .int kd, .ref m8]), (m1, aI g 63 (putT S (gst S (topS S) D dir (k + 1)))), (m6, aI g 201 (fillT (ivS S) fi (topS S + 1)))] H := hP
              have hD : va_D A [(m0, oB 9 [.ref m1, .ref m2, .ref m3, .ref m4, .int ps, .int rn, .ref m5, .int ty, .ref m6, .ref m7, .int (nI (topS S)), .int (gmis S (topS S) D dir k), .int (gat S (topS S) D dir (k + 1)), .int (gsp S (topS S) D k), .int so, .int ca, .int cm, .int kd, .ref m8]), (m1, aI g 63 (putT S (gst S (topS S) D dir (k + 1)))), (m6, aI g 201 (fillT (ivS S) fi (topS S + 1)))] := hD
              refine lv_aload_n hx hb dX9_goes_100 rfl (lv_at hl 5 rfl) ?_
              refine lv_dup hx hb dX9_goes_101 rfl ?_
              refine va_get (D := g.1) (ci := 9) (v := .int (gmis S (topS S) D dir k)) (C := RX9) (T := TX9) (N := 19) hx hb hts iX9 hown hK hP 0 rfl rfl 11 (by decide) (hts (.fieldLink RX9 80 "StepAxisModel" "missedNow" "I") (List.mem_of_getElem? (i := 2) rfl)) (fun _ h9 => h9) rfl dX9_goes_102 ?_
              refine lv_iconst (v := 1) hx hb dX9_goes_105 (by decide +kernel) ?_
              refine lv_iadd hx hb dX9_goes_106 ?_
              refine va_put (D := g.1) (ci := 9) (v := .int ((gmis S (topS S) D dir k) + 1)) (ty := .int) (C := RX9) (T := TX9) (N := 19) hx hb hts iX9 tyX9 tyX9_ok nmX9 hown hK hP hD hS 0 rfl rfl 11 (by decide) (hts (.fieldLink RX9 80 "StepAxisModel" "missedNow" "I") (List.mem_of_getElem? (i := 2) rfl)) (fun _ h9 => h9) rfl (by decide +kernel) rfl rfl (Nat.le_of_ble_eq_true rfl) dX9_goes_107 (fun H locs hP hD hS => ?_)
              have hP : va_P g.1 vwCl [(m0, oB 9 [.ref m1, .ref m2, .ref m3, .ref m4, .int ps, .int rn, .ref m5, .int ty, .ref m6, .ref m7, .int (nI (topS S)), .int ((gmis S (topS S) D dir k) + 1), .int (gat S (topS S) D dir (k + 1)), .int (gsp S (topS S) D k), .int so, .int ca, .int cm, .int kd, .ref m8]), (m1, aI g 63 (putT S (gst S (topS S) D dir (k + 1)))), (m6, aI g 201 (fillT (ivS S) fi (topS S + 1)))] H := hP
              have hD : va_D A [(m0, oB 9 [.ref m1, .ref m2, .ref m3, .ref m4, .int ps, .int rn, .ref m5, .int ty, .ref m6, .ref m7, .int (nI (topS S)), .int ((gmis S (topS S) D dir k) + 1), .int (gat S (topS S) D dir (k + 1)), .int (gsp S (topS S) D k), .int so, .int ca, .int cm, .int kd, .ref m8]), (m1, aI g 63 (putT S (gst S (topS S) D dir (k + 1)))), (m6, aI g 201 (fillT (ivS S) fi (topS S + 1)))] := hD
              have eF : (gmis S (topS S) D dir k) + 1 = gmis S (topS S) D dir (k + 1) := (by rw [gmis, if_pos c77])
              rw [eF] at hP hD
              have hP : va_P g.1 vwCl [(m0, oB 9 [.ref m1, .ref m2, .ref m3, .ref m4, .int ps, .int rn, .ref m5, .int ty, .ref m6, .ref m7, .int (nI (topS S)), .int (gmis S (topS S) D dir (k + 1)), .int (gat S (topS S) D dir (k + 1)), .int (gsp S (topS S) D k), .int so, .int ca, .int cm, .int kd, .ref m8]), (m1, aI g 63 (putT S (gst S (topS S) D dir (k + 1)))), (m6, aI g 201 (fillT (ivS S) fi (topS S + 1)))] H := hP
              have hD : va_D A [(m0, oB 9 [.ref m1, .ref m2, .ref m3, .ref m4, .int ps, .int rn, .ref m5, .int ty, .ref m6, .ref m7, .int (nI (topS S)), .int (gmis S (topS S) D dir (k + 1)), .int (gat S (topS S) D dir (k + 1)), .int (gsp S (topS S) D k), .int so, .int ca, .int cm, .int kd, .ref m8]), (m1, aI g 63 (putT S (gst S (topS S) D dir (k + 1)))), (m6, aI g 201 (fillT (ivS S) fi (topS S + 1)))] := hD
              refine lv_aload_n hx hb dX9_goes_110 rfl (lv_at hl 5 rfl) ?_
              refine lv_dup hx hb dX9_goes_111 rfl ?_
              refine va_get (D := g.1) (ci := 9) (v := .int (gsp S (topS S) D k)) (C := RX9) (T := TX9) (N := 19) hx hb hts iX9 hown hK hP 0 rfl rfl 13 (by decide) (hts (.fieldLink RX9 86 "StepAxisModel" "spent" "I") (List.mem_of_getElem? (i := 5) rfl)) (fun _ h9 => h9) rfl dX9_goes_112 ?_
              refine lv_aload_n hx hb dX9_goes_115 rfl (lv_at hl 5 rfl) ?_
              refine va_get (D := g.1) (ci := 9) (v := .ref m6) (C := RX9) (T := TX9) (N := 19) hx hb hts iX9 hown hK hP 0 rfl rfl 8 (by decide) (hts (.fieldLink RX9 25 "StepAxisModel" "intervals" "[I") (List.mem_of_getElem? (i := 6) rfl)) (fun _ h9 => h9) rfl dX9_goes_116 ?_
              refine lv_iload hx hb dX9_goes_119 (lv_at hl 1 rfl) ?_
              refine zald (k := (ix (topS S) k D)) hx hb hK hP 2 0 rfl rfl (IX.of rfl (by have := ix_le (topS S) k D; omega) (by decide)) dX9_goes_121 ?_
              refine lv_iadd hx hb dX9_goes_122 ?_
              refine va_put (D := g.1) (ci := 9) (v := .int ((gsp S (topS S) D k) + ((fillT (ivS S) fi (topS S + 1)) (ix (topS S) k D)))) (ty := .int) (C := RX9) (T := TX9) (N := 19) hx hb hts iX9 tyX9 tyX9_ok nmX9 hown hK hP hD hS 0 rfl rfl 13 (by decide) (hts (.fieldLink RX9 86 "StepAxisModel" "spent" "I") (List.mem_of_getElem? (i := 5) rfl)) (fun _ h9 => h9) rfl (by decide +kernel) rfl rfl (Nat.le_of_ble_eq_true rfl) dX9_goes_123 (fun H locs hP hD hS => ?_)
              have hP : va_P g.1 vwCl [(m0, oB 9 [.ref m1, .ref m2, .ref m3, .ref m4, .int ps, .int rn, .ref m5, .int ty, .ref m6, .ref m7, .int (nI (topS S)), .int (gmis S (topS S) D dir (k + 1)), .int (gat S (topS S) D dir (k + 1)), .int ((gsp S (topS S) D k) + ((fillT (ivS S) fi (topS S + 1)) (ix (topS S) k D))), .int so, .int ca, .int cm, .int kd, .ref m8]), (m1, aI g 63 (putT S (gst S (topS S) D dir (k + 1)))), (m6, aI g 201 (fillT (ivS S) fi (topS S + 1)))] H := hP
              have hD : va_D A [(m0, oB 9 [.ref m1, .ref m2, .ref m3, .ref m4, .int ps, .int rn, .ref m5, .int ty, .ref m6, .ref m7, .int (nI (topS S)), .int (gmis S (topS S) D dir (k + 1)), .int (gat S (topS S) D dir (k + 1)), .int ((gsp S (topS S) D k) + ((fillT (ivS S) fi (topS S + 1)) (ix (topS S) k D))), .int so, .int ca, .int cm, .int kd, .ref m8]), (m1, aI g 63 (putT S (gst S (topS S) D dir (k + 1)))), (m6, aI g 201 (fillT (ivS S) fi (topS S + 1)))] := hD
              have eF : (gsp S (topS S) D k) + ((fillT (ivS S) fi (topS S + 1)) (ix (topS S) k D)) = gsp S (topS S) D (k + 1) := (by rw [fillT_in (Nat.lt_succ_of_le (ix_le _ _ _))]; rfl)
              rw [eF] at hP hD
              have hP : va_P g.1 vwCl [(m0, oB 9 [.ref m1, .ref m2, .ref m3, .ref m4, .int ps, .int rn, .ref m5, .int ty, .ref m6, .ref m7, .int (nI (topS S)), .int (gmis S (topS S) D dir (k + 1)), .int (gat S (topS S) D dir (k + 1)), .int (gsp S (topS S) D (k + 1)), .int so, .int ca, .int cm, .int kd, .ref m8]), (m1, aI g 63 (putT S (gst S (topS S) D dir (k + 1)))), (m6, aI g 201 (fillT (ivS S) fi (topS S + 1)))] H := hP
              have hD : va_D A [(m0, oB 9 [.ref m1, .ref m2, .ref m3, .ref m4, .int ps, .int rn, .ref m5, .int ty, .ref m6, .ref m7, .int (nI (topS S)), .int (gmis S (topS S) D dir (k + 1)), .int (gat S (topS S) D dir (k + 1)), .int (gsp S (topS S) D (k + 1)), .int so, .int ca, .int cm, .int kd, .ref m8]), (m1, aI g 63 (putT S (gst S (topS S) D dir (k + 1)))), (m6, aI g 201 (fillT (ivS S) fi (topS S + 1)))] := hD
              refine lv_iinc (v := i + 1) (lv' := [(5, .int (i + 1)), (7, .int ((putT S (gst S (topS S) D dir k)) 11)), (6, .int (nI (ix (topS S) k D))), (4, .int (nI D)), (3, .int dir), (0, .ref m0)]) hx hb dX9_goes_126 hl (k := 2) rfl (by rfl) (by decide) rfl (fun ls hl => ?_)
              refine lv_goto (tgt := 44) hx hb dX9_goes_129 (by decide) ?_
              exact ih (k + 1) (i + 1) hlt (by rw [ei]; exact nI_1 k) (by omega) _ _ (zP_sub hP [0, 1, 2] rfl) (hD.sub [0, 1, 2] rfl rfl) hS ls (lv_sub hl [0, 3, 4, 5] rfl)
            · refine lv_iload hx hb dX9_goes_88 (lv_at hl 0 rfl) ?_
              refine lv_goto (tgt := 97) hx hb dX9_goes_90 (by decide) ?_
              refine va_put (D := g.1) (ci := 9) (v := .int ((putT S (gst S (topS S) D dir k)) 11)) (ty := .int) (C := RX9) (T := TX9) (N := 19) hx hb hts iX9 tyX9 tyX9_ok nmX9 hown hK hP hD hS 0 rfl rfl 12 (by decide) (hts (.fieldLink RX9 83 "StepAxisModel" "missedAt" "I") (List.mem_of_getElem? (i := 4) rfl)) (fun _ h9 => h9) rfl (by decide +kernel) rfl rfl (Nat.le_of_ble_eq_true rfl) dX9_goes_97 (fun H locs hP hD hS => ?_)
              have hP : va_P g.1 vwCl [(m0, oB 9 [.ref m1, .ref m2, .ref m3, .ref m4, .int ps, .int rn, .ref m5, .int ty, .ref m6, .ref m7, .int (nI (topS S)), .int (gmis S (topS S) D dir k), .int ((putT S (gst S (topS S) D dir k)) 11), .int (gsp S (topS S) D k), .int so, .int ca, .int cm, .int kd, .ref m8]), (m1, aI g 63 (putT S (gst S (topS S) D dir (k + 1)))), (m6, aI g 201 (fillT (ivS S) fi (topS S + 1)))] H := hP
              have hD : va_D A [(m0, oB 9 [.ref m1, .ref m2, .ref m3, .ref m4, .int ps, .int rn, .ref m5, .int ty, .ref m6, .ref m7, .int (nI (topS S)), .int (gmis S (topS S) D dir k), .int ((putT S (gst S (topS S) D dir k)) 11), .int (gsp S (topS S) D k), .int so, .int ca, .int cm, .int kd, .ref m8]), (m1, aI g 63 (putT S (gst S (topS S) D dir (k + 1)))), (m6, aI g 201 (fillT (ivS S) fi (topS S + 1)))] := hD
              have eF : (putT S (gst S (topS S) D dir k)) 11 = gat S (topS S) D dir (k + 1) := (by rw [gat, if_pos c77, if_pos c85]; rfl)
              rw [eF] at hP hD
              have hP : va_P g.1 vwCl [(m0, oB 9 [.ref m1, .ref m2, .ref m3, .ref m4, .int ps, .int rn, .ref m5, .int ty, .ref m6, .ref m7, .int (nI (topS S)), .int (gmis S (topS S) D dir k), .int (gat S (topS S) D dir (k + 1)), .int (gsp S (topS S) D k), .int so, .int ca, .int cm, .int kd, .ref m8]), (m1, aI g 63 (putT S (gst S (topS S) D dir (k + 1)))), (m6, aI g 201 (fillT (ivS S) fi (topS S + 1)))] H := hP
              have hD : va_D A [(m0, oB 9 [.ref m1, .ref m2, .ref m3, .ref m4, .int ps, .int rn, .ref m5, .int ty, .ref m6, .ref m7, .int (nI (topS S)), .int (gmis S (topS S) D dir k), .int (gat S (topS S) D dir (k + 1)), .int (gsp S (topS S) D k), .int so, .int ca, .int cm, .int kd, .ref m8]), (m1, aI g 63 (putT S (gst S (topS S) D dir (k + 1)))), (m6, aI g 201 (fillT (ivS S) fi (topS S + 1)))] := hD
              refine lv_aload_n hx hb dX9_goes_100 rfl (lv_at hl 5 rfl) ?_
              refine lv_dup hx hb dX9_goes_101 rfl ?_
              refine va_get (D := g.1) (ci := 9) (v := .int (gmis S (topS S) D dir k)) (C := RX9) (T := TX9) (N := 19) hx hb hts iX9 hown hK hP 0 rfl rfl 11 (by decide) (hts (.fieldLink RX9 80 "StepAxisModel" "missedNow" "I") (List.mem_of_getElem? (i := 2) rfl)) (fun _ h9 => h9) rfl dX9_goes_102 ?_
              refine lv_iconst (v := 1) hx hb dX9_goes_105 (by decide +kernel) ?_
              refine lv_iadd hx hb dX9_goes_106 ?_
              refine va_put (D := g.1) (ci := 9) (v := .int ((gmis S (topS S) D dir k) + 1)) (ty := .int) (C := RX9) (T := TX9) (N := 19) hx hb hts iX9 tyX9 tyX9_ok nmX9 hown hK hP hD hS 0 rfl rfl 11 (by decide) (hts (.fieldLink RX9 80 "StepAxisModel" "missedNow" "I") (List.mem_of_getElem? (i := 2) rfl)) (fun _ h9 => h9) rfl (by decide +kernel) rfl rfl (Nat.le_of_ble_eq_true rfl) dX9_goes_107 (fun H locs hP hD hS => ?_)
              have hP : va_P g.1 vwCl [(m0, oB 9 [.ref m1, .ref m2, .ref m3, .ref m4, .int ps, .int rn, .ref m5, .int ty, .ref m6, .ref m7, .int (nI (topS S)), .int ((gmis S (topS S) D dir k) + 1), .int (gat S (topS S) D dir (k + 1)), .int (gsp S (topS S) D k), .int so, .int ca, .int cm, .int kd, .ref m8]), (m1, aI g 63 (putT S (gst S (topS S) D dir (k + 1)))), (m6, aI g 201 (fillT (ivS S) fi (topS S + 1)))] H := hP
              have hD : va_D A [(m0, oB 9 [.ref m1, .ref m2, .ref m3, .ref m4, .int ps, .int rn, .ref m5, .int ty, .ref m6, .ref m7, .int (nI (topS S)), .int ((gmis S (topS S) D dir k) + 1), .int (gat S (topS S) D dir (k + 1)), .int (gsp S (topS S) D k), .int so, .int ca, .int cm, .int kd, .ref m8]), (m1, aI g 63 (putT S (gst S (topS S) D dir (k + 1)))), (m6, aI g 201 (fillT (ivS S) fi (topS S + 1)))] := hD
              have eF : (gmis S (topS S) D dir k) + 1 = gmis S (topS S) D dir (k + 1) := (by rw [gmis, if_pos c77])
              rw [eF] at hP hD
              have hP : va_P g.1 vwCl [(m0, oB 9 [.ref m1, .ref m2, .ref m3, .ref m4, .int ps, .int rn, .ref m5, .int ty, .ref m6, .ref m7, .int (nI (topS S)), .int (gmis S (topS S) D dir (k + 1)), .int (gat S (topS S) D dir (k + 1)), .int (gsp S (topS S) D k), .int so, .int ca, .int cm, .int kd, .ref m8]), (m1, aI g 63 (putT S (gst S (topS S) D dir (k + 1)))), (m6, aI g 201 (fillT (ivS S) fi (topS S + 1)))] H := hP
              have hD : va_D A [(m0, oB 9 [.ref m1, .ref m2, .ref m3, .ref m4, .int ps, .int rn, .ref m5, .int ty, .ref m6, .ref m7, .int (nI (topS S)), .int (gmis S (topS S) D dir (k + 1)), .int (gat S (topS S) D dir (k + 1)), .int (gsp S (topS S) D k), .int so, .int ca, .int cm, .int kd, .ref m8]), (m1, aI g 63 (putT S (gst S (topS S) D dir (k + 1)))), (m6, aI g 201 (fillT (ivS S) fi (topS S + 1)))] := hD
              refine lv_aload_n hx hb dX9_goes_110 rfl (lv_at hl 5 rfl) ?_
              refine lv_dup hx hb dX9_goes_111 rfl ?_
              refine va_get (D := g.1) (ci := 9) (v := .int (gsp S (topS S) D k)) (C := RX9) (T := TX9) (N := 19) hx hb hts iX9 hown hK hP 0 rfl rfl 13 (by decide) (hts (.fieldLink RX9 86 "StepAxisModel" "spent" "I") (List.mem_of_getElem? (i := 5) rfl)) (fun _ h9 => h9) rfl dX9_goes_112 ?_
              refine lv_aload_n hx hb dX9_goes_115 rfl (lv_at hl 5 rfl) ?_
              refine va_get (D := g.1) (ci := 9) (v := .ref m6) (C := RX9) (T := TX9) (N := 19) hx hb hts iX9 hown hK hP 0 rfl rfl 8 (by decide) (hts (.fieldLink RX9 25 "StepAxisModel" "intervals" "[I") (List.mem_of_getElem? (i := 6) rfl)) (fun _ h9 => h9) rfl dX9_goes_116 ?_
              refine lv_iload hx hb dX9_goes_119 (lv_at hl 1 rfl) ?_
              refine zald (k := (ix (topS S) k D)) hx hb hK hP 2 0 rfl rfl (IX.of rfl (by have := ix_le (topS S) k D; omega) (by decide)) dX9_goes_121 ?_
              refine lv_iadd hx hb dX9_goes_122 ?_
              refine va_put (D := g.1) (ci := 9) (v := .int ((gsp S (topS S) D k) + ((fillT (ivS S) fi (topS S + 1)) (ix (topS S) k D)))) (ty := .int) (C := RX9) (T := TX9) (N := 19) hx hb hts iX9 tyX9 tyX9_ok nmX9 hown hK hP hD hS 0 rfl rfl 13 (by decide) (hts (.fieldLink RX9 86 "StepAxisModel" "spent" "I") (List.mem_of_getElem? (i := 5) rfl)) (fun _ h9 => h9) rfl (by decide +kernel) rfl rfl (Nat.le_of_ble_eq_true rfl) dX9_goes_123 (fun H locs hP hD hS => ?_)
              have hP : va_P g.1 vwCl [(m0, oB 9 [.ref m1, .ref m2, .ref m3, .ref m4, .int ps, .int rn, .ref m5, .int ty, .ref m6, .ref m7, .int (nI (topS S)), .int (gmis S (topS S) D dir (k + 1)), .int (gat S (topS S) D dir (k + 1)), .int ((gsp S (topS S) D k) + ((fillT (ivS S) fi (topS S + 1)) (ix (topS S) k D))), .int so, .int ca, .int cm, .int kd, .ref m8]), (m1, aI g 63 (putT S (gst S (topS S) D dir (k + 1)))), (m6, aI g 201 (fillT (ivS S) fi (topS S + 1)))] H := hP
              have hD : va_D A [(m0, oB 9 [.ref m1, .ref m2, .ref m3, .ref m4, .int ps, .int rn, .ref m5, .int ty, .ref m6, .ref m7, .int (nI (topS S)), .int (gmis S (topS S) D dir (k + 1)), .int (gat S (topS S) D dir (k + 1)), .int ((gsp S (topS S) D k) + ((fillT (ivS S) fi (topS S + 1)) (ix (topS S) k D))), .int so, .int ca, .int cm, .int kd, .ref m8]), (m1, aI g 63 (putT S (gst S (topS S) D dir (k + 1)))), (m6, aI g 201 (fillT (ivS S) fi (topS S + 1)))] := hD
              have eF : (gsp S (topS S) D k) + ((fillT (ivS S) fi (topS S + 1)) (ix (topS S) k D)) = gsp S (topS S) D (k + 1) := (by rw [fillT_in (Nat.lt_succ_of_le (ix_le _ _ _))]; rfl)
              rw [eF] at hP hD
              have hP : va_P g.1 vwCl [(m0, oB 9 [.ref m1, .ref m2, .ref m3, .ref m4, .int ps, .int rn, .ref m5, .int ty, .ref m6, .ref m7, .int (nI (topS S)), .int (gmis S (topS S) D dir (k + 1)), .int (gat S (topS S) D dir (k + 1)), .int (gsp S (topS S) D (k + 1)), .int so, .int ca, .int cm, .int kd, .ref m8]), (m1, aI g 63 (putT S (gst S (topS S) D dir (k + 1)))), (m6, aI g 201 (fillT (ivS S) fi (topS S + 1)))] H := hP
              have hD : va_D A [(m0, oB 9 [.ref m1, .ref m2, .ref m3, .ref m4, .int ps, .int rn, .ref m5, .int ty, .ref m6, .ref m7, .int (nI (topS S)), .int (gmis S (topS S) D dir (k + 1)), .int (gat S (topS S) D dir (k + 1)), .int (gsp S (topS S) D (k + 1)), .int so, .int ca, .int cm, .int kd, .ref m8]), (m1, aI g 63 (putT S (gst S (topS S) D dir (k + 1)))), (m6, aI g 201 (fillT (ivS S) fi (topS S + 1)))] := hD
              refine lv_iinc (v := i + 1) (lv' := [(5, .int (i + 1)), (7, .int ((putT S (gst S (topS S) D dir k)) 11)), (6, .int (nI (ix (topS S) k D))), (4, .int (nI D)), (3, .int dir), (0, .ref m0)]) hx hb dX9_goes_126 hl (k := 2) rfl (by rfl) (by decide) rfl (fun ls hl => ?_)
              refine lv_goto (tgt := 44) hx hb dX9_goes_129 (by decide) ?_
              exact ih (k + 1) (i + 1) hlt (by rw [ei]; exact nI_1 k) (by omega) _ _ (zP_sub hP [0, 1, 2] rfl) (hD.sub [0, 1, 2] rfl rfl) hS ls (lv_sub hl [0, 3, 4, 5] rfl)
    exact lp44 ((D - 0) + 1) 0 0 (Nat.zero_le D) rfl (Nat.lt_succ_self _) _ _ (zP_sub hP [0, 1, 2] rfl) (hD.sub [0, 1, 2] rfl rfl) hS ls (lv_sub hl [0, 1, 2, 4] rfl)
  refine lv_if_ge (tgt := 18) hx hb dX9_goes_11 (by decide) (fun c11 => ?_) (fun c11 => ?_)
  · refine lv_iconst (v := 1) hx hb dX9_goes_18 (by decide +kernel) ?_
    refine zTop (y := dir) (by rw [hdir, ← way_dir hto hpl, if_neg (zgt c11)]) ?_
    exact j19 _ _ (zP_sub hP [0, 1, 2] rfl) (hD.sub [0, 1, 2] rfl rfl) hS ls (lv_sub hl [0, 1, 2] rfl)
  · refine lv_iconst (v := (-1)) hx hb dX9_goes_14 (by decide +kernel) ?_
    refine lv_goto (tgt := 19) hx hb dX9_goes_15 (by decide) ?_
    refine zTop (y := dir) (by rw [hdir, ← way_dir hto hpl, if_pos (znle c11)]) ?_
    exact j19 _ _ (zP_sub hP [0, 1, 2] rfl) (hD.sub [0, 1, 2] rfl rfl) hS ls (lv_sub hl [0, 1, 2] rfl)
