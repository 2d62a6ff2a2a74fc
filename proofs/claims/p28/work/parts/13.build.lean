set_option maxHeartbeats 4000000 in
set_option maxRecDepth 100000 in
theorem m_build (l : Launch) (g : G3) (b0 b1 b2 b3 b4 : Nat) (fi fq fp fs : Nat → Int32) (la : Int32) (a0 a1 a2 a6 : Nat) (low high told pc hd hm cl sp ms tm : Int32) (S : Nat → Int32) (hok : setOk S) : MV l yX4_build wsX4_build (rk 1 21) g [.ref b0, .ref a0] [(b0, oB 4 [.ref b1, .ref b2, .ref b3, .ref b4, .int la]), (b1, aI g 201 fi), (b2, aI g 201 fq), (b3, aI g 201 fp), (b4, aI g 201 fs), (a0, oB 7 [.ref a1, .ref a2, .ref a6, .int low, .int high, .int told, .int pc, .int hd, .int hm, .int cl, .int sp, .int ms, .int tm]), (a1, aI g 8 S)] [(b0, oB 4 [.ref b1, .ref b2, .ref b3, .ref b4, .int (nI (topS S))]), (b1, aI g 201 (fillT (ivS S) fi (topS S + 1))), (b2, aI g 201 (fillT (rsS S) fq (topS S + 1))), (b3, aI g 201 (fillT (puS S) fp (topS S + 1))), (b4, aI g 201 (fillT (smS S) fs (topS S + 1))), (a0, oB 7 [.ref a1, .ref a2, .ref a6, .int low, .int high, .int told, .int pc, .int hd, .int hm, .int cl, .int sp, .int ms, .int tm]), (a1, aI g 8 S)] := by
  refine zWalk.met (Qc := fun A => zQv g [(b0, oB 4 [.ref b1, .ref b2, .ref b3, .ref b4, .int (nI (topS S))]), (b1, aI g 201 (fillT (ivS S) fi (topS S + 1))), (b2, aI g 201 (fillT (rsS S) fq (topS S + 1))), (b3, aI g 201 (fillT (puS S) fp (topS S + 1))), (b4, aI g 201 (fillT (smS S) fs (topS S + 1))), (a0, oB 7 [.ref a1, .ref a2, .ref a6, .int low, .int high, .int told, .int pc, .int hd, .int hm, .int cl, .int sp, .int ms, .int tm]), (a1, aI g 8 S)] A) (cc := cX4_build) (maxL := 9) (ret := none) ?_ (by decide) rfl (Nat.le_of_ble_eq_true rfl)
  intro pg ev sx mi args below meth cd A H locs ls hx hb hr hml hown hts hlocks hA hE hK hP hD hS hl
  have iX4 : ∀ w ∈ u_ws RX4 TX4 5, w ∈ wsX4_build := (fun _ h => (List.mem_cons_of_mem _ (List.mem_append_right _ h)))
  have iX7 : ∀ w ∈ u_ws RX7 TX7 13, w ∈ wsX4_build := (fun _ h => (List.mem_cons_of_mem _ (List.mem_append_left _ (List.mem_append_right _ h))))
  have hl : lv_has ls 9 [(0, .ref b0), (1, .ref a0)] := hl
  have hS2 := hok.2.2.1
  refine lv_aload_n hx hb dX4_build_0 rfl (lv_at hl 1 rfl) ?_
  refine va_getN (D := g.1) (host := "StepAxis") (ref := "StepAxis$State") (own := RX4) (ci := 7) (v := .ref a1) (C := RX7) (T := TX7) (N := 13) hx hb hts iX7 hown hK hP 5 rfl rfl 0 (by decide) (nwf_3 hE.1) (fun _ h9 => h9) rfl dX4_build_1 ?_
  refine lv_iconst (v := 1) hx hb dX4_build_4 (by decide +kernel) ?_
  refine zald (k := 1) hx hb hK hP 6 0 rfl rfl (IX.lit (by decide +kernel)) dX4_build_5 ?_
  refine lv_istore_n (lv' := [(2, .int (S 1)), (0, .ref b0), (1, .ref a0)]) hx hb dX4_build_6 rfl hl (by decide) rfl (fun ls hl => ?_)
  refine lv_aload_n hx hb dX4_build_7 rfl (lv_at hl 2 rfl) ?_
  refine va_getN (D := g.1) (host := "StepAxis") (ref := "StepAxis$State") (own := RX4) (ci := 7) (v := .ref a1) (C := RX7) (T := TX7) (N := 13) hx hb hts iX7 hown hK hP 5 rfl rfl 0 (by decide) (nwf_3 hE.1) (fun _ h9 => h9) rfl dX4_build_8 ?_
  refine lv_iconst (v := 2) hx hb dX4_build_11 (by decide +kernel) ?_
  refine zald (k := 2) hx hb hK hP 6 0 rfl rfl (IX.lit (by decide +kernel)) dX4_build_12 ?_
  refine lv_sipush (v := 200) hx hb dX4_build_13 (by decide +kernel) ?_
  refine va_mmin hx hb (hml.trans hl.1.symm) hown (hts (.methodLink RX4 29 Lib.Math.min.name) (List.mem_of_getElem? (i := 1) rfl)) (hts (.static Lib.Math.min.name) (List.mem_of_getElem? (i := 2) rfl)) (hts (.initialized "java/lang/Math") (List.mem_of_getElem? (i := 3) rfl)) (hts (.code Lib.Math.min.name Lib.Math.min.code 2 (some .int)) (List.mem_of_getElem? (i := 4) rfl)) (Nat.le_of_ble_eq_true rfl) (Nat.le_of_ble_eq_true rfl) (Nat.zero_le _) (Nat.zero_le _) dX4_build_16 ?_
  refine zTop (y := S 2) (if_neg (by rw [zlt]; have := hok.2.2.1; have e := i200; omega)) ?_
  refine lv_istore_n (lv' := [(3, .int (S 2)), (2, .int (S 1)), (0, .ref b0), (1, .ref a0)]) hx hb dX4_build_19 rfl hl (by decide) rfl (fun ls hl => ?_)
  refine lv_aload_n hx hb dX4_build_20 rfl (lv_at hl 3 rfl) ?_
  refine va_getN (D := g.1) (host := "StepAxis") (ref := "StepAxis$State") (own := RX4) (ci := 7) (v := .ref a1) (C := RX7) (T := TX7) (N := 13) hx hb hts iX7 hown hK hP 5 rfl rfl 0 (by decide) (nwf_3 hE.1) (fun _ h9 => h9) rfl dX4_build_21 ?_
  refine lv_iconst (v := 3) hx hb dX4_build_24 (by decide +kernel) ?_
  refine zald (k := 3) hx hb hK hP 6 0 rfl rfl (IX.lit (by decide +kernel)) dX4_build_25 ?_
  refine lv_istore (lv' := [(4, .int (S 3)), (3, .int (S 2)), (2, .int (S 1)), (0, .ref b0), (1, .ref a0)]) hx hb dX4_build_26 hl (by decide) rfl (fun ls hl => ?_)
  refine lv_aload_n hx hb dX4_build_28 rfl (lv_at hl 4 rfl) ?_
  refine va_getN (D := g.1) (host := "StepAxis") (ref := "StepAxis$State") (own := RX4) (ci := 7) (v := .ref a1) (C := RX7) (T := TX7) (N := 13) hx hb hts iX7 hown hK hP 5 rfl rfl 0 (by decide) (nwf_3 hE.1) (fun _ h9 => h9) rfl dX4_build_29 ?_
  refine lv_iconst (v := 4) hx hb dX4_build_32 (by decide +kernel) ?_
  refine zald (k := 4) hx hb hK hP 6 0 rfl rfl (IX.lit (by decide +kernel)) dX4_build_33 ?_
  refine lv_istore (lv' := [(5, .int (S 4)), (4, .int (S 3)), (3, .int (S 2)), (2, .int (S 1)), (0, .ref b0), (1, .ref a0)]) hx hb dX4_build_34 hl (by decide) rfl (fun ls hl => ?_)
  refine lv_aload_n hx hb dX4_build_36 rfl (lv_at hl 4 rfl) ?_
  refine va_get (D := g.1) (ci := 4) (v := .ref b1) (C := RX4) (T := TX4) (N := 5) hx hb hts iX4 hown hK hP 0 rfl rfl 0 (by decide) (hts (.fieldLink RX4 9 "StepAxis$Ramp" "intervals" "[I") (List.mem_of_getElem? (i := 5) rfl)) (fun _ h9 => h9) rfl dX4_build_37 ?_
  refine lv_iconst (v := 0) hx hb dX4_build_40 (by decide +kernel) ?_
  refine lv_aload_n hx hb dX4_build_41 rfl (lv_at hl 5 rfl) ?_
  refine va_getN (D := g.1) (host := "StepAxis") (ref := "StepAxis$State") (own := RX4) (ci := 7) (v := .ref a1) (C := RX7) (T := TX7) (N := 13) hx hb hts iX7 hown hK hP 5 rfl rfl 0 (by decide) (nwf_3 hE.1) (fun _ h9 => h9) rfl dX4_build_42 ?_
  refine lv_iconst (v := 0) hx hb dX4_build_45 (by decide +kernel) ?_
  refine zald (k := 0) hx hb hK hP 6 0 rfl rfl (IX.lit (by decide +kernel)) dX4_build_46 ?_
  refine zast (k := 0) hx hb hK hP hD hS 1 0 rfl rfl (IX.lit (by decide +kernel)) dX4_build_47 (fun H locs hP hD hS => ?_)
  have hP : va_P g.1 vwCl [(b0, oB 4 [.ref b1, .ref b2, .ref b3, .ref b4, .int la]), (b1, aI g 201 (upd fi 0 (S 0))), (b2, aI g 201 fq), (b3, aI g 201 fp), (b4, aI g 201 fs), (a0, oB 7 [.ref a1, .ref a2, .ref a6, .int low, .int high, .int told, .int pc, .int hd, .int hm, .int cl, .int sp, .int ms, .int tm]), (a1, aI g 8 S)] H := hP
  have hD : va_D A [(b0, oB 4 [.ref b1, .ref b2, .ref b3, .ref b4, .int la]), (b1, aI g 201 (upd fi 0 (S 0))), (b2, aI g 201 fq), (b3, aI g 201 fp), (b4, aI g 201 fs), (a0, oB 7 [.ref a1, .ref a2, .ref a6, .int low, .int high, .int told, .int pc, .int hd, .int hm, .int cl, .int sp, .int ms, .int tm]), (a1, aI g 8 S)] := hD
  refine lv_aload_n hx hb dX4_build_48 rfl (lv_at hl 4 rfl) ?_
  refine va_get (D := g.1) (ci := 4) (v := .ref b2) (C := RX4) (T := TX4) (N := 5) hx hb hts iX4 hown hK hP 0 rfl rfl 1 (by decide) (hts (.fieldLink RX4 15 "StepAxis$Ramp" "rests" "[I") (List.mem_of_getElem? (i := 6) rfl)) (fun _ h9 => h9) rfl dX4_build_49 ?_
  refine lv_iconst (v := 0) hx hb dX4_build_52 (by decide +kernel) ?_
  refine lv_iconst (v := 0) hx hb dX4_build_53 (by decide +kernel) ?_
  refine zast (k := 0) hx hb hK hP hD hS 2 0 rfl rfl (IX.lit (by decide +kernel)) dX4_build_54 (fun H locs hP hD hS => ?_)
  have hP : va_P g.1 vwCl [(b0, oB 4 [.ref b1, .ref b2, .ref b3, .ref b4, .int la]), (b1, aI g 201 (upd fi 0 (S 0))), (b2, aI g 201 (upd fq 0 0)), (b3, aI g 201 fp), (b4, aI g 201 fs), (a0, oB 7 [.ref a1, .ref a2, .ref a6, .int low, .int high, .int told, .int pc, .int hd, .int hm, .int cl, .int sp, .int ms, .int tm]), (a1, aI g 8 S)] H := hP
  have hD : va_D A [(b0, oB 4 [.ref b1, .ref b2, .ref b3, .ref b4, .int la]), (b1, aI g 201 (upd fi 0 (S 0))), (b2, aI g 201 (upd fq 0 0)), (b3, aI g 201 fp), (b4, aI g 201 fs), (a0, oB 7 [.ref a1, .ref a2, .ref a6, .int low, .int high, .int told, .int pc, .int hd, .int hm, .int cl, .int sp, .int ms, .int tm]), (a1, aI g 8 S)] := hD
  refine lv_aload_n hx hb dX4_build_55 rfl (lv_at hl 4 rfl) ?_
  refine va_get (D := g.1) (ci := 4) (v := .ref b3) (C := RX4) (T := TX4) (N := 5) hx hb hts iX4 hown hK hP 0 rfl rfl 2 (by decide) (hts (.fieldLink RX4 18 "StepAxis$Ramp" "pulls" "[I") (List.mem_of_getElem? (i := 7) rfl)) (fun _ h9 => h9) rfl dX4_build_56 ?_
  refine lv_iconst (v := 0) hx hb dX4_build_59 (by decide +kernel) ?_
  refine lv_iload hx hb dX4_build_60 (lv_at hl 1 rfl) ?_
  refine zast (k := 0) hx hb hK hP hD hS 3 0 rfl rfl (IX.lit (by decide +kernel)) dX4_build_62 (fun H locs hP hD hS => ?_)
  have hP : va_P g.1 vwCl [(b0, oB 4 [.ref b1, .ref b2, .ref b3, .ref b4, .int la]), (b1, aI g 201 (upd fi 0 (S 0))), (b2, aI g 201 (upd fq 0 0)), (b3, aI g 201 (upd fp 0 (S 3))), (b4, aI g 201 fs), (a0, oB 7 [.ref a1, .ref a2, .ref a6, .int low, .int high, .int told, .int pc, .int hd, .int hm, .int cl, .int sp, .int ms, .int tm]), (a1, aI g 8 S)] H := hP
  have hD : va_D A [(b0, oB 4 [.ref b1, .ref b2, .ref b3, .ref b4, .int la]), (b1, aI g 201 (upd fi 0 (S 0))), (b2, aI g 201 (upd fq 0 0)), (b3, aI g 201 (upd fp 0 (S 3))), (b4, aI g 201 fs), (a0, oB 7 [.ref a1, .ref a2, .ref a6, .int low, .int high, .int told, .int pc, .int hd, .int hm, .int cl, .int sp, .int ms, .int tm]), (a1, aI g 8 S)] := hD
  refine lv_aload_n hx hb dX4_build_63 rfl (lv_at hl 4 rfl) ?_
  refine va_get (D := g.1) (ci := 4) (v := .ref b4) (C := RX4) (T := TX4) (N := 5) hx hb hts iX4 hown hK hP 0 rfl rfl 3 (by decide) (hts (.fieldLink RX4 21 "StepAxis$Ramp" "sums" "[I") (List.mem_of_getElem? (i := 8) rfl)) (fun _ h9 => h9) rfl dX4_build_64 ?_
  refine lv_iconst (v := 0) hx hb dX4_build_67 (by decide +kernel) ?_
  refine lv_aload_n hx hb dX4_build_68 rfl (lv_at hl 4 rfl) ?_
  refine va_get (D := g.1) (ci := 4) (v := .ref b1) (C := RX4) (T := TX4) (N := 5) hx hb hts iX4 hown hK hP 0 rfl rfl 0 (by decide) (hts (.fieldLink RX4 9 "StepAxis$Ramp" "intervals" "[I") (List.mem_of_getElem? (i := 5) rfl)) (fun _ h9 => h9) rfl dX4_build_69 ?_
  refine lv_iconst (v := 0) hx hb dX4_build_72 (by decide +kernel) ?_
  refine zald (k := 0) hx hb hK hP 1 0 rfl rfl (IX.lit (by decide +kernel)) dX4_build_73 ?_
  refine zTop (y := S 0) rfl ?_
  refine zTop (y := smS S 0) (smS_z S fi) ?_
  refine zast (k := 0) hx hb hK hP hD hS 4 0 rfl rfl (IX.lit (by decide +kernel)) dX4_build_74 (fun H locs hP hD hS => ?_)
  have hP : va_P g.1 vwCl [(b0, oB 4 [.ref b1, .ref b2, .ref b3, .ref b4, .int la]), (b1, aI g 201 (upd fi 0 (S 0))), (b2, aI g 201 (upd fq 0 0)), (b3, aI g 201 (upd fp 0 (S 3))), (b4, aI g 201 (upd fs 0 (smS S 0))), (a0, oB 7 [.ref a1, .ref a2, .ref a6, .int low, .int high, .int told, .int pc, .int hd, .int hm, .int cl, .int sp, .int ms, .int tm]), (a1, aI g 8 S)] H := hP
  have hD : va_D A [(b0, oB 4 [.ref b1, .ref b2, .ref b3, .ref b4, .int la]), (b1, aI g 201 (upd fi 0 (S 0))), (b2, aI g 201 (upd fq 0 0)), (b3, aI g 201 (upd fp 0 (S 3))), (b4, aI g 201 (upd fs 0 (smS S 0))), (a0, oB 7 [.ref a1, .ref a2, .ref a6, .int low, .int high, .int told, .int pc, .int hd, .int hm, .int cl, .int sp, .int ms, .int tm]), (a1, aI g 8 S)] := hD
  refine lv_aload_n hx hb dX4_build_75 rfl (lv_at hl 4 rfl) ?_
  refine lv_iconst (v := 0) hx hb dX4_build_76 (by decide +kernel) ?_
  refine va_put (D := g.1) (ci := 4) (v := .int 0) (ty := .int) (C := RX4) (T := TX4) (N := 5) hx hb hts iX4 tyX4 tyX4_ok nmX4 hown hK hP hD hS 0 rfl rfl 4 (by decide) (hts (.fieldLink RX4 35 "StepAxis$Ramp" "last" "I") (List.mem_of_getElem? (i := 9) rfl)) (fun _ h9 => h9) rfl (by decide +kernel) rfl rfl (Nat.le_of_ble_eq_true rfl) dX4_build_77 (fun H locs hP hD hS => ?_)
  have hP : va_P g.1 vwCl [(b0, oB 4 [.ref b1, .ref b2, .ref b3, .ref b4, .int 0]), (b1, aI g 201 (upd fi 0 (S 0))), (b2, aI g 201 (upd fq 0 0)), (b3, aI g 201 (upd fp 0 (S 3))), (b4, aI g 201 (upd fs 0 (smS S 0))), (a0, oB 7 [.ref a1, .ref a2, .ref a6, .int low, .int high, .int told, .int pc, .int hd, .int hm, .int cl, .int sp, .int ms, .int tm]), (a1, aI g 8 S)] H := hP
  have hD : va_D A [(b0, oB 4 [.ref b1, .ref b2, .ref b3, .ref b4, .int 0]), (b1, aI g 201 (upd fi 0 (S 0))), (b2, aI g 201 (upd fq 0 0)), (b3, aI g 201 (upd fp 0 (S 3))), (b4, aI g 201 (upd fs 0 (smS S 0))), (a0, oB 7 [.ref a1, .ref a2, .ref a6, .int low, .int high, .int told, .int pc, .int hd, .int hm, .int cl, .int sp, .int ms, .int tm]), (a1, aI g 8 S)] := hD
  refine lv_iconst (v := 1) hx hb dX4_build_80 (by decide +kernel) ?_
  refine lv_istore (lv' := [(6, .int 1), (5, .int (S 4)), (4, .int (S 3)), (3, .int (S 2)), (2, .int (S 1)), (0, .ref b0), (1, .ref a0)]) hx hb dX4_build_81 hl (by decide) rfl (fun ls hl => ?_)
  rw [show (upd fi 0 (S 0)) = fillT (ivS S) fi (1) from fillT_1 (ivS_z S)] at hP hD
  rw [show (upd fq 0 0) = fillT (rsS S) fq (1) from fillT_1 (rsS_z S)] at hP hD
  rw [show (upd fp 0 (S 3)) = fillT (puS S) fp (1) from fillT_1 (puS_0 hok).symm] at hP hD
  rw [show (upd fs 0 (smS S 0)) = fillT (smS S) fs (1) from fillT_1 rfl] at hP hD
  have lp83 : ∀ (fu : Nat) (k : Nat) (i : Int32), (k ≤ (S 2).toInt.toNat) → (i = nI (k + 1)) → (∀ j, j < k → S 1 < ivS S j) → ((S 2).toInt.toNat - k) < fu → ∀ (H : Heap) (locs : List Loc), va_P g.1 vwCl [(b0, oB 4 [.ref b1, .ref b2, .ref b3, .ref b4, .int (nI k)]), (b1, aI g 201 (fillT (ivS S) fi (k + 1))), (b2, aI g 201 (fillT (rsS S) fq (k + 1))), (b3, aI g 201 (fillT (puS S) fp (k + 1))), (b4, aI g 201 (fillT (smS S) fs (k + 1))), (a0, oB 7 [.ref a1, .ref a2, .ref a6, .int low, .int high, .int told, .int pc, .int hd, .int hm, .int cl, .int sp, .int ms, .int tm]), (a1, aI g 8 S)] H → va_D A [(b0, oB 4 [.ref b1, .ref b2, .ref b3, .ref b4, .int (nI k)]), (b1, aI g 201 (fillT (ivS S) fi (k + 1))), (b2, aI g 201 (fillT (rsS S) fq (k + 1))), (b3, aI g 201 (fillT (puS S) fp (k + 1))), (b4, aI g 201 (fillT (smS S) fs (k + 1))), (a0, oB 7 [.ref a1, .ref a2, .ref a6, .int low, .int high, .int told, .int pc, .int hd, .int hm, .int cl, .int sp, .int ms, .int tm]), (a1, aI g 8 S)] → va_S A sx.heap H locs → ∀ (ls : Array Slot), lv_has ls 9 [(6, .int i), (5, .int (S 4)), (4, .int (S 3)), (3, .int (S 2)), (2, .int (S 1)), (0, .ref b0), (1, .ref a0)] → W pg l ev (rk 1 21) sx mi args below meth cd H locs 0 0 (MQ below (zQv g [(b0, oB 4 [.ref b1, .ref b2, .ref b3, .ref b4, .int (nI (topS S))]), (b1, aI g 201 (fillT (ivS S) fi (topS S + 1))), (b2, aI g 201 (fillT (rsS S) fq (topS S + 1))), (b3, aI g 201 (fillT (puS S) fp (topS S + 1))), (b4, aI g 201 (fillT (smS S) fs (topS S + 1))), (a0, oB 7 [.ref a1, .ref a2, .ref a6, .int low, .int high, .int told, .int pc, .int hd, .int hm, .int cl, .int sp, .int ms, .int tm]), (a1, aI g 8 S)] A) args sx 0 0 A) (F0 mi 83 ls []) := by
    intro fu
    induction fu with
    | zero =>
      intro k i hk ei hall hmu
      exact absurd hmu (Nat.not_lt_zero _)
    | succ fu ih =>
      intro k i hk ei hall hmu H locs hP hD hS ls hl
      refine lv_iload hx hb dX4_build_83 (lv_at hl 0 rfl) ?_
      refine lv_iload_n hx hb dX4_build_85 rfl (lv_at hl 3 rfl) ?_
      refine lv_icmp_gt (tgt := 229) hx hb dX4_build_86 (by decide) (fun c86 => ?_) (fun c86 => ?_)
      · have hkm : k = (S 2).toInt.toNat := by rw [ei, zlt, znI (by have := hok.2.2.1; omega)] at c86; have := hok.2.2.1; omega
        exact zEv (ws' := [(b0, oB 4 [.ref b1, .ref b2, .ref b3, .ref b4, .int (nI k)]), (b1, aI g 201 (fillT (ivS S) fi (k + 1))), (b2, aI g 201 (fillT (rsS S) fq (k + 1))), (b3, aI g 201 (fillT (puS S) fp (k + 1))), (b4, aI g 201 (fillT (smS S) fs (k + 1))), (a0, oB 7 [.ref a1, .ref a2, .ref a6, .int low, .int high, .int told, .int pc, .int hd, .int hm, .int cl, .int sp, .int ms, .int tm]), (a1, aI g 8 S)]) hx hb hlocks hr hK hP hD hS [0, 1, 2, 3, 4, 5, 6] rfl rfl (by rw [show topS S = k from topN_eq hk hall (Or.inl hkm)]) dX4_build_229
      · have hlt : k + 1 ≤ (S 2).toInt.toNat := by rw [ei, zlt, znI (by have := hok.2.2.1; omega)] at c86; have := hok.2.2.1; omega
        have h200 : k + 1 ≤ 200 := by have := hok.2.2.1; omega
        refine lv_aload_n hx hb dX4_build_89 rfl (lv_at hl 5 rfl) ?_
        refine va_get (D := g.1) (ci := 4) (v := .ref b1) (C := RX4) (T := TX4) (N := 5) hx hb hts iX4 hown hK hP 0 rfl rfl 0 (by decide) (hts (.fieldLink RX4 9 "StepAxis$Ramp" "intervals" "[I") (List.mem_of_getElem? (i := 5) rfl)) (fun _ h9 => h9) rfl dX4_build_90 ?_
        refine lv_iload hx hb dX4_build_93 (lv_at hl 0 rfl) ?_
        refine lv_iconst (v := 1) hx hb dX4_build_95 (by decide +kernel) ?_
        refine lv_isub hx hb dX4_build_96 ?_
        refine zald (k := k) hx hb hK hP 1 0 rfl rfl (IX.of (by rw [ei]; exact nI_pred k) (by omega) (by decide)) dX4_build_97 ?_
        refine zTop (y := ivS S k) (fillT_in (Nat.lt_succ_self k)) ?_
        refine lv_iload_n hx hb dX4_build_98 rfl (lv_at hl 4 rfl) ?_
        refine lv_icmp_le (tgt := 229) hx hb dX4_build_99 (by decide) (fun c99 => ?_) (fun c99 => ?_)
        · exact zEv (ws' := [(b0, oB 4 [.ref b1, .ref b2, .ref b3, .ref b4, .int (nI k)]), (b1, aI g 201 (fillT (ivS S) fi (k + 1))), (b2, aI g 201 (fillT (rsS S) fq (k + 1))), (b3, aI g 201 (fillT (puS S) fp (k + 1))), (b4, aI g 201 (fillT (smS S) fs (k + 1))), (a0, oB 7 [.ref a1, .ref a2, .ref a6, .int low, .int high, .int told, .int pc, .int hd, .int hm, .int cl, .int sp, .int ms, .int tm]), (a1, aI g 8 S)]) hx hb hlocks hr hK hP hD hS [0, 1, 2, 3, 4, 5, 6] rfl rfl (by rw [show topS S = k from topN_eq hk hall (Or.inr (zgt c99))]) dX4_build_229
        · refine lv_iconst (v := 4) hx hb dX4_build_102 (by decide +kernel) ?_
          refine lv_iload hx hb dX4_build_103 (lv_at hl 0 rfl) ?_
          refine lv_imul hx hb dX4_build_105 ?_
          refine lv_iconst (v := 1) hx hb dX4_build_106 (by decide +kernel) ?_
          refine lv_iadd hx hb dX4_build_107 ?_
          refine zTop (y := rD k) (by rw [ei]; exact rD_s k) ?_
          refine lv_istore (lv' := [(7, .int (rD k)), (6, .int i), (5, .int (S 4)), (4, .int (S 3)), (3, .int (S 2)), (2, .int (S 1)), (0, .ref b0), (1, .ref a0)]) hx hb dX4_build_108 hl (by decide) rfl (fun ls hl => ?_)
          refine lv_iconst (v := 2) hx hb dX4_build_110 (by decide +kernel) ?_
          refine lv_aload_n hx hb dX4_build_111 rfl (lv_at hl 6 rfl) ?_
          refine va_get (D := g.1) (ci := 4) (v := .ref b1) (C := RX4) (T := TX4) (N := 5) hx hb hts iX4 hown hK hP 0 rfl rfl 0 (by decide) (hts (.fieldLink RX4 9 "StepAxis$Ramp" "intervals" "[I") (List.mem_of_getElem? (i := 5) rfl)) (fun _ h9 => h9) rfl dX4_build_112 ?_
          refine lv_iload hx hb dX4_build_115 (lv_at hl 1 rfl) ?_
          refine lv_iconst (v := 1) hx hb dX4_build_117 (by decide +kernel) ?_
          refine lv_isub hx hb dX4_build_118 ?_
          refine zald (k := k) hx hb hK hP 1 0 rfl rfl (IX.of (by rw [ei]; exact nI_pred k) (by omega) (by decide)) dX4_build_119 ?_
          refine zTop (y := ivS S k) (fillT_in (Nat.lt_succ_self k)) ?_
          refine lv_imul hx hb dX4_build_120 ?_
          refine lv_aload_n hx hb dX4_build_121 rfl (lv_at hl 6 rfl) ?_
          refine va_get (D := g.1) (ci := 4) (v := .ref b2) (C := RX4) (T := TX4) (N := 5) hx hb hts iX4 hown hK hP 0 rfl rfl 1 (by decide) (hts (.fieldLink RX4 15 "StepAxis$Ramp" "rests" "[I") (List.mem_of_getElem? (i := 6) rfl)) (fun _ h9 => h9) rfl dX4_build_122 ?_
          refine lv_iload hx hb dX4_build_125 (lv_at hl 1 rfl) ?_
          refine lv_iconst (v := 1) hx hb dX4_build_127 (by decide +kernel) ?_
          refine lv_isub hx hb dX4_build_128 ?_
          refine zald (k := k) hx hb hK hP 2 0 rfl rfl (IX.of (by rw [ei]; exact nI_pred k) (by omega) (by decide)) dX4_build_129 ?_
          refine zTop (y := rsS S k) (fillT_in (Nat.lt_succ_self k)) ?_
          refine lv_iadd hx hb dX4_build_130 ?_
          refine lv_istore (lv' := [(8, .int ((2 * (ivS S k)) + (rsS S k))), (7, .int (rD k)), (6, .int i), (5, .int (S 4)), (4, .int (S 3)), (3, .int (S 2)), (2, .int (S 1)), (0, .ref b0), (1, .ref a0)]) hx hb dX4_build_131 hl (by decide) rfl (fun ls hl => ?_)
          refine lv_aload_n hx hb dX4_build_133 rfl (lv_at hl 7 rfl) ?_
          refine va_get (D := g.1) (ci := 4) (v := .ref b1) (C := RX4) (T := TX4) (N := 5) hx hb hts iX4 hown hK hP 0 rfl rfl 0 (by decide) (hts (.fieldLink RX4 9 "StepAxis$Ramp" "intervals" "[I") (List.mem_of_getElem? (i := 5) rfl)) (fun _ h9 => h9) rfl dX4_build_134 ?_
          refine lv_iload hx hb dX4_build_137 (lv_at hl 2 rfl) ?_
          refine lv_iload_n hx hb dX4_build_139 rfl (lv_at hl 6 rfl) ?_
          refine lv_aload_n hx hb dX4_build_140 rfl (lv_at hl 7 rfl) ?_
          refine va_get (D := g.1) (ci := 4) (v := .ref b1) (C := RX4) (T := TX4) (N := 5) hx hb hts iX4 hown hK hP 0 rfl rfl 0 (by decide) (hts (.fieldLink RX4 9 "StepAxis$Ramp" "intervals" "[I") (List.mem_of_getElem? (i := 5) rfl)) (fun _ h9 => h9) rfl dX4_build_141 ?_
          refine lv_iload hx hb dX4_build_144 (lv_at hl 2 rfl) ?_
          refine lv_iconst (v := 1) hx hb dX4_build_146 (by decide +kernel) ?_
          refine lv_isub hx hb dX4_build_147 ?_
          refine zald (k := k) hx hb hK hP 1 0 rfl rfl (IX.of (by rw [ei]; exact nI_pred k) (by omega) (by decide)) dX4_build_148 ?_
          refine zTop (y := ivS S k) (fillT_in (Nat.lt_succ_self k)) ?_
          refine lv_iload hx hb dX4_build_149 (lv_at hl 0 rfl) ?_
          refine lv_iload hx hb dX4_build_151 (lv_at hl 1 rfl) ?_
          refine lv_idiv hx hb dX4_build_153 (rD_ne (by omega)) ?_
          refine lv_isub hx hb dX4_build_154 ?_
          refine va_mmax hx hb (hml.trans hl.1.symm) hown (hts (.methodLink RX4 39 Lib.Math.max.name) (List.mem_of_getElem? (i := 10) rfl)) (hts (.static Lib.Math.max.name) (List.mem_of_getElem? (i := 11) rfl)) (hts (.initialized "java/lang/Math") (List.mem_of_getElem? (i := 3) rfl)) (hts (.code Lib.Math.max.name Lib.Math.max.code 2 (some .int)) (List.mem_of_getElem? (i := 12) rfl)) (Nat.le_of_ble_eq_true rfl) (Nat.le_of_ble_eq_true rfl) (Nat.zero_le _) (Nat.zero_le _) dX4_build_155 ?_
          refine zast (k := (k + 1)) hx hb hK hP hD hS 1 0 rfl rfl (IX.of ei (by omega) (by decide)) dX4_build_158 (fun H locs hP hD hS => ?_)
          have hP : va_P g.1 vwCl [(b0, oB 4 [.ref b1, .ref b2, .ref b3, .ref b4, .int (nI k)]), (b1, aI g 201 (upd (fillT (ivS S) fi (k + 1)) (k + 1) (if (S 1) < ((ivS S k) - (((2 * (ivS S k)) + (rsS S k)) / (rD k))) then ((ivS S k) - (((2 * (ivS S k)) + (rsS S k)) / (rD k))) else (S 1)))), (b2, aI g 201 (fillT (rsS S) fq (k + 1))), (b3, aI g 201 (fillT (puS S) fp (k + 1))), (b4, aI g 201 (fillT (smS S) fs (k + 1))), (a0, oB 7 [.ref a1, .ref a2, .ref a6, .int low, .int high, .int told, .int pc, .int hd, .int hm, .int cl, .int sp, .int ms, .int tm]), (a1, aI g 8 S)] H := hP
          have hD : va_D A [(b0, oB 4 [.ref b1, .ref b2, .ref b3, .ref b4, .int (nI k)]), (b1, aI g 201 (upd (fillT (ivS S) fi (k + 1)) (k + 1) (if (S 1) < ((ivS S k) - (((2 * (ivS S k)) + (rsS S k)) / (rD k))) then ((ivS S k) - (((2 * (ivS S k)) + (rsS S k)) / (rD k))) else (S 1)))), (b2, aI g 201 (fillT (rsS S) fq (k + 1))), (b3, aI g 201 (fillT (puS S) fp (k + 1))), (b4, aI g 201 (fillT (smS S) fs (k + 1))), (a0, oB 7 [.ref a1, .ref a2, .ref a6, .int low, .int high, .int told, .int pc, .int hd, .int hm, .int cl, .int sp, .int ms, .int tm]), (a1, aI g 8 S)] := hD
          rw [show (upd (fillT (ivS S) fi (k + 1)) (k + 1) (if (S 1) < ((ivS S k) - (((2 * (ivS S k)) + (rsS S k)) / (rD k))) then ((ivS S k) - (((2 * (ivS S k)) + (rsS S k)) / (rD k))) else (S 1))) = fillT (ivS S) fi (k + 1 + 1) from fillT_upd (ivS_s S k)] at hP hD
          refine lv_aload_n hx hb dX4_build_159 rfl (lv_at hl 7 rfl) ?_
          refine va_get (D := g.1) (ci := 4) (v := .ref b2) (C := RX4) (T := TX4) (N := 5) hx hb hts iX4 hown hK hP 0 rfl rfl 1 (by decide) (hts (.fieldLink RX4 15 "StepAxis$Ramp" "rests" "[I") (List.mem_of_getElem? (i := 6) rfl)) (fun _ h9 => h9) rfl dX4_build_160 ?_
          refine lv_iload hx hb dX4_build_163 (lv_at hl 2 rfl) ?_
          refine lv_iload hx hb dX4_build_165 (lv_at hl 0 rfl) ?_
          refine lv_iload hx hb dX4_build_167 (lv_at hl 1 rfl) ?_
          refine lv_irem hx hb dX4_build_169 (rD_ne (by omega)) ?_
          refine zast (k := (k + 1)) hx hb hK hP hD hS 2 0 rfl rfl (IX.of ei (by omega) (by decide)) dX4_build_170 (fun H locs hP hD hS => ?_)
          have hP : va_P g.1 vwCl [(b0, oB 4 [.ref b1, .ref b2, .ref b3, .ref b4, .int (nI k)]), (b1, aI g 201 (fillT (ivS S) fi (k + 1 + 1))), (b2, aI g 201 (upd (fillT (rsS S) fq (k + 1)) (k + 1) (((2 * (ivS S k)) + (rsS S k)) - ((2 * (ivS S k)) + (rsS S k)) / (rD k) * (rD k)))), (b3, aI g 201 (fillT (puS S) fp (k + 1))), (b4, aI g 201 (fillT (smS S) fs (k + 1))), (a0, oB 7 [.ref a1, .ref a2, .ref a6, .int low, .int high, .int told, .int pc, .int hd, .int hm, .int cl, .int sp, .int ms, .int tm]), (a1, aI g 8 S)] H := hP
          have hD : va_D A [(b0, oB 4 [.ref b1, .ref b2, .ref b3, .ref b4, .int (nI k)]), (b1, aI g 201 (fillT (ivS S) fi (k + 1 + 1))), (b2, aI g 201 (upd (fillT (rsS S) fq (k + 1)) (k + 1) (((2 * (ivS S k)) + (rsS S k)) - ((2 * (ivS S k)) + (rsS S k)) / (rD k) * (rD k)))), (b3, aI g 201 (fillT (puS S) fp (k + 1))), (b4, aI g 201 (fillT (smS S) fs (k + 1))), (a0, oB 7 [.ref a1, .ref a2, .ref a6, .int low, .int high, .int told, .int pc, .int hd, .int hm, .int cl, .int sp, .int ms, .int tm]), (a1, aI g 8 S)] := hD
          rw [show (upd (fillT (rsS S) fq (k + 1)) (k + 1) (((2 * (ivS S k)) + (rsS S k)) - ((2 * (ivS S k)) + (rsS S k)) / (rD k) * (rD k))) = fillT (rsS S) fq (k + 1 + 1) from fillT_upd (rsS_s S k)] at hP hD
          refine lv_aload_n hx hb dX4_build_171 rfl (lv_at hl 7 rfl) ?_
          refine va_get (D := g.1) (ci := 4) (v := .ref b3) (C := RX4) (T := TX4) (N := 5) hx hb hts iX4 hown hK hP 0 rfl rfl 2 (by decide) (hts (.fieldLink RX4 18 "StepAxis$Ramp" "pulls" "[I") (List.mem_of_getElem? (i := 7) rfl)) (fun _ h9 => h9) rfl dX4_build_172 ?_
          refine lv_iload hx hb dX4_build_175 (lv_at hl 2 rfl) ?_
          refine lv_iconst (v := 0) hx hb dX4_build_177 (by decide +kernel) ?_
          refine lv_iload hx hb dX4_build_178 (lv_at hl 4 rfl) ?_
          refine lv_iload hx hb dX4_build_180 (lv_at hl 2 rfl) ?_
          refine lv_iload hx hb dX4_build_182 (lv_at hl 3 rfl) ?_
          refine lv_imul hx hb dX4_build_184 ?_
          refine lv_bipush (v := 16) hx hb dX4_build_185 (by decide +kernel) ?_
          refine lv_idiv hx hb dX4_build_187 (by decide +kernel) ?_
          refine lv_isub hx hb dX4_build_188 ?_
          refine va_mmax hx hb (hml.trans hl.1.symm) hown (hts (.methodLink RX4 39 Lib.Math.max.name) (List.mem_of_getElem? (i := 10) rfl)) (hts (.static Lib.Math.max.name) (List.mem_of_getElem? (i := 11) rfl)) (hts (.initialized "java/lang/Math") (List.mem_of_getElem? (i := 3) rfl)) (hts (.code Lib.Math.max.name Lib.Math.max.code 2 (some .int)) (List.mem_of_getElem? (i := 12) rfl)) (Nat.le_of_ble_eq_true rfl) (Nat.le_of_ble_eq_true rfl) (Nat.zero_le _) (Nat.zero_le _) dX4_build_189 ?_
          refine zTop (y := puS S (k + 1)) (by rw [ei]; exact puS_s S (k + 1)) ?_
          refine zast (k := (k + 1)) hx hb hK hP hD hS 3 0 rfl rfl (IX.of ei (by omega) (by decide)) dX4_build_192 (fun H locs hP hD hS => ?_)
          have hP : va_P g.1 vwCl [(b0, oB 4 [.ref b1, .ref b2, .ref b3, .ref b4, .int (nI k)]), (b1, aI g 201 (fillT (ivS S) fi (k + 1 + 1))), (b2, aI g 201 (fillT (rsS S) fq (k + 1 + 1))), (b3, aI g 201 (upd (fillT (puS S) fp (k + 1)) (k + 1) (puS S (k + 1)))), (b4, aI g 201 (fillT (smS S) fs (k + 1))), (a0, oB 7 [.ref a1, .ref a2, .ref a6, .int low, .int high, .int told, .int pc, .int hd, .int hm, .int cl, .int sp, .int ms, .int tm]), (a1, aI g 8 S)] H := hP
          have hD : va_D A [(b0, oB 4 [.ref b1, .ref b2, .ref b3, .ref b4, .int (nI k)]), (b1, aI g 201 (fillT (ivS S) fi (k + 1 + 1))), (b2, aI g 201 (fillT (rsS S) fq (k + 1 + 1))), (b3, aI g 201 (upd (fillT (puS S) fp (k + 1)) (k + 1) (puS S (k + 1)))), (b4, aI g 201 (fillT (smS S) fs (k + 1))), (a0, oB 7 [.ref a1, .ref a2, .ref a6, .int low, .int high, .int told, .int pc, .int hd, .int hm, .int cl, .int sp, .int ms, .int tm]), (a1, aI g 8 S)] := hD
          rw [show (upd (fillT (puS S) fp (k + 1)) (k + 1) (puS S (k + 1))) = fillT (puS S) fp (k + 1 + 1) from fillT_upd rfl] at hP hD
          refine lv_aload_n hx hb dX4_build_193 rfl (lv_at hl 7 rfl) ?_
          refine va_get (D := g.1) (ci := 4) (v := .ref b4) (C := RX4) (T := TX4) (N := 5) hx hb hts iX4 hown hK hP 0 rfl rfl 3 (by decide) (hts (.fieldLink RX4 21 "StepAxis$Ramp" "sums" "[I") (List.mem_of_getElem? (i := 8) rfl)) (fun _ h9 => h9) rfl dX4_build_194 ?_
          refine lv_iload hx hb dX4_build_197 (lv_at hl 2 rfl) ?_
          refine lv_aload_n hx hb dX4_build_199 rfl (lv_at hl 7 rfl) ?_
          refine va_get (D := g.1) (ci := 4) (v := .ref b4) (C := RX4) (T := TX4) (N := 5) hx hb hts iX4 hown hK hP 0 rfl rfl 3 (by decide) (hts (.fieldLink RX4 21 "StepAxis$Ramp" "sums" "[I") (List.mem_of_getElem? (i := 8) rfl)) (fun _ h9 => h9) rfl dX4_build_200 ?_
          refine lv_iload hx hb dX4_build_203 (lv_at hl 2 rfl) ?_
          refine lv_iconst (v := 1) hx hb dX4_build_205 (by decide +kernel) ?_
          refine lv_isub hx hb dX4_build_206 ?_
          refine zald (k := k) hx hb hK hP 4 0 rfl rfl (IX.of (by rw [ei]; exact nI_pred k) (by omega) (by decide)) dX4_build_207 ?_
          refine zTop (y := smS S k) (fillT_in (Nat.lt_succ_self k)) ?_
          refine lv_aload_n hx hb dX4_build_208 rfl (lv_at hl 7 rfl) ?_
          refine va_get (D := g.1) (ci := 4) (v := .ref b1) (C := RX4) (T := TX4) (N := 5) hx hb hts iX4 hown hK hP 0 rfl rfl 0 (by decide) (hts (.fieldLink RX4 9 "StepAxis$Ramp" "intervals" "[I") (List.mem_of_getElem? (i := 5) rfl)) (fun _ h9 => h9) rfl dX4_build_209 ?_
          refine lv_iload hx hb dX4_build_212 (lv_at hl 2 rfl) ?_
          refine zald (k := (k + 1)) hx hb hK hP 1 0 rfl rfl (IX.of ei (by omega) (by decide)) dX4_build_214 ?_
          refine zTop (y := ivS S (k + 1)) (fillT_in (Nat.lt_succ_self _)) ?_
          refine lv_iadd hx hb dX4_build_215 ?_
          refine zast (k := (k + 1)) hx hb hK hP hD hS 4 0 rfl rfl (IX.of ei (by omega) (by decide)) dX4_build_216 (fun H locs hP hD hS => ?_)
          have hP : va_P g.1 vwCl [(b0, oB 4 [.ref b1, .ref b2, .ref b3, .ref b4, .int (nI k)]), (b1, aI g 201 (fillT (ivS S) fi (k + 1 + 1))), (b2, aI g 201 (fillT (rsS S) fq (k + 1 + 1))), (b3, aI g 201 (fillT (puS S) fp (k + 1 + 1))), (b4, aI g 201 (upd (fillT (smS S) fs (k + 1)) (k + 1) ((smS S k) + (ivS S (k + 1))))), (a0, oB 7 [.ref a1, .ref a2, .ref a6, .int low, .int high, .int told, .int pc, .int hd, .int hm, .int cl, .int sp, .int ms, .int tm]), (a1, aI g 8 S)] H := hP
          have hD : va_D A [(b0, oB 4 [.ref b1, .ref b2, .ref b3, .ref b4, .int (nI k)]), (b1, aI g 201 (fillT (ivS S) fi (k + 1 + 1))), (b2, aI g 201 (fillT (rsS S) fq (k + 1 + 1))), (b3, aI g 201 (fillT (puS S) fp (k + 1 + 1))), (b4, aI g 201 (upd (fillT (smS S) fs (k + 1)) (k + 1) ((smS S k) + (ivS S (k + 1))))), (a0, oB 7 [.ref a1, .ref a2, .ref a6, .int low, .int high, .int told, .int pc, .int hd, .int hm, .int cl, .int sp, .int ms, .int tm]), (a1, aI g 8 S)] := hD
          rw [show (upd (fillT (smS S) fs (k + 1)) (k + 1) ((smS S k) + (ivS S (k + 1)))) = fillT (smS S) fs (k + 1 + 1) from fillT_upd (smS_s S k)] at hP hD
          refine lv_aload_n hx hb dX4_build_217 rfl (lv_at hl 7 rfl) ?_
          refine lv_iload hx hb dX4_build_218 (lv_at hl 2 rfl) ?_
          refine va_put (D := g.1) (ci := 4) (v := .int i) (ty := .int) (C := RX4) (T := TX4) (N := 5) hx hb hts iX4 tyX4 tyX4_ok nmX4 hown hK hP hD hS 0 rfl rfl 4 (by decide) (hts (.fieldLink RX4 35 "StepAxis$Ramp" "last" "I") (List.mem_of_getElem? (i := 9) rfl)) (fun _ h9 => h9) rfl (by decide +kernel) rfl rfl (Nat.le_of_ble_eq_true rfl) dX4_build_220 (fun H locs hP hD hS => ?_)
          have hP : va_P g.1 vwCl [(b0, oB 4 [.ref b1, .ref b2, .ref b3, .ref b4, .int i]), (b1, aI g 201 (fillT (ivS S) fi (k + 1 + 1))), (b2, aI g 201 (fillT (rsS S) fq (k + 1 + 1))), (b3, aI g 201 (fillT (puS S) fp (k + 1 + 1))), (b4, aI g 201 (fillT (smS S) fs (k + 1 + 1))), (a0, oB 7 [.ref a1, .ref a2, .ref a6, .int low, .int high, .int told, .int pc, .int hd, .int hm, .int cl, .int sp, .int ms, .int tm]), (a1, aI g 8 S)] H := hP
          have hD : va_D A [(b0, oB 4 [.ref b1, .ref b2, .ref b3, .ref b4, .int i]), (b1, aI g 201 (fillT (ivS S) fi (k + 1 + 1))), (b2, aI g 201 (fillT (rsS S) fq (k + 1 + 1))), (b3, aI g 201 (fillT (puS S) fp (k + 1 + 1))), (b4, aI g 201 (fillT (smS S) fs (k + 1 + 1))), (a0, oB 7 [.ref a1, .ref a2, .ref a6, .int low, .int high, .int told, .int pc, .int hd, .int hm, .int cl, .int sp, .int ms, .int tm]), (a1, aI g 8 S)] := hD
          have eF : i = nI (k + 1) := ei
          rw [eF] at hP hD
          have hP : va_P g.1 vwCl [(b0, oB 4 [.ref b1, .ref b2, .ref b3, .ref b4, .int (nI (k + 1))]), (b1, aI g 201 (fillT (ivS S) fi (k + 1 + 1))), (b2, aI g 201 (fillT (rsS S) fq (k + 1 + 1))), (b3, aI g 201 (fillT (puS S) fp (k + 1 + 1))), (b4, aI g 201 (fillT (smS S) fs (k + 1 + 1))), (a0, oB 7 [.ref a1, .ref a2, .ref a6, .int low, .int high, .int told, .int pc, .int hd, .int hm, .int cl, .int sp, .int ms, .int tm]), (a1, aI g 8 S)] H := hP
          have hD : va_D A [(b0, oB 4 [.ref b1, .ref b2, .ref b3, .ref b4, .int (nI (k + 1))]), (b1, aI g 201 (fillT (ivS S) fi (k + 1 + 1))), (b2, aI g 201 (fillT (rsS S) fq (k + 1 + 1))), (b3, aI g 201 (fillT (puS S) fp (k + 1 + 1))), (b4, aI g 201 (fillT (smS S) fs (k + 1 + 1))), (a0, oB 7 [.ref a1, .ref a2, .ref a6, .int low, .int high, .int told, .int pc, .int hd, .int hm, .int cl, .int sp, .int ms, .int tm]), (a1, aI g 8 S)] := hD
          refine lv_iinc (v := i + 1) (lv' := [(6, .int (i + 1)), (8, .int ((2 * (ivS S k)) + (rsS S k))), (7, .int (rD k)), (5, .int (S 4)), (4, .int (S 3)), (3, .int (S 2)), (2, .int (S 1)), (0, .ref b0), (1, .ref a0)]) hx hb dX4_build_223 hl (k := 2) rfl (by rfl) (by decide) rfl (fun ls hl => ?_)
          refine lv_goto (tgt := 83) hx hb dX4_build_226 (by decide) ?_
          exact ih (k + 1) (i + 1) hlt (by rw [ei]; exact nI_1 (k + 1)) (fun j hj => (Nat.lt_or_ge j k).elim (fun h => hall j h) (fun h => by rw [show j = k by omega]; exact znle c99)) (by omega) _ _ (zP_sub hP [0, 1, 2, 3, 4, 5, 6] rfl) (hD.sub [0, 1, 2, 3, 4, 5, 6] rfl rfl) hS ls (lv_sub hl [0, 3, 4, 5, 6, 7, 8] rfl)
  exact lp83 (((S 2).toInt.toNat - 0) + 1) 0 1 (Nat.zero_le _) rfl (fun j h => absurd h (Nat.not_lt_zero j)) (Nat.lt_succ_self _) _ _ (zP_sub hP [0, 1, 2, 3, 4, 5, 6] rfl) (hD.sub [0, 1, 2, 3, 4, 5, 6] rfl rfl) hS ls (lv_sub hl [0, 1, 2, 3, 4, 5, 6] rfl)
