/-! the law: moves and homing -/
theorem mx_0 {t D : Nat} : nI (mxN t D 0) = 0 := by
  unfold mxN
  rw [show min (min (0 - 1) ((D - 1) / 2)) t = 0 by omega]
  rfl
set_option maxHeartbeats 4000000 in
set_option maxRecDepth 100000 in
theorem l_go (l : Launch) (g : G3) (yg yw yv : Nat) (S ww fv : Nat → Int32) (mo pl : Int32) (hok : setOk S) (h60 : (S 2).toInt ≤ 60) (hnl : 0 ≤ (S 18).toInt ∧ (S 18).toInt ≤ 6) (hto : okP (S 10)) (hpl : okP pl) (hmo : mo = S 2) (hw : ww = wS S) : MU l yL_go wsL_go (rkn 2 50 2 128) g [.ref yg, .ref yw, .int mo, .int pl, .ref yv] [(yg, aI g 19 S), (yw, aI g 18 ww), (yv, aI g 4 fv)] [(yg, aI g 19 (putT S (gst S (topS S) (dist (S 10) pl) (dirT (S 10) pl) (dist (S 10) pl)))), (yw, aI g 18 ww), (yv, aI g 4 (vQ (gmis S (topS S) (dist (S 10) pl) (dirT (S 10) pl) (dist (S 10) pl)) (gsp S (topS S) (dist (S 10) pl) (dist (S 10) pl)) (grN (topS S) (dist (S 10) pl)) (gat S (topS S) (dist (S 10) pl) (dirT (S 10) pl) (dist (S 10) pl))))] 2 128 := by
  refine zWalkA.met (Qc := fun A => zQv g [(yg, aI g 19 (putT S (gst S (topS S) (dist (S 10) pl) (dirT (S 10) pl) (dist (S 10) pl)))), (yw, aI g 18 ww), (yv, aI g 4 (vQ (gmis S (topS S) (dist (S 10) pl) (dirT (S 10) pl) (dist (S 10) pl)) (gsp S (topS S) (dist (S 10) pl) (dist (S 10) pl)) (grN (topS S) (dist (S 10) pl)) (gat S (topS S) (dist (S 10) pl) (dirT (S 10) pl) (dist (S 10) pl))))] A) (cc := cL_go) (maxL := 13) (ret := none) (mc := 2) (ms := 128) ?_ (by decide) rfl (Nat.le_of_ble_eq_true rfl)
  intro pg ev sx mi args below meth cd A H locs ls hx hb hr hml hown hts hlocks hA hE hK hP hD hS hl
  have hl : lv_has ls 13 [(0, .ref yg), (1, .ref yw), (2, .int mo), (3, .int pl), (4, .ref yv)] := hl
  have hT : topS S ≤ 60 := by
    have := topN_le S (S 2).toInt.toNat
    unfold topS
    omega
  obtain ⟨D, hDe⟩ : ∃ D, D = dist (S 10) pl := ⟨_, rfl⟩
  have hDD : D ≤ 8000 := by rw [hDe]; exact dist_le hto hpl
  obtain ⟨dir, hdir⟩ : ∃ dir, dir = dirT (S 10) pl := ⟨_, rfl⟩
  rw [← hDe, ← hdir]
  refine lv_bipush (v := 64) hx hb dL_go_0 (by decide +kernel) ?_
  refine zNewI (N := 64) hx hb (hts (.arrayClass .int) (List.mem_of_getElem? (i := 1) rfl)) hK hP hD hS hA (by decide) (by decide +kernel) (Nat.le_of_ble_eq_true rfl) (Nat.le_of_ble_eq_true rfl) (Nat.le_of_ble_eq_true rfl) dL_go_2 (fun q2 H hP hD hS => ?_)
  refine W.widen (k := 1) (n := 64) (Nat.le_of_ble_eq_true rfl) (Nat.le_of_ble_eq_true rfl) ?_
  have hP : va_P g.1 vwCl [(yg, aI g 19 S), (yw, aI g 18 ww), (yv, aI g 4 fv), (q2, aI g 64 (fun _ => 0))] H := hP
  have hD : va_D A [(yg, aI g 19 S), (yw, aI g 18 ww), (yv, aI g 4 fv), (q2, aI g 64 (fun _ => 0))] := hD
  refine lv_astore (lv' := [(5, .ref q2), (0, .ref yg), (1, .ref yw), (2, .int mo), (3, .int pl), (4, .ref yv)]) hx hb dL_go_4 hl (by decide) rfl (fun ls hl => ?_)
  refine lv_bipush (v := 64) hx hb dL_go_6 (by decide +kernel) ?_
  refine zNewI (N := 64) hx hb (hts (.arrayClass .int) (List.mem_of_getElem? (i := 1) rfl)) hK hP hD hS hA (by decide) (by decide +kernel) (Nat.le_of_ble_eq_true rfl) (Nat.le_of_ble_eq_true rfl) (Nat.le_of_ble_eq_true rfl) dL_go_8 (fun q8 H hP hD hS => ?_)
  refine W.widen (k := 2) (n := 128) (Nat.le_of_ble_eq_true rfl) (Nat.le_of_ble_eq_true rfl) ?_
  have hP : va_P g.1 vwCl [(yg, aI g 19 S), (yw, aI g 18 ww), (yv, aI g 4 fv), (q2, aI g 64 (fun _ => 0)), (q8, aI g 64 (fun _ => 0))] H := hP
  have hD : va_D A [(yg, aI g 19 S), (yw, aI g 18 ww), (yv, aI g 4 fv), (q2, aI g 64 (fun _ => 0)), (q8, aI g 64 (fun _ => 0))] := hD
  refine lv_astore (lv' := [(6, .ref q8), (5, .ref q2), (0, .ref yg), (1, .ref yw), (2, .int mo), (3, .int pl), (4, .ref yv)]) hx hb dL_go_10 hl (by decide) rfl (fun ls hl => ?_)
  refine lv_aload_n hx hb dL_go_12 rfl (lv_at hl 2 rfl) ?_
  refine lv_iload_n hx hb dL_go_13 rfl (lv_at hl 4 rfl) ?_
  refine lv_aload hx hb dL_go_14 (lv_at hl 1 rfl) ?_
  refine lv_aload hx hb dL_go_16 (lv_at hl 0 rfl) ?_
  refine zSI (As := [.ref yg, .int mo, .ref q2, .ref q8]) (rest := []) (wc := [(yg, aI g 19 S), (q2, aI g 64 (fun _ => 0)), (q8, aI g 64 (fun _ => 0))]) (wr := [(yw, aI g 18 ww), (yv, aI g 4 fv)]) (wc' := [(yg, aI g 19 S), (q2, aI g 64 (fillT (ivS S) (fun _ => 0) (topS S + 1))), (q8, aI g 64 (fillT (rsS S) (fun _ => 0) (topS S + 1)))]) ⟨hx, hb, hml, hown, hts⟩ (l_ramp l g yg q2 q8 S (fun _ => 0) (fun _ => 0) mo hok h60 hmo) (va_cwS 4 hts gL_go_L_ramp rfl rfl rfl (by decide +kernel) ⟨Nat.le_of_ble_eq_true rfl, Nat.le_of_ble_eq_true rfl⟩) hE hK hP hD hS hA [0, 3, 4] [1, 2] rfl rfl rfl rfl (by decide) rfl hl.1 rfl (lv_room (Nat.le_of_ble_eq_true rfl)) ⟨(Nat.le_of_ble_eq_true rfl), (Nat.le_of_ble_eq_true rfl)⟩ dL_go_18 (fun H locs hP hD hS => ?_)
  have hP : va_P g.1 vwCl [(yw, aI g 18 ww), (yv, aI g 4 fv), (yg, aI g 19 S), (q2, aI g 64 (fillT (ivS S) (fun _ => 0) (topS S + 1))), (q8, aI g 64 (fillT (rsS S) (fun _ => 0) (topS S + 1)))] H := hP
  have hD : va_D A [(yw, aI g 18 ww), (yv, aI g 4 fv), (yg, aI g 19 S), (q2, aI g 64 (fillT (ivS S) (fun _ => 0) (topS S + 1))), (q8, aI g 64 (fillT (rsS S) (fun _ => 0) (topS S + 1)))] := hD
  refine lv_istore (lv' := [(7, .int (nI (topS S))), (6, .ref q8), (5, .ref q2), (0, .ref yg), (1, .ref yw), (2, .int mo), (3, .int pl), (4, .ref yv)]) hx hb dL_go_21 hl (by decide) rfl (fun ls hl => ?_)
  refine lv_iload_n hx hb dL_go_23 rfl (lv_at hl 6 rfl) ?_
  refine lv_aload_n hx hb dL_go_24 rfl (lv_at hl 3 rfl) ?_
  refine lv_bipush (v := 10) hx hb dL_go_25 (by decide +kernel) ?_
  refine zald (k := 10) hx hb hK hP 2 0 rfl rfl (IX.lit (by decide +kernel)) dL_go_27 ?_
  have j36 : ∀ (H : Heap) (locs : List Loc), va_P g.1 vwCl [(yw, aI g 18 ww), (yv, aI g 4 fv), (yg, aI g 19 S), (q2, aI g 64 (fillT (ivS S) (fun _ => 0) (topS S + 1))), (q8, aI g 64 (fillT (rsS S) (fun _ => 0) (topS S + 1)))] H → va_D A [(yw, aI g 18 ww), (yv, aI g 4 fv), (yg, aI g 19 S), (q2, aI g 64 (fillT (ivS S) (fun _ => 0) (topS S + 1))), (q8, aI g 64 (fillT (rsS S) (fun _ => 0) (topS S + 1)))] → va_S A sx.heap H locs → ∀ (ls : Array Slot), lv_has ls 13 [(7, .int (nI (topS S))), (6, .ref q8), (5, .ref q2), (0, .ref yg), (1, .ref yw), (2, .int mo), (3, .int pl), (4, .ref yv)] → W pg l ev (rkn 2 50 2 128) sx mi args below meth cd H locs 2 128 (MQ below (zQv g [(yg, aI g 19 (putT S (gst S (topS S) D dir D))), (yw, aI g 18 ww), (yv, aI g 4 (vQ (gmis S (topS S) D dir D) (gsp S (topS S) D D) (grN (topS S) D) (gat S (topS S) D dir D)))] A) args sx 2 128 A) (F0 mi 36 ls [.int dir]) := by
    intro H locs hP hD hS ls hl
    refine lv_istore (lv' := [(8, .int dir), (7, .int (nI (topS S))), (6, .ref q8), (5, .ref q2), (0, .ref yg), (1, .ref yw), (2, .int mo), (3, .int pl), (4, .ref yv)]) hx hb dL_go_36 hl (by decide) rfl (fun ls hl => ?_)
    refine lv_iload hx hb dL_go_38 (lv_at hl 0 rfl) ?_
    refine lv_iload_n hx hb dL_go_40 rfl (lv_at hl 7 rfl) ?_
    refine lv_aload_n hx hb dL_go_41 rfl (lv_at hl 4 rfl) ?_
    refine lv_bipush (v := 10) hx hb dL_go_42 (by decide +kernel) ?_
    refine zald (k := 10) hx hb hK hP 2 0 rfl rfl (IX.lit (by decide +kernel)) dL_go_44 ?_
    refine lv_isub hx hb dL_go_45 ?_
    refine lv_imul hx hb dL_go_46 ?_
    refine zTop (y := nI D) (by rw [hdir, hDe, Int32.mul_comm]; exact way_many hto hpl) ?_
    refine lv_istore (lv' := [(9, .int (nI D)), (8, .int dir), (7, .int (nI (topS S))), (6, .ref q8), (5, .ref q2), (0, .ref yg), (1, .ref yw), (2, .int mo), (3, .int pl), (4, .ref yv)]) hx hb dL_go_47 hl (by decide) rfl (fun ls hl => ?_)
    refine lv_iconst (v := 0) hx hb dL_go_49 (by decide +kernel) ?_
    refine lv_istore (lv' := [(10, .int 0), (9, .int (nI D)), (8, .int dir), (7, .int (nI (topS S))), (6, .ref q8), (5, .ref q2), (0, .ref yg), (1, .ref yw), (2, .int mo), (3, .int pl), (4, .ref yv)]) hx hb dL_go_50 hl (by decide) rfl (fun ls hl => ?_)
    refine lv_aload hx hb dL_go_52 (lv_at hl 10 rfl) ?_
    refine lv_iconst (v := 0) hx hb dL_go_54 (by decide +kernel) ?_
    refine lv_iconst (v := 0) hx hb dL_go_55 (by decide +kernel) ?_
    refine zast (k := 0) hx hb hK hP hD hS 1 0 rfl rfl (IX.lit (by decide +kernel)) dL_go_56 (fun H locs hP hD hS => ?_)
    have hP : va_P g.1 vwCl [(yw, aI g 18 ww), (yv, aI g 4 (upd fv 0 0)), (yg, aI g 19 S), (q2, aI g 64 (fillT (ivS S) (fun _ => 0) (topS S + 1))), (q8, aI g 64 (fillT (rsS S) (fun _ => 0) (topS S + 1)))] H := hP
    have hD : va_D A [(yw, aI g 18 ww), (yv, aI g 4 (upd fv 0 0)), (yg, aI g 19 S), (q2, aI g 64 (fillT (ivS S) (fun _ => 0) (topS S + 1))), (q8, aI g 64 (fillT (rsS S) (fun _ => 0) (topS S + 1)))] := hD
    refine lv_aload hx hb dL_go_57 (lv_at hl 10 rfl) ?_
    refine lv_iconst (v := 1) hx hb dL_go_59 (by decide +kernel) ?_
    refine lv_iconst (v := 0) hx hb dL_go_60 (by decide +kernel) ?_
    refine zast (k := 1) hx hb hK hP hD hS 1 0 rfl rfl (IX.lit (by decide +kernel)) dL_go_61 (fun H locs hP hD hS => ?_)
    have hP : va_P g.1 vwCl [(yw, aI g 18 ww), (yv, aI g 4 (upd (upd fv 0 0) 1 0)), (yg, aI g 19 S), (q2, aI g 64 (fillT (ivS S) (fun _ => 0) (topS S + 1))), (q8, aI g 64 (fillT (rsS S) (fun _ => 0) (topS S + 1)))] H := hP
    have hD : va_D A [(yw, aI g 18 ww), (yv, aI g 4 (upd (upd fv 0 0) 1 0)), (yg, aI g 19 S), (q2, aI g 64 (fillT (ivS S) (fun _ => 0) (topS S + 1))), (q8, aI g 64 (fillT (rsS S) (fun _ => 0) (topS S + 1)))] := hD
    refine lv_aload hx hb dL_go_62 (lv_at hl 10 rfl) ?_
    refine lv_iconst (v := 2) hx hb dL_go_64 (by decide +kernel) ?_
    refine lv_iconst (v := 0) hx hb dL_go_65 (by decide +kernel) ?_
    refine zast (k := 2) hx hb hK hP hD hS 1 0 rfl rfl (IX.lit (by decide +kernel)) dL_go_66 (fun H locs hP hD hS => ?_)
    have hP : va_P g.1 vwCl [(yw, aI g 18 ww), (yv, aI g 4 (upd (upd (upd fv 0 0) 1 0) 2 0)), (yg, aI g 19 S), (q2, aI g 64 (fillT (ivS S) (fun _ => 0) (topS S + 1))), (q8, aI g 64 (fillT (rsS S) (fun _ => 0) (topS S + 1)))] H := hP
    have hD : va_D A [(yw, aI g 18 ww), (yv, aI g 4 (upd (upd (upd fv 0 0) 1 0) 2 0)), (yg, aI g 19 S), (q2, aI g 64 (fillT (ivS S) (fun _ => 0) (topS S + 1))), (q8, aI g 64 (fillT (rsS S) (fun _ => 0) (topS S + 1)))] := hD
    refine lv_aload hx hb dL_go_67 (lv_at hl 10 rfl) ?_
    refine lv_iconst (v := 3) hx hb dL_go_69 (by decide +kernel) ?_
    refine lv_ldc hx hb hown (hts (.constant RL 24 (-1000004)) (List.mem_of_getElem? (i := 2) rfl)) dL_go_70 ?_
    refine zast (k := 3) hx hb hK hP hD hS 1 0 rfl rfl (IX.lit (by decide +kernel)) dL_go_72 (fun H locs hP hD hS => ?_)
    have hP : va_P g.1 vwCl [(yw, aI g 18 ww), (yv, aI g 4 (upd (upd (upd (upd fv 0 0) 1 0) 2 0) 3 (-1000004))), (yg, aI g 19 S), (q2, aI g 64 (fillT (ivS S) (fun _ => 0) (topS S + 1))), (q8, aI g 64 (fillT (rsS S) (fun _ => 0) (topS S + 1)))] H := hP
    have hD : va_D A [(yw, aI g 18 ww), (yv, aI g 4 (upd (upd (upd (upd fv 0 0) 1 0) 2 0) 3 (-1000004))), (yg, aI g 19 S), (q2, aI g 64 (fillT (ivS S) (fun _ => 0) (topS S + 1))), (q8, aI g 64 (fillT (rsS S) (fun _ => 0) (topS S + 1)))] := hD
    have hP := zP_arr (f' := vQ 0 0 0 (-1000004)) 1 rfl (vQ_i fv 0 0 0 (-1000004)) hP
    have hD := hD.set (p := 1) (e := aI g 4 (vQ 0 0 0 (-1000004))) rfl
    have hP : va_P g.1 vwCl [(yw, aI g 18 ww), (yv, aI g 4 (vQ 0 0 0 (-1000004))), (yg, aI g 19 S), (q2, aI g 64 (fillT (ivS S) (fun _ => 0) (topS S + 1))), (q8, aI g 64 (fillT (rsS S) (fun _ => 0) (topS S + 1)))] H := hP
    have hD : va_D A [(yw, aI g 18 ww), (yv, aI g 4 (vQ 0 0 0 (-1000004))), (yg, aI g 19 S), (q2, aI g 64 (fillT (ivS S) (fun _ => 0) (topS S + 1))), (q8, aI g 64 (fillT (rsS S) (fun _ => 0) (topS S + 1)))] := hD
    rw [show (vQ 0 0 0 (-1000004)) = vQ (gmis S (topS S) D dir 0) (gsp S (topS S) D 0) (nI (mxN (topS S) D 0)) (gat S (topS S) D dir 0) from (by rw [show gmis S (topS S) D dir 0 = 0 from by rw [gmis], show gsp S (topS S) D 0 = 0 from by rw [gsp], show gat S (topS S) D dir 0 = -1000004 from by rw [gat], mx_0])] at hP hD
    have hP := zP_arr (f' := putT S (gst S (topS S) D dir 0)) 2 rfl (fun k hk => by rw [show gst S (topS S) D dir 0 = getT S from by rw [gst], putT_get]) hP
    have hD := hD.set (p := 2) (e := aI g 19 (putT S (gst S (topS S) D dir 0))) rfl
    have hP : va_P g.1 vwCl [(yw, aI g 18 ww), (yv, aI g 4 (vQ (gmis S (topS S) D dir 0) (gsp S (topS S) D 0) (nI (mxN (topS S) D 0)) (gat S (topS S) D dir 0))), (yg, aI g 19 (putT S (gst S (topS S) D dir 0))), (q2, aI g 64 (fillT (ivS S) (fun _ => 0) (topS S + 1))), (q8, aI g 64 (fillT (rsS S) (fun _ => 0) (topS S + 1)))] H := hP
    have hD : va_D A [(yw, aI g 18 ww), (yv, aI g 4 (vQ (gmis S (topS S) D dir 0) (gsp S (topS S) D 0) (nI (mxN (topS S) D 0)) (gat S (topS S) D dir 0))), (yg, aI g 19 (putT S (gst S (topS S) D dir 0))), (q2, aI g 64 (fillT (ivS S) (fun _ => 0) (topS S + 1))), (q8, aI g 64 (fillT (rsS S) (fun _ => 0) (topS S + 1)))] := hD
    have lp73 : ∀ (fu : Nat) (k : Nat) (dn : Int32) (lf : Int32), (k ≤ D) → (dn = nI k) → (lf = nI (D - k)) → (D - k) < fu → ∀ (H : Heap) (locs : List Loc), va_P g.1 vwCl [(yg, aI g 19 (putT S (gst S (topS S) D dir k))), (yw, aI g 18 ww), (yv, aI g 4 (vQ (gmis S (topS S) D dir k) (gsp S (topS S) D k) (nI (mxN (topS S) D k)) (gat S (topS S) D dir k))), (q2, aI g 64 (fillT (ivS S) (fun _ => 0) (topS S + 1)))] H → va_D A [(yg, aI g 19 (putT S (gst S (topS S) D dir k))), (yw, aI g 18 ww), (yv, aI g 4 (vQ (gmis S (topS S) D dir k) (gsp S (topS S) D k) (nI (mxN (topS S) D k)) (gat S (topS S) D dir k))), (q2, aI g 64 (fillT (ivS S) (fun _ => 0) (topS S + 1)))] → va_S A sx.heap H locs → ∀ (ls : Array Slot), lv_has ls 13 [(10, .int dn), (9, .int lf), (8, .int dir), (7, .int (nI (topS S))), (0, .ref yg), (1, .ref yw), (2, .int mo), (3, .int pl), (4, .ref yv), (5, .ref q2)] → W pg l ev (rkn 2 50 2 128) sx mi args below meth cd H locs 2 128 (MQ below (zQv g [(yg, aI g 19 (putT S (gst S (topS S) D dir D))), (yw, aI g 18 ww), (yv, aI g 4 (vQ (gmis S (topS S) D dir D) (gsp S (topS S) D D) (grN (topS S) D) (gat S (topS S) D dir D)))] A) args sx 2 128 A) (F0 mi 73 ls []) := by
      intro fu
      induction fu with
      | zero =>
        intro k dn lf hk ed el hmu
        exact absurd hmu (Nat.not_lt_zero _)
      | succ fu ih =>
        intro k dn lf hk ed el hmu H locs hP hD hS ls hl
        refine lv_iload hx hb dL_go_73 (lv_at hl 1 rfl) ?_
        refine lv_if_le (tgt := 201) hx hb dL_go_75 (by decide) (fun c75 => ?_) (fun c75 => ?_)
        · have hkn : k = D := by have h := nle_of (n := D - k) (k := 0) (by omega) (by decide) (by rw [el] at c75; exact c75); omega
          rw [hkn] at hP hD
          rw [show (vQ (gmis S (topS S) D dir D) (gsp S (topS S) D D) (nI (mxN (topS S) D D)) (gat S (topS S) D dir D)) = vQ (gmis S (topS S) D dir D) (gsp S (topS S) D D) (grN (topS S) D) (gat S (topS S) D dir D) from (by rw [mx_e])] at hP hD
          exact zEva (ws' := [(yg, aI g 19 (putT S (gst S (topS S) D dir D))), (yw, aI g 18 ww), (yv, aI g 4 (vQ (gmis S (topS S) D dir D) (gsp S (topS S) D D) (grN (topS S) D) (gat S (topS S) D dir D)))]) hx hb hlocks hr hK hP hD hS [0, 1, 2] rfl rfl rfl dL_go_201
        · have hlt : k < D := Nat.lt_of_not_le (fun h => c75 (by rw [el, show D - k = 0 by omega]; decide))
          have el1 : lf + (-1) = nI (D - 1 - k) := by rw [el, show D - k = (D - 1 - k) + 1 by omega]; exact pk_m1 _
          refine lv_iinc (v := lf + (-1)) (lv' := [(9, .int (lf + (-1))), (10, .int dn), (8, .int dir), (7, .int (nI (topS S))), (0, .ref yg), (1, .ref yw), (2, .int mo), (3, .int pl), (4, .ref yv), (5, .ref q2)]) hx hb dL_go_78 hl (k := 1) rfl (by rfl) (by decide) rfl (fun ls hl => ?_)
          refine lv_iload hx hb dL_go_81 (lv_at hl 1 rfl) ?_
          refine lv_iload hx hb dL_go_83 (lv_at hl 0 rfl) ?_
          have j95 : ∀ (H : Heap) (locs : List Loc), va_P g.1 vwCl [(yg, aI g 19 (putT S (gst S (topS S) D dir k))), (yw, aI g 18 ww), (yv, aI g 4 (vQ (gmis S (topS S) D dir k) (gsp S (topS S) D k) (nI (mxN (topS S) D k)) (gat S (topS S) D dir k))), (q2, aI g 64 (fillT (ivS S) (fun _ => 0) (topS S + 1)))] H → va_D A [(yg, aI g 19 (putT S (gst S (topS S) D dir k))), (yw, aI g 18 ww), (yv, aI g 4 (vQ (gmis S (topS S) D dir k) (gsp S (topS S) D k) (nI (mxN (topS S) D k)) (gat S (topS S) D dir k))), (q2, aI g 64 (fillT (ivS S) (fun _ => 0) (topS S + 1)))] → va_S A sx.heap H locs → ∀ (ls : Array Slot), lv_has ls 13 [(9, .int (lf + (-1))), (10, .int dn), (8, .int dir), (7, .int (nI (topS S))), (0, .ref yg), (1, .ref yw), (2, .int mo), (3, .int pl), (4, .ref yv), (5, .ref q2)] → W pg l ev (rkn 2 50 2 128) sx mi args below meth cd H locs 2 128 (MQ below (zQv g [(yg, aI g 19 (putT S (gst S (topS S) D dir D))), (yw, aI g 18 ww), (yv, aI g 4 (vQ (gmis S (topS S) D dir D) (gsp S (topS S) D D) (grN (topS S) D) (gat S (topS S) D dir D)))] A) args sx 2 128 A) (F0 mi 95 ls [.int (nI (min k (D - 1 - k)))]) := by
            intro H locs hP hD hS ls hl
            refine lv_istore (lv' := [(11, .int (nI (min k (D - 1 - k)))), (9, .int (lf + (-1))), (10, .int dn), (8, .int dir), (7, .int (nI (topS S))), (0, .ref yg), (1, .ref yw), (2, .int mo), (3, .int pl), (4, .ref yv), (5, .ref q2)]) hx hb dL_go_95 hl (by decide) rfl (fun ls hl => ?_)
            refine lv_iload hx hb dL_go_97 (lv_at hl 0 rfl) ?_
            refine lv_iload hx hb dL_go_99 (lv_at hl 4 rfl) ?_
            have j111 : ∀ (H : Heap) (locs : List Loc), va_P g.1 vwCl [(yg, aI g 19 (putT S (gst S (topS S) D dir k))), (yw, aI g 18 ww), (yv, aI g 4 (vQ (gmis S (topS S) D dir k) (gsp S (topS S) D k) (nI (mxN (topS S) D k)) (gat S (topS S) D dir k))), (q2, aI g 64 (fillT (ivS S) (fun _ => 0) (topS S + 1)))] H → va_D A [(yg, aI g 19 (putT S (gst S (topS S) D dir k))), (yw, aI g 18 ww), (yv, aI g 4 (vQ (gmis S (topS S) D dir k) (gsp S (topS S) D k) (nI (mxN (topS S) D k)) (gat S (topS S) D dir k))), (q2, aI g 64 (fillT (ivS S) (fun _ => 0) (topS S + 1)))] → va_S A sx.heap H locs → ∀ (ls : Array Slot), lv_has ls 13 [(11, .int (nI (min k (D - 1 - k)))), (9, .int (lf + (-1))), (10, .int dn), (8, .int dir), (7, .int (nI (topS S))), (0, .ref yg), (1, .ref yw), (2, .int mo), (3, .int pl), (4, .ref yv), (5, .ref q2)] → W pg l ev (rkn 2 50 2 128) sx mi args below meth cd H locs 2 128 (MQ below (zQv g [(yg, aI g 19 (putT S (gst S (topS S) D dir D))), (yw, aI g 18 ww), (yv, aI g 4 (vQ (gmis S (topS S) D dir D) (gsp S (topS S) D D) (grN (topS S) D) (gat S (topS S) D dir D)))] A) args sx 2 128 A) (F0 mi 111 ls [.int (nI (ix (topS S) k D))]) := by
              intro H locs hP hD hS ls hl
              refine lv_istore (lv' := [(11, .int (nI (ix (topS S) k D))), (9, .int (lf + (-1))), (10, .int dn), (8, .int dir), (7, .int (nI (topS S))), (0, .ref yg), (1, .ref yw), (2, .int mo), (3, .int pl), (4, .ref yv), (5, .ref q2)]) hx hb dL_go_111 hl (by decide) rfl (fun ls hl => ?_)
              refine lv_aload_n hx hb dL_go_113 rfl (lv_at hl 5 rfl) ?_
              refine lv_bipush (v := 11) hx hb dL_go_114 (by decide +kernel) ?_
              refine zald (k := 11) hx hb hK hP 0 0 rfl rfl (IX.lit (by decide +kernel)) dL_go_116 ?_
              refine zTop (y := (gst S (topS S) D dir k).2.1) rfl ?_
              refine lv_istore (lv' := [(12, .int ((gst S (topS S) D dir k).2.1)), (11, .int (nI (ix (topS S) k D))), (9, .int (lf + (-1))), (10, .int dn), (8, .int dir), (7, .int (nI (topS S))), (0, .ref yg), (1, .ref yw), (2, .int mo), (3, .int pl), (4, .ref yv), (5, .ref q2)]) hx hb dL_go_117 hl (by decide) rfl (fun ls hl => ?_)
              refine lv_aload_n hx hb dL_go_119 rfl (lv_at hl 6 rfl) ?_
              refine lv_aload_n hx hb dL_go_120 rfl (lv_at hl 7 rfl) ?_
              refine lv_aload hx hb dL_go_121 (lv_at hl 11 rfl) ?_
              refine lv_iload hx hb dL_go_123 (lv_at hl 4 rfl) ?_
              refine lv_iload hx hb dL_go_125 (lv_at hl 1 rfl) ?_
              refine zSI (As := [.ref yg, .ref yw, .ref q2, .int dir, .int (nI (ix (topS S) k D))]) (rest := []) (wc := [(yg, aI g 19 (putT S (gst S (topS S) D dir k))), (yw, aI g 18 ww), (q2, aI g 64 (fillT (ivS S) (fun _ => 0) (topS S + 1)))]) (wr := [(yv, aI g 4 (vQ (gmis S (topS S) D dir k) (gsp S (topS S) D k) (nI (mxN (topS S) D k)) (gat S (topS S) D dir k)))]) (wc' := [(yg, aI g 19 (putT (putT S (gst S (topS S) D dir k)) (stp (putT S (gst S (topS S) D dir k)) dir ((fillT (ivS S) (fun _ => 0) (topS S + 1)) (ix (topS S) k D)) (puS (putT S (gst S (topS S) D dir k)) (ix (topS S) k D)) (getT (putT S (gst S (topS S) D dir k)))))), (yw, aI g 18 ww), (q2, aI g 64 (fillT (ivS S) (fun _ => 0) (topS S + 1)))]) ⟨hx, hb, hml, hown, hts⟩ (l_step l g yg yw q2 (putT S (gst S (topS S) D dir k)) ww (fillT (ivS S) (fun _ => 0) (topS S + 1)) dir (nI (ix (topS S) k D)) (ix (topS S) k D) (setOk_put hok) hnl (by rw [hw, wS_put]) rfl (by have := ix_le (topS S) k D; omega)) (va_cwS 5 hts gL_go_L_step rfl rfl rfl (by decide +kernel) ⟨Nat.le_of_ble_eq_true rfl, Nat.le_of_ble_eq_true rfl⟩) hE hK hP hD hS hA [0, 1, 3] [2] rfl rfl rfl rfl (by decide) rfl hl.1 rfl (lv_room (Nat.le_of_ble_eq_true rfl)) ⟨(Nat.le_of_ble_eq_true rfl), (Nat.le_of_ble_eq_true rfl)⟩ dL_go_127 (fun H locs hP hD hS => ?_)
              have hP : va_P g.1 vwCl [(yv, aI g 4 (vQ (gmis S (topS S) D dir k) (gsp S (topS S) D k) (nI (mxN (topS S) D k)) (gat S (topS S) D dir k))), (yg, aI g 19 (putT (putT S (gst S (topS S) D dir k)) (stp (putT S (gst S (topS S) D dir k)) dir ((fillT (ivS S) (fun _ => 0) (topS S + 1)) (ix (topS S) k D)) (puS (putT S (gst S (topS S) D dir k)) (ix (topS S) k D)) (getT (putT S (gst S (topS S) D dir k)))))), (yw, aI g 18 ww), (q2, aI g 64 (fillT (ivS S) (fun _ => 0) (topS S + 1)))] H := hP
              have hD : va_D A [(yv, aI g 4 (vQ (gmis S (topS S) D dir k) (gsp S (topS S) D k) (nI (mxN (topS S) D k)) (gat S (topS S) D dir k))), (yg, aI g 19 (putT (putT S (gst S (topS S) D dir k)) (stp (putT S (gst S (topS S) D dir k)) dir ((fillT (ivS S) (fun _ => 0) (topS S + 1)) (ix (topS S) k D)) (puS (putT S (gst S (topS S) D dir k)) (ix (topS S) k D)) (getT (putT S (gst S (topS S) D dir k)))))), (yw, aI g 18 ww), (q2, aI g 64 (fillT (ivS S) (fun _ => 0) (topS S + 1)))] := hD
              have e1 : stp (putT S (gst S (topS S) D dir k)) dir (fillT (ivS S) (fun _ => 0) (topS S + 1) (ix (topS S) k D)) (puS (putT S (gst S (topS S) D dir k)) (ix (topS S) k D)) (getT (putT S (gst S (topS S) D dir k))) = gst S (topS S) D dir (k + 1) := by rw [stp_put, fillT_in (Nat.lt_succ_of_le (ix_le _ _ _))]; rfl
              rw [show (putT (putT S (gst S (topS S) D dir k)) (stp (putT S (gst S (topS S) D dir k)) dir ((fillT (ivS S) (fun _ => 0) (topS S + 1)) (ix (topS S) k D)) (puS (putT S (gst S (topS S) D dir k)) (ix (topS S) k D)) (getT (putT S (gst S (topS S) D dir k))))) = putT S (gst S (topS S) D dir (k + 1)) from (by rw [e1, putT_put])] at hP hD
              refine zTop (y := b01 (¬ (gMs S (topS S) D dir k))) (by rw [ldS_put]; rfl) ?_
              refine lv_if_ne (tgt := 161) hx hb dL_go_130 (by decide) (fun c130 => ?_) (fun c130 => ?_)
              · have c130 := b01_t c130
                rw [show (vQ (gmis S (topS S) D dir k) (gsp S (topS S) D k) (nI (mxN (topS S) D k)) (gat S (topS S) D dir k)) = vQ (gmis S (topS S) D dir (k + 1)) (gsp S (topS S) D k) (nI (mxN (topS S) D k)) (gat S (topS S) D dir (k + 1)) from (by rw [show gmis S (topS S) D dir (k + 1) = gmis S (topS S) D dir k from by rw [gmis, if_neg c130], show gat S (topS S) D dir (k + 1) = gat S (topS S) D dir k from by rw [gat, if_neg c130]])] at hP hD
                refine lv_aload hx hb dL_go_161 (lv_at hl 10 rfl) ?_
                refine lv_iconst (v := 1) hx hb dL_go_163 (by decide +kernel) ?_
                refine lv_dup2_11 hx hb dL_go_164 rfl rfl ?_
                refine zald (k := 1) hx hb hK hP 0 0 rfl rfl (IX.lit (by decide +kernel)) dL_go_165 ?_
                refine zTop (y := gsp S (topS S) D k) rfl ?_
                refine lv_aload hx hb dL_go_166 (lv_at hl 11 rfl) ?_
                refine lv_iload hx hb dL_go_168 (lv_at hl 1 rfl) ?_
                refine zald (k := (ix (topS S) k D)) hx hb hK hP 3 0 rfl rfl (IX.of rfl (by have := ix_le (topS S) k D; omega) (by decide)) dL_go_170 ?_
                refine zTop (y := ivS S (ix (topS S) k D)) (fillT_in (Nat.lt_succ_of_le (ix_le _ _ _))) ?_
                refine lv_iadd hx hb dL_go_171 ?_
                refine zast (k := 1) hx hb hK hP hD hS 0 0 rfl rfl (IX.lit (by decide +kernel)) dL_go_172 (fun H locs hP hD hS => ?_)
                have hP : va_P g.1 vwCl [(yv, aI g 4 (upd (vQ (gmis S (topS S) D dir (k + 1)) (gsp S (topS S) D k) (nI (mxN (topS S) D k)) (gat S (topS S) D dir (k + 1))) 1 ((gsp S (topS S) D k) + (ivS S (ix (topS S) k D))))), (yg, aI g 19 (putT S (gst S (topS S) D dir (k + 1)))), (yw, aI g 18 ww), (q2, aI g 64 (fillT (ivS S) (fun _ => 0) (topS S + 1)))] H := hP
                have hD : va_D A [(yv, aI g 4 (upd (vQ (gmis S (topS S) D dir (k + 1)) (gsp S (topS S) D k) (nI (mxN (topS S) D k)) (gat S (topS S) D dir (k + 1))) 1 ((gsp S (topS S) D k) + (ivS S (ix (topS S) k D))))), (yg, aI g 19 (putT S (gst S (topS S) D dir (k + 1)))), (yw, aI g 18 ww), (q2, aI g 64 (fillT (ivS S) (fun _ => 0) (topS S + 1)))] := hD
                rw [show (upd (vQ (gmis S (topS S) D dir (k + 1)) (gsp S (topS S) D k) (nI (mxN (topS S) D k)) (gat S (topS S) D dir (k + 1))) 1 ((gsp S (topS S) D k) + (ivS S (ix (topS S) k D)))) = vQ (gmis S (topS S) D dir (k + 1)) (gsp S (topS S) D (k + 1)) (nI (mxN (topS S) D k)) (gat S (topS S) D dir (k + 1)) from (by rw [vQ_1]; rfl)] at hP hD
                refine lv_aload hx hb dL_go_173 (lv_at hl 10 rfl) ?_
                refine lv_iconst (v := 2) hx hb dL_go_175 (by decide +kernel) ?_
                refine lv_iload hx hb dL_go_176 (lv_at hl 1 rfl) ?_
                refine lv_aload hx hb dL_go_178 (lv_at hl 10 rfl) ?_
                refine lv_iconst (v := 2) hx hb dL_go_180 (by decide +kernel) ?_
                refine zald (k := 2) hx hb hK hP 0 0 rfl rfl (IX.lit (by decide +kernel)) dL_go_181 ?_
                refine zTop (y := nI (mxN (topS S) D k)) rfl ?_
                have j194 : ∀ (H : Heap) (locs : List Loc), va_P g.1 vwCl [(yv, aI g 4 (vQ (gmis S (topS S) D dir (k + 1)) (gsp S (topS S) D (k + 1)) (nI (mxN (topS S) D k)) (gat S (topS S) D dir (k + 1)))), (yg, aI g 19 (putT S (gst S (topS S) D dir (k + 1)))), (yw, aI g 18 ww), (q2, aI g 64 (fillT (ivS S) (fun _ => 0) (topS S + 1)))] H → va_D A [(yv, aI g 4 (vQ (gmis S (topS S) D dir (k + 1)) (gsp S (topS S) D (k + 1)) (nI (mxN (topS S) D k)) (gat S (topS S) D dir (k + 1)))), (yg, aI g 19 (putT S (gst S (topS S) D dir (k + 1)))), (yw, aI g 18 ww), (q2, aI g 64 (fillT (ivS S) (fun _ => 0) (topS S + 1)))] → va_S A sx.heap H locs → ∀ (ls : Array Slot), lv_has ls 13 [(12, .int ((gst S (topS S) D dir k).2.1)), (11, .int (nI (ix (topS S) k D))), (9, .int (lf + (-1))), (10, .int dn), (8, .int dir), (7, .int (nI (topS S))), (0, .ref yg), (1, .ref yw), (2, .int mo), (3, .int pl), (4, .ref yv), (5, .ref q2)] → W pg l ev (rkn 2 50 2 128) sx mi args below meth cd H locs 2 128 (MQ below (zQv g [(yg, aI g 19 (putT S (gst S (topS S) D dir D))), (yw, aI g 18 ww), (yv, aI g 4 (vQ (gmis S (topS S) D dir D) (gsp S (topS S) D D) (grN (topS S) D) (gat S (topS S) D dir D)))] A) args sx 2 128 A) (F0 mi 194 ls [.int (nI (mxN (topS S) D (k + 1))), .int 2, .ref yv]) := by
                  intro H locs hP hD hS ls hl
                  refine zast (k := 2) hx hb hK hP hD hS 0 0 rfl rfl (IX.lit (by decide +kernel)) dL_go_194 (fun H locs hP hD hS => ?_)
                  have hP : va_P g.1 vwCl [(yv, aI g 4 (upd (vQ (gmis S (topS S) D dir (k + 1)) (gsp S (topS S) D (k + 1)) (nI (mxN (topS S) D k)) (gat S (topS S) D dir (k + 1))) 2 (nI (mxN (topS S) D (k + 1))))), (yg, aI g 19 (putT S (gst S (topS S) D dir (k + 1)))), (yw, aI g 18 ww), (q2, aI g 64 (fillT (ivS S) (fun _ => 0) (topS S + 1)))] H := hP
                  have hD : va_D A [(yv, aI g 4 (upd (vQ (gmis S (topS S) D dir (k + 1)) (gsp S (topS S) D (k + 1)) (nI (mxN (topS S) D k)) (gat S (topS S) D dir (k + 1))) 2 (nI (mxN (topS S) D (k + 1))))), (yg, aI g 19 (putT S (gst S (topS S) D dir (k + 1)))), (yw, aI g 18 ww), (q2, aI g 64 (fillT (ivS S) (fun _ => 0) (topS S + 1)))] := hD
                  rw [show (upd (vQ (gmis S (topS S) D dir (k + 1)) (gsp S (topS S) D (k + 1)) (nI (mxN (topS S) D k)) (gat S (topS S) D dir (k + 1))) 2 (nI (mxN (topS S) D (k + 1)))) = vQ (gmis S (topS S) D dir (k + 1)) (gsp S (topS S) D (k + 1)) (nI (mxN (topS S) D (k + 1))) (gat S (topS S) D dir (k + 1)) from vQ_2 _ _ _ _ _] at hP hD
                  refine lv_iinc (v := dn + 1) (lv' := [(10, .int (dn + 1)), (12, .int ((gst S (topS S) D dir k).2.1)), (11, .int (nI (ix (topS S) k D))), (9, .int (lf + (-1))), (8, .int dir), (7, .int (nI (topS S))), (0, .ref yg), (1, .ref yw), (2, .int mo), (3, .int pl), (4, .ref yv), (5, .ref q2)]) hx hb dL_go_195 hl (k := 3) rfl (by rfl) (by decide) rfl (fun ls hl => ?_)
                  refine lv_goto (tgt := 73) hx hb dL_go_198 (by decide) ?_
                  exact ih (k + 1) (dn + 1) (lf + (-1)) hlt (by rw [ed]; exact nI_1 k) (by rw [el1]; exact congrArg nI (by omega)) (by omega) _ _ (zP_sub hP [1, 2, 0, 3] rfl) (hD.sub [1, 2, 0, 3] rfl rfl) hS ls (lv_sub hl [0, 3, 4, 5, 6, 7, 8, 9, 10, 11] rfl)
                refine lv_icmp_le (tgt := 190) hx hb dL_go_182 (by decide) (fun c182 => ?_) (fun c182 => ?_)
                · refine lv_aload hx hb dL_go_190 (lv_at hl 10 rfl) ?_
                  refine lv_iconst (v := 2) hx hb dL_go_192 (by decide +kernel) ?_
                  refine zald (k := 2) hx hb hK hP 0 0 rfl rfl (IX.lit (by decide +kernel)) dL_go_193 ?_
                  refine zTop (y := nI (mxN (topS S) D k)) rfl ?_
                  refine zTop (y := nI (mxN (topS S) D (k + 1))) (mx_le hlt hDD c182) ?_
                  exact j194 _ _ (zP_sub hP [0, 1, 2, 3] rfl) (hD.sub [0, 1, 2, 3] rfl rfl) hS ls (lv_sub hl [0, 1, 2, 3, 4, 5, 6, 7, 8, 9, 10, 11] rfl)
                · refine lv_iload hx hb dL_go_185 (lv_at hl 1 rfl) ?_
                  refine lv_goto (tgt := 194) hx hb dL_go_187 (by decide) ?_
                  refine zTop (y := nI (mxN (topS S) D (k + 1))) (mx_gt hlt hDD c182) ?_
                  exact j194 _ _ (zP_sub hP [0, 1, 2, 3] rfl) (hD.sub [0, 1, 2, 3] rfl rfl) hS ls (lv_sub hl [0, 1, 2, 3, 4, 5, 6, 7, 8, 9, 10, 11] rfl)
              · have c130 := b01_f c130
                have hm : gMs S (topS S) D dir k := Classical.not_not.mp c130
                refine lv_aload hx hb dL_go_133 (lv_at hl 10 rfl) ?_
                refine lv_iconst (v := 3) hx hb dL_go_135 (by decide +kernel) ?_
                refine lv_aload hx hb dL_go_136 (lv_at hl 10 rfl) ?_
                refine lv_iconst (v := 0) hx hb dL_go_138 (by decide +kernel) ?_
                refine zald (k := 0) hx hb hK hP 0 0 rfl rfl (IX.lit (by decide +kernel)) dL_go_139 ?_
                refine zTop (y := gmis S (topS S) D dir k) rfl ?_
                have j152 : ∀ (H : Heap) (locs : List Loc), va_P g.1 vwCl [(yv, aI g 4 (vQ (gmis S (topS S) D dir k) (gsp S (topS S) D k) (nI (mxN (topS S) D k)) (gat S (topS S) D dir k))), (yg, aI g 19 (putT S (gst S (topS S) D dir (k + 1)))), (yw, aI g 18 ww), (q2, aI g 64 (fillT (ivS S) (fun _ => 0) (topS S + 1)))] H → va_D A [(yv, aI g 4 (vQ (gmis S (topS S) D dir k) (gsp S (topS S) D k) (nI (mxN (topS S) D k)) (gat S (topS S) D dir k))), (yg, aI g 19 (putT S (gst S (topS S) D dir (k + 1)))), (yw, aI g 18 ww), (q2, aI g 64 (fillT (ivS S) (fun _ => 0) (topS S + 1)))] → va_S A sx.heap H locs → ∀ (ls : Array Slot), lv_has ls 13 [(12, .int ((gst S (topS S) D dir k).2.1)), (11, .int (nI (ix (topS S) k D))), (9, .int (lf + (-1))), (10, .int dn), (8, .int dir), (7, .int (nI (topS S))), (0, .ref yg), (1, .ref yw), (2, .int mo), (3, .int pl), (4, .ref yv), (5, .ref q2)] → W pg l ev (rkn 2 50 2 128) sx mi args below meth cd H locs 2 128 (MQ below (zQv g [(yg, aI g 19 (putT S (gst S (topS S) D dir D))), (yw, aI g 18 ww), (yv, aI g 4 (vQ (gmis S (topS S) D dir D) (gsp S (topS S) D D) (grN (topS S) D) (gat S (topS S) D dir D)))] A) args sx 2 128 A) (F0 mi 152 ls [.int (gat S (topS S) D dir (k + 1)), .int 3, .ref yv]) := by
                  intro H locs hP hD hS ls hl
                  refine zast (k := 3) hx hb hK hP hD hS 0 0 rfl rfl (IX.lit (by decide +kernel)) dL_go_152 (fun H locs hP hD hS => ?_)
                  have hP : va_P g.1 vwCl [(yv, aI g 4 (upd (vQ (gmis S (topS S) D dir k) (gsp S (topS S) D k) (nI (mxN (topS S) D k)) (gat S (topS S) D dir k)) 3 (gat S (topS S) D dir (k + 1)))), (yg, aI g 19 (putT S (gst S (topS S) D dir (k + 1)))), (yw, aI g 18 ww), (q2, aI g 64 (fillT (ivS S) (fun _ => 0) (topS S + 1)))] H := hP
                  have hD : va_D A [(yv, aI g 4 (upd (vQ (gmis S (topS S) D dir k) (gsp S (topS S) D k) (nI (mxN (topS S) D k)) (gat S (topS S) D dir k)) 3 (gat S (topS S) D dir (k + 1)))), (yg, aI g 19 (putT S (gst S (topS S) D dir (k + 1)))), (yw, aI g 18 ww), (q2, aI g 64 (fillT (ivS S) (fun _ => 0) (topS S + 1)))] := hD
                  rw [show (upd (vQ (gmis S (topS S) D dir k) (gsp S (topS S) D k) (nI (mxN (topS S) D k)) (gat S (topS S) D dir k)) 3 (gat S (topS S) D dir (k + 1))) = vQ (gmis S (topS S) D dir k) (gsp S (topS S) D k) (nI (mxN (topS S) D k)) (gat S (topS S) D dir (k + 1)) from vQ_3 _ _ _ _ _] at hP hD
                  refine lv_aload hx hb dL_go_153 (lv_at hl 10 rfl) ?_
                  refine lv_iconst (v := 0) hx hb dL_go_155 (by decide +kernel) ?_
                  refine lv_dup2_11 hx hb dL_go_156 rfl rfl ?_
                  refine zald (k := 0) hx hb hK hP 0 0 rfl rfl (IX.lit (by decide +kernel)) dL_go_157 ?_
                  refine zTop (y := gmis S (topS S) D dir k) rfl ?_
                  refine lv_iconst (v := 1) hx hb dL_go_158 (by decide +kernel) ?_
                  refine lv_iadd hx hb dL_go_159 ?_
                  refine zast (k := 0) hx hb hK hP hD hS 0 0 rfl rfl (IX.lit (by decide +kernel)) dL_go_160 (fun H locs hP hD hS => ?_)
                  have hP : va_P g.1 vwCl [(yv, aI g 4 (upd (vQ (gmis S (topS S) D dir k) (gsp S (topS S) D k) (nI (mxN (topS S) D k)) (gat S (topS S) D dir (k + 1))) 0 ((gmis S (topS S) D dir k) + 1))), (yg, aI g 19 (putT S (gst S (topS S) D dir (k + 1)))), (yw, aI g 18 ww), (q2, aI g 64 (fillT (ivS S) (fun _ => 0) (topS S + 1)))] H := hP
                  have hD : va_D A [(yv, aI g 4 (upd (vQ (gmis S (topS S) D dir k) (gsp S (topS S) D k) (nI (mxN (topS S) D k)) (gat S (topS S) D dir (k + 1))) 0 ((gmis S (topS S) D dir k) + 1))), (yg, aI g 19 (putT S (gst S (topS S) D dir (k + 1)))), (yw, aI g 18 ww), (q2, aI g 64 (fillT (ivS S) (fun _ => 0) (topS S + 1)))] := hD
                  rw [show (upd (vQ (gmis S (topS S) D dir k) (gsp S (topS S) D k) (nI (mxN (topS S) D k)) (gat S (topS S) D dir (k + 1))) 0 ((gmis S (topS S) D dir k) + 1)) = vQ (gmis S (topS S) D dir (k + 1)) (gsp S (topS S) D k) (nI (mxN (topS S) D k)) (gat S (topS S) D dir (k + 1)) from (by rw [vQ_0, show gmis S (topS S) D dir (k + 1) = gmis S (topS S) D dir k + 1 from by rw [gmis, if_pos hm]])] at hP hD
                  refine lv_aload hx hb dL_go_161 (lv_at hl 10 rfl) ?_
                  refine lv_iconst (v := 1) hx hb dL_go_163 (by decide +kernel) ?_
                  refine lv_dup2_11 hx hb dL_go_164 rfl rfl ?_
                  refine zald (k := 1) hx hb hK hP 0 0 rfl rfl (IX.lit (by decide +kernel)) dL_go_165 ?_
                  refine zTop (y := gsp S (topS S) D k) rfl ?_
                  refine lv_aload hx hb dL_go_166 (lv_at hl 11 rfl) ?_
                  refine lv_iload hx hb dL_go_168 (lv_at hl 1 rfl) ?_
                  refine zald (k := (ix (topS S) k D)) hx hb hK hP 3 0 rfl rfl (IX.of rfl (by have := ix_le (topS S) k D; omega) (by decide)) dL_go_170 ?_
                  refine zTop (y := ivS S (ix (topS S) k D)) (fillT_in (Nat.lt_succ_of_le (ix_le _ _ _))) ?_
                  refine lv_iadd hx hb dL_go_171 ?_
                  refine zast (k := 1) hx hb hK hP hD hS 0 0 rfl rfl (IX.lit (by decide +kernel)) dL_go_172 (fun H locs hP hD hS => ?_)
                  have hP : va_P g.1 vwCl [(yv, aI g 4 (upd (vQ (gmis S (topS S) D dir (k + 1)) (gsp S (topS S) D k) (nI (mxN (topS S) D k)) (gat S (topS S) D dir (k + 1))) 1 ((gsp S (topS S) D k) + (ivS S (ix (topS S) k D))))), (yg, aI g 19 (putT S (gst S (topS S) D dir (k + 1)))), (yw, aI g 18 ww), (q2, aI g 64 (fillT (ivS S) (fun _ => 0) (topS S + 1)))] H := hP
                  have hD : va_D A [(yv, aI g 4 (upd (vQ (gmis S (topS S) D dir (k + 1)) (gsp S (topS S) D k) (nI (mxN (topS S) D k)) (gat S (topS S) D dir (k + 1))) 1 ((gsp S (topS S) D k) + (ivS S (ix (topS S) k D))))), (yg, aI g 19 (putT S (gst S (topS S) D dir (k + 1)))), (yw, aI g 18 ww), (q2, aI g 64 (fillT (ivS S) (fun _ => 0) (topS S + 1)))] := hD
                  rw [show (upd (vQ (gmis S (topS S) D dir (k + 1)) (gsp S (topS S) D k) (nI (mxN (topS S) D k)) (gat S (topS S) D dir (k + 1))) 1 ((gsp S (topS S) D k) + (ivS S (ix (topS S) k D)))) = vQ (gmis S (topS S) D dir (k + 1)) (gsp S (topS S) D (k + 1)) (nI (mxN (topS S) D k)) (gat S (topS S) D dir (k + 1)) from (by rw [vQ_1]; rfl)] at hP hD
                  refine lv_aload hx hb dL_go_173 (lv_at hl 10 rfl) ?_
                  refine lv_iconst (v := 2) hx hb dL_go_175 (by decide +kernel) ?_
                  refine lv_iload hx hb dL_go_176 (lv_at hl 1 rfl) ?_
                  refine lv_aload hx hb dL_go_178 (lv_at hl 10 rfl) ?_
                  refine lv_iconst (v := 2) hx hb dL_go_180 (by decide +kernel) ?_
                  refine zald (k := 2) hx hb hK hP 0 0 rfl rfl (IX.lit (by decide +kernel)) dL_go_181 ?_
                  refine zTop (y := nI (mxN (topS S) D k)) rfl ?_
                  have j194 : ∀ (H : Heap) (locs : List Loc), va_P g.1 vwCl [(yv, aI g 4 (vQ (gmis S (topS S) D dir (k + 1)) (gsp S (topS S) D (k + 1)) (nI (mxN (topS S) D k)) (gat S (topS S) D dir (k + 1)))), (yg, aI g 19 (putT S (gst S (topS S) D dir (k + 1)))), (yw, aI g 18 ww), (q2, aI g 64 (fillT (ivS S) (fun _ => 0) (topS S + 1)))] H → va_D A [(yv, aI g 4 (vQ (gmis S (topS S) D dir (k + 1)) (gsp S (topS S) D (k + 1)) (nI (mxN (topS S) D k)) (gat S (topS S) D dir (k + 1)))), (yg, aI g 19 (putT S (gst S (topS S) D dir (k + 1)))), (yw, aI g 18 ww), (q2, aI g 64 (fillT (ivS S) (fun _ => 0) (topS S + 1)))] → va_S A sx.heap H locs → ∀ (ls : Array Slot), lv_has ls 13 [(12, .int ((gst S (topS S) D dir k).2.1)), (11, .int (nI (ix (topS S) k D))), (9, .int (lf + (-1))), (10, .int dn), (8, .int dir), (7, .int (nI (topS S))), (0, .ref yg), (1, .ref yw), (2, .int mo), (3, .int pl), (4, .ref yv), (5, .ref q2)] → W pg l ev (rkn 2 50 2 128) sx mi args below meth cd H locs 2 128 (MQ below (zQv g [(yg, aI g 19 (putT S (gst S (topS S) D dir D))), (yw, aI g 18 ww), (yv, aI g 4 (vQ (gmis S (topS S) D dir D) (gsp S (topS S) D D) (grN (topS S) D) (gat S (topS S) D dir D)))] A) args sx 2 128 A) (F0 mi 194 ls [.int (nI (mxN (topS S) D (k + 1))), .int 2, .ref yv]) := by
                    intro H locs hP hD hS ls hl
                    refine zast (k := 2) hx hb hK hP hD hS 0 0 rfl rfl (IX.lit (by decide +kernel)) dL_go_194 (fun H locs hP hD hS => ?_)
                    have hP : va_P g.1 vwCl [(yv, aI g 4 (upd (vQ (gmis S (topS S) D dir (k + 1)) (gsp S (topS S) D (k + 1)) (nI (mxN (topS S) D k)) (gat S (topS S) D dir (k + 1))) 2 (nI (mxN (topS S) D (k + 1))))), (yg, aI g 19 (putT S (gst S (topS S) D dir (k + 1)))), (yw, aI g 18 ww), (q2, aI g 64 (fillT (ivS S) (fun _ => 0) (topS S + 1)))] H := hP
                    have hD : va_D A [(yv, aI g 4 (upd (vQ (gmis S (topS S) D dir (k + 1)) (gsp S (topS S) D (k + 1)) (nI (mxN (topS S) D k)) (gat S (topS S) D dir (k + 1))) 2 (nI (mxN (topS S) D (k + 1))))), (yg, aI g 19 (putT S (gst S (topS S) D dir (k + 1)))), (yw, aI g 18 ww), (q2, aI g 64 (fillT (ivS S) (fun _ => 0) (topS S + 1)))] := hD
                    rw [show (upd (vQ (gmis S (topS S) D dir (k + 1)) (gsp S (topS S) D (k + 1)) (nI (mxN (topS S) D k)) (gat S (topS S) D dir (k + 1))) 2 (nI (mxN (topS S) D (k + 1)))) = vQ (gmis S (topS S) D dir (k + 1)) (gsp S (topS S) D (k + 1)) (nI (mxN (topS S) D (k + 1))) (gat S (topS S) D dir (k + 1)) from vQ_2 _ _ _ _ _] at hP hD
                    refine lv_iinc (v := dn + 1) (lv' := [(10, .int (dn + 1)), (12, .int ((gst S (topS S) D dir k).2.1)), (11, .int (nI (ix (topS S) k D))), (9, .int (lf + (-1))), (8, .int dir), (7, .int (nI (topS S))), (0, .ref yg), (1, .ref yw), (2, .int mo), (3, .int pl), (4, .ref yv), (5, .ref q2)]) hx hb dL_go_195 hl (k := 3) rfl (by rfl) (by decide) rfl (fun ls hl => ?_)
                    refine lv_goto (tgt := 73) hx hb dL_go_198 (by decide) ?_
                    exact ih (k + 1) (dn + 1) (lf + (-1)) hlt (by rw [ed]; exact nI_1 k) (by rw [el1]; exact congrArg nI (by omega)) (by omega) _ _ (zP_sub hP [1, 2, 0, 3] rfl) (hD.sub [1, 2, 0, 3] rfl rfl) hS ls (lv_sub hl [0, 3, 4, 5, 6, 7, 8, 9, 10, 11] rfl)
                  refine lv_icmp_le (tgt := 190) hx hb dL_go_182 (by decide) (fun c182 => ?_) (fun c182 => ?_)
                  · refine lv_aload hx hb dL_go_190 (lv_at hl 10 rfl) ?_
                    refine lv_iconst (v := 2) hx hb dL_go_192 (by decide +kernel) ?_
                    refine zald (k := 2) hx hb hK hP 0 0 rfl rfl (IX.lit (by decide +kernel)) dL_go_193 ?_
                    refine zTop (y := nI (mxN (topS S) D k)) rfl ?_
                    refine zTop (y := nI (mxN (topS S) D (k + 1))) (mx_le hlt hDD c182) ?_
                    exact j194 _ _ (zP_sub hP [0, 1, 2, 3] rfl) (hD.sub [0, 1, 2, 3] rfl rfl) hS ls (lv_sub hl [0, 1, 2, 3, 4, 5, 6, 7, 8, 9, 10, 11] rfl)
                  · refine lv_iload hx hb dL_go_185 (lv_at hl 1 rfl) ?_
                    refine lv_goto (tgt := 194) hx hb dL_go_187 (by decide) ?_
                    refine zTop (y := nI (mxN (topS S) D (k + 1))) (mx_gt hlt hDD c182) ?_
                    exact j194 _ _ (zP_sub hP [0, 1, 2, 3] rfl) (hD.sub [0, 1, 2, 3] rfl rfl) hS ls (lv_sub hl [0, 1, 2, 3, 4, 5, 6, 7, 8, 9, 10, 11] rfl)
                refine lv_if_ne (tgt := 148) hx hb dL_go_140 (by decide) (fun c140 => ?_) (fun c140 => ?_)
                · refine lv_aload hx hb dL_go_148 (lv_at hl 10 rfl) ?_
                  refine lv_iconst (v := 3) hx hb dL_go_150 (by decide +kernel) ?_
                  refine zald (k := 3) hx hb hK hP 0 0 rfl rfl (IX.lit (by decide +kernel)) dL_go_151 ?_
                  refine zTop (y := gat S (topS S) D dir k) rfl ?_
                  refine zTop (y := gat S (topS S) D dir (k + 1)) (by rw [gat, if_pos hm, if_neg c140]) ?_
                  exact j152 _ _ (zP_sub hP [0, 1, 2, 3] rfl) (hD.sub [0, 1, 2, 3] rfl rfl) hS ls (lv_sub hl [0, 1, 2, 3, 4, 5, 6, 7, 8, 9, 10, 11] rfl)
                · refine lv_iload hx hb dL_go_143 (lv_at hl 0 rfl) ?_
                  refine lv_goto (tgt := 152) hx hb dL_go_145 (by decide) ?_
                  refine zTop (y := gat S (topS S) D dir (k + 1)) (by rw [gat, if_pos hm, if_pos c140]) ?_
                  exact j152 _ _ (zP_sub hP [0, 1, 2, 3] rfl) (hD.sub [0, 1, 2, 3] rfl rfl) hS ls (lv_sub hl [0, 1, 2, 3, 4, 5, 6, 7, 8, 9, 10, 11] rfl)
            refine lv_icmp_ge (tgt := 109) hx hb dL_go_101 (by decide) (fun c101 => ?_) (fun c101 => ?_)
            · refine lv_iload hx hb dL_go_109 (lv_at hl 4 rfl) ?_
              refine zTop (y := nI (ix (topS S) k D)) (by have h := nle_of (n := topS S) (k := min k (D - 1 - k)) (by omega) (by omega) c101; exact congrArg nI (by unfold ix; omega)) ?_
              exact j111 _ _ (zP_sub hP [0, 1, 2, 3] rfl) (hD.sub [0, 1, 2, 3] rfl rfl) hS ls (lv_sub hl [0, 1, 2, 3, 4, 5, 6, 7, 8, 9, 10] rfl)
            · refine lv_iload hx hb dL_go_104 (lv_at hl 0 rfl) ?_
              refine lv_goto (tgt := 111) hx hb dL_go_106 (by decide) ?_
              refine zTop (y := nI (ix (topS S) k D)) (by have h := nlt_of (n := topS S) (k := min k (D - 1 - k)) (by omega) c101; exact congrArg nI (by unfold ix; omega)) ?_
              exact j111 _ _ (zP_sub hP [0, 1, 2, 3] rfl) (hD.sub [0, 1, 2, 3] rfl rfl) hS ls (lv_sub hl [0, 1, 2, 3, 4, 5, 6, 7, 8, 9, 10] rfl)
          refine lv_icmp_ge (tgt := 93) hx hb dL_go_85 (by decide) (fun c85 => ?_) (fun c85 => ?_)
          · refine lv_iload hx hb dL_go_93 (lv_at hl 0 rfl) ?_
            refine zTop (y := nI (min k (D - 1 - k))) (by rw [el1]; have h := nle_of (n := D - 1 - k) (k := k) (by omega) (by omega) (by rw [el1, ed] at c85; exact c85); exact congrArg nI (by omega)) ?_
            exact j95 _ _ (zP_sub hP [0, 1, 2, 3] rfl) (hD.sub [0, 1, 2, 3] rfl rfl) hS ls (lv_sub hl [0, 1, 2, 3, 4, 5, 6, 7, 8, 9] rfl)
          · refine lv_iload hx hb dL_go_88 (lv_at hl 1 rfl) ?_
            refine lv_goto (tgt := 95) hx hb dL_go_90 (by decide) ?_
            refine zTop (y := nI (min k (D - 1 - k))) (by rw [ed]; have h := nlt_of (n := D - 1 - k) (k := k) (by omega) (by rw [el1, ed] at c85; exact c85); exact congrArg nI (by omega)) ?_
            exact j95 _ _ (zP_sub hP [0, 1, 2, 3] rfl) (hD.sub [0, 1, 2, 3] rfl rfl) hS ls (lv_sub hl [0, 1, 2, 3, 4, 5, 6, 7, 8, 9] rfl)
    exact lp73 ((D - 0) + 1) 0 0 (nI D) (Nat.zero_le D) rfl rfl (Nat.lt_succ_self _) _ _ (zP_sub hP [2, 0, 1, 3] rfl) (hD.sub [2, 0, 1, 3] rfl rfl) hS ls (lv_sub hl [0, 1, 2, 3, 6, 7, 8, 9, 10, 5] rfl)
  refine lv_icmp_ge (tgt := 35) hx hb dL_go_28 (by decide) (fun c28 => ?_) (fun c28 => ?_)
  · refine lv_iconst (v := 1) hx hb dL_go_35 (by decide +kernel) ?_
    refine zTop (y := dir) (by rw [hdir]; exact (if_neg (zgt c28)).symm) ?_
    exact j36 _ _ (zP_sub hP [0, 1, 2, 3, 4] rfl) (hD.sub [0, 1, 2, 3, 4] rfl rfl) hS ls (lv_sub hl [0, 1, 2, 3, 4, 5, 6, 7] rfl)
  · refine lv_iconst (v := (-1)) hx hb dL_go_31 (by decide +kernel) ?_
    refine lv_goto (tgt := 36) hx hb dL_go_32 (by decide) ?_
    refine zTop (y := dir) (by rw [hdir]; exact (if_pos (znle c28)).symm) ?_
    exact j36 _ _ (zP_sub hP [0, 1, 2, 3, 4] rfl) (hD.sub [0, 1, 2, 3, 4] rfl rfl) hS ls (lv_sub hl [0, 1, 2, 3, 4, 5, 6, 7] rfl)

set_option maxHeartbeats 4000000 in
set_option maxRecDepth 100000 in
theorem l_creep (l : Launch) (g : G3) (yg yw yc : Nat) (S ww fc : Nat → Int32) (by_ wn : Int32) (hok : setOk S) (hnl : 0 ≤ (S 18).toInt ∧ (S 18).toInt ≤ 6) (hw : ww = wS S) (hc : fc 0 = ivS S 0) (hwn : wn = if by_ < 0 then 1 else 0) : MI l yL_creep wsL_creep (rk 2 50) g [.ref yg, .ref yw, .ref yc, .int by_] [(yg, aI g 19 S), (yw, aI g 18 ww), (yc, aI g 64 fc)] (crB S by_ wn (getT S)) [(yg, aI g 19 (putT S (crp S by_ wn (F4 + 1) 0 (getT S)).1)), (yw, aI g 18 ww), (yc, aI g 64 fc)] := by
  refine zWalkA.met (Qc := fun A => zQi g (crB S by_ wn (getT S)) [(yg, aI g 19 (putT S (crp S by_ wn (F4 + 1) 0 (getT S)).1)), (yw, aI g 18 ww), (yc, aI g 64 fc)] A) (cc := cL_creep) (maxL := 7) (ret := (some .int)) (mc := 0) (ms := 0) ?_ (by decide) rfl (Nat.le_of_ble_eq_true rfl)
  intro pg ev sx mi args below meth cd A H locs ls hx hb hr hml hown hts hlocks hA hE hK hP hD hS hl
  have hl : lv_has ls 7 [(0, .ref yg), (1, .ref yw), (2, .ref yc), (3, .int by_)] := hl
  have hF4 := F4e
  refine lv_iload_n hx hb dL_creep_0 rfl (lv_at hl 3 rfl) ?_
  have j9 : ∀ (H : Heap) (locs : List Loc), va_P g.1 vwCl [(yg, aI g 19 S), (yw, aI g 18 ww), (yc, aI g 64 fc)] H → va_D A [(yg, aI g 19 S), (yw, aI g 18 ww), (yc, aI g 64 fc)] → va_S A sx.heap H locs → ∀ (ls : Array Slot), lv_has ls 7 [(0, .ref yg), (1, .ref yw), (2, .ref yc), (3, .int by_)] → W pg l ev (rk 2 50) sx mi args below meth cd H locs 0 0 (MQ below (zQi g (crB S by_ wn (getT S)) [(yg, aI g 19 (putT S (crp S by_ wn (F4 + 1) 0 (getT S)).1)), (yw, aI g 18 ww), (yc, aI g 64 fc)] A) args sx 0 0 A) (F0 mi 9 ls [.int wn]) := by
    intro H locs hP hD hS ls hl
    refine lv_istore (lv' := [(4, .int wn), (0, .ref yg), (1, .ref yw), (2, .ref yc), (3, .int by_)]) hx hb dL_creep_9 hl (by decide) rfl (fun ls hl => ?_)
    refine lv_iconst (v := 0) hx hb dL_creep_11 (by decide +kernel) ?_
    refine lv_istore (lv' := [(5, .int 0), (4, .int wn), (0, .ref yg), (1, .ref yw), (2, .ref yc), (3, .int by_)]) hx hb dL_creep_12 hl (by decide) rfl (fun ls hl => ?_)
    refine lv_iconst (v := 1) hx hb dL_creep_14 (by decide +kernel) ?_
    refine lv_istore (lv' := [(6, .int 1), (5, .int 0), (4, .int wn), (0, .ref yg), (1, .ref yw), (2, .ref yc), (3, .int by_)]) hx hb dL_creep_15 hl (by decide) rfl (fun ls hl => ?_)
    have hP := zP_arr (f' := putT S (getT S)) 0 rfl (fun k hk => by rw [putT_get]) hP
    have hD := hD.set (p := 0) (e := aI g 19 (putT S (getT S))) rfl
    have hP : va_P g.1 vwCl [(yg, aI g 19 (putT S (getT S))), (yw, aI g 18 ww), (yc, aI g 64 fc)] H := hP
    have hD : va_D A [(yg, aI g 19 (putT S (getT S))), (yw, aI g 18 ww), (yc, aI g 64 fc)] := hD
    have lp17 : ∀ (fu : Nat) (k : Nat) (ii : Int32) (mv : Int32) (y : T6), (k ≤ F4 + 1) → (ii = nI k) → (crp S by_ wn (F4 + 1 - k) k y = crp S by_ wn (F4 + 1) 0 (getT S)) → (F4 + 1 - k) < fu → ∀ (H : Heap) (locs : List Loc), va_P g.1 vwCl [(yg, aI g 19 (putT S y)), (yw, aI g 18 ww), (yc, aI g 64 fc)] H → va_D A [(yg, aI g 19 (putT S y)), (yw, aI g 18 ww), (yc, aI g 64 fc)] → va_S A sx.heap H locs → ∀ (ls : Array Slot), lv_has ls 7 [(6, .int mv), (5, .int ii), (4, .int wn), (0, .ref yg), (1, .ref yw), (2, .ref yc), (3, .int by_)] → W pg l ev (rk 2 50) sx mi args below meth cd H locs 0 0 (MQ below (zQi g (crB S by_ wn (getT S)) [(yg, aI g 19 (putT S (crp S by_ wn (F4 + 1) 0 (getT S)).1)), (yw, aI g 18 ww), (yc, aI g 64 fc)] A) args sx 0 0 A) (F0 mi 17 ls []) := by
      intro fu
      induction fu with
      | zero =>
        intro k ii mv y hk ei hcr hmu
        exact absurd hmu (Nat.not_lt_zero _)
      | succ fu ih =>
        intro k ii mv y hk ei hcr hmu H locs hP hD hS ls hl
        refine lv_aload_n hx hb dL_creep_17 rfl (lv_at hl 3 rfl) ?_
        refine lv_bipush (v := 14) hx hb dL_creep_18 (by decide +kernel) ?_
        refine zald (k := 14) hx hb hK hP 0 0 rfl rfl (IX.lit (by decide +kernel)) dL_creep_20 ?_
        refine zTop (y := y.2.2.1) rfl ?_
        refine lv_iload hx hb dL_creep_21 (lv_at hl 2 rfl) ?_
        refine lv_icmp_eq (tgt := 50) hx hb dL_creep_23 (by decide) (fun c23 => ?_) (fun c23 => ?_)
        · have hy : crp S by_ wn (F4 + 1) 0 (getT S) = (y, k) := by rw [← hcr, crp_0 c23]
          refine lv_iload hx hb dL_creep_50 (lv_at hl 1 rfl) ?_
          refine lv_sipush (v := 4000) hx hb dL_creep_52 (by decide +kernel) ?_
          refine lv_icmp_gt (tgt := 77) hx hb dL_creep_55 (by decide) (fun c55 => ?_) (fun c55 => ?_)
          · have hbig : ¬ k ≤ F4 := by intro h; exact absurd c55 (zgt (by rw [ei]; exact nI_le (a := k) (b := 4000) (by omega) (by decide)))
            refine lv_ldc hx hb hown (hts (.constant RL 29 (-9000000)) (List.mem_of_getElem? (i := 1) rfl)) dL_creep_77 ?_
            refine lv_goto (tgt := 84) hx hb dL_creep_79 (by decide) ?_
            exact zEia (v := (-9000000)) (ws' := [(yg, aI g 19 (putT S y)), (yw, aI g 18 ww), (yc, aI g 64 fc)]) hx hb hlocks hr rfl hK hP hD hS [0, 1, 2] rfl rfl (by unfold crB; rw [hy]; exact (if_neg hbig).symm) (by rw [hy]) dL_creep_84
          · have hsm : k ≤ F4 := by have h := nle_of (n := k) (k := 4000) (by omega) (by decide) (by rw [ei] at c55; exact zge c55); omega
            refine lv_aload_n hx hb dL_creep_58 rfl (lv_at hl 3 rfl) ?_
            refine lv_bipush (v := 14) hx hb dL_creep_59 (by decide +kernel) ?_
            refine zald (k := 14) hx hb hK hP 0 0 rfl rfl (IX.lit (by decide +kernel)) dL_creep_61 ?_
            refine lv_iload hx hb dL_creep_62 (lv_at hl 2 rfl) ?_
            refine lv_icmp_ne (tgt := 77) hx hb dL_creep_64 (by decide) (fun c64 => ?_) (fun c64 => ?_)
            · exact absurd c23 c64
            · refine lv_iload hx hb dL_creep_67 (lv_at hl 1 rfl) ?_
              refine lv_if_ge (tgt := 82) hx hb dL_creep_69 (by decide) (fun c69 => ?_) (fun c69 => ?_)
              · refine lv_iload hx hb dL_creep_82 (lv_at hl 1 rfl) ?_
                exact zEia (v := ii) (ws' := [(yg, aI g 19 (putT S y)), (yw, aI g 18 ww), (yc, aI g 64 fc)]) hx hb hlocks hr rfl hK hP hD hS [0, 1, 2] rfl rfl (by unfold crB; rw [hy, ei]; exact (if_pos hsm).symm) (by rw [hy]) dL_creep_84
              · exact absurd (by rw [ei]; exact nI_pos' (by omega)) c69
        · refine lv_iload hx hb dL_creep_26 (lv_at hl 1 rfl) ?_
          refine lv_sipush (v := 4001) hx hb dL_creep_28 (by decide +kernel) ?_
          refine lv_icmp_ge (tgt := 50) hx hb dL_creep_31 (by decide) (fun c31 => ?_) (fun c31 => ?_)
          · have hkn : k = F4 + 1 := by have h := nle_of (n := 4001) (k := k) (by decide) (by omega) (by rw [ei] at c31; exact c31); omega
            have hy : crp S by_ wn (F4 + 1) 0 (getT S) = (y, k) := by rw [← hcr, hkn, Nat.sub_self]; rfl
            refine lv_iload hx hb dL_creep_50 (lv_at hl 1 rfl) ?_
            refine lv_sipush (v := 4000) hx hb dL_creep_52 (by decide +kernel) ?_
            refine lv_icmp_gt (tgt := 77) hx hb dL_creep_55 (by decide) (fun c55 => ?_) (fun c55 => ?_)
            · have hbig : ¬ k ≤ F4 := by intro h; exact absurd c55 (zgt (by rw [ei]; exact nI_le (a := k) (b := 4000) (by omega) (by decide)))
              refine lv_ldc hx hb hown (hts (.constant RL 29 (-9000000)) (List.mem_of_getElem? (i := 1) rfl)) dL_creep_77 ?_
              refine lv_goto (tgt := 84) hx hb dL_creep_79 (by decide) ?_
              exact zEia (v := (-9000000)) (ws' := [(yg, aI g 19 (putT S y)), (yw, aI g 18 ww), (yc, aI g 64 fc)]) hx hb hlocks hr rfl hK hP hD hS [0, 1, 2] rfl rfl (by unfold crB; rw [hy]; exact (if_neg hbig).symm) (by rw [hy]) dL_creep_84
            · exact absurd (by rw [ei, hkn, hF4]; decide) c55
          · have hlt : k < 4001 := nlt_of (n := 4001) (k := k) (by decide) (by rw [ei] at c31; exact c31) (by omega)
            refine lv_aload_n hx hb dL_creep_34 rfl (lv_at hl 3 rfl) ?_
            refine lv_aload_n hx hb dL_creep_35 rfl (lv_at hl 4 rfl) ?_
            refine lv_aload_n hx hb dL_creep_36 rfl (lv_at hl 5 rfl) ?_
            refine lv_iload_n hx hb dL_creep_37 rfl (lv_at hl 6 rfl) ?_
            refine lv_iconst (v := 0) hx hb dL_creep_38 (by decide +kernel) ?_
            refine zSI (As := [.ref yg, .ref yw, .ref yc, .int by_, .int 0]) (rest := []) (wc := [(yg, aI g 19 (putT S y)), (yw, aI g 18 ww), (yc, aI g 64 fc)]) (wr := []) (wc' := [(yg, aI g 19 (putT (putT S y) (stp (putT S y) by_ (fc 0) (puS (putT S y) 0) (getT (putT S y))))), (yw, aI g 18 ww), (yc, aI g 64 fc)]) ⟨hx, hb, hml, hown, hts⟩ (l_step l g yg yw yc (putT S y) ww fc by_ 0 0 (setOk_put hok) hnl (by rw [hw, wS_put]) rfl (by decide)) (va_cwS 5 hts gL_creep_L_step rfl rfl rfl (by decide +kernel) ⟨Nat.le_of_ble_eq_true rfl, Nat.le_of_ble_eq_true rfl⟩) hE hK hP hD hS hA [0, 1, 2] [] rfl rfl rfl rfl (by decide) rfl hl.1 rfl (lv_room (Nat.le_of_ble_eq_true rfl)) ⟨(Nat.le_of_ble_eq_true rfl), (Nat.le_of_ble_eq_true rfl)⟩ dL_creep_39 (fun H locs hP hD hS => ?_)
            have hP : va_P g.1 vwCl [(yg, aI g 19 (putT (putT S y) (stp (putT S y) by_ (fc 0) (puS (putT S y) 0) (getT (putT S y))))), (yw, aI g 18 ww), (yc, aI g 64 fc)] H := hP
            have hD : va_D A [(yg, aI g 19 (putT (putT S y) (stp (putT S y) by_ (fc 0) (puS (putT S y) 0) (getT (putT S y))))), (yw, aI g 18 ww), (yc, aI g 64 fc)] := hD
            rw [show (putT (putT S y) (stp (putT S y) by_ (fc 0) (puS (putT S y) 0) (getT (putT S y)))) = putT S (stp S by_ (ivS S 0) (puS S 0) y) from (stpE S y by_ (ivS S 0) (puS S 0) (fc 0) 0 hc rfl)] at hP hD
            refine lv_istore (lv' := [(6, .int (b01 (¬ (missP (ldS (putT S y) ((putT S y) 11)) (puS (putT S y) 0) ((putT S y) 11 + by_))))), (5, .int ii), (4, .int wn), (0, .ref yg), (1, .ref yw), (2, .ref yc), (3, .int by_)]) hx hb dL_creep_42 hl (by decide) rfl (fun ls hl => ?_)
            refine lv_iinc (v := ii + 1) (lv' := [(5, .int (ii + 1)), (6, .int (b01 (¬ (missP (ldS (putT S y) ((putT S y) 11)) (puS (putT S y) 0) ((putT S y) 11 + by_))))), (4, .int wn), (0, .ref yg), (1, .ref yw), (2, .ref yc), (3, .int by_)]) hx hb dL_creep_44 hl (k := 1) rfl (by rfl) (by decide) rfl (fun ls hl => ?_)
            refine lv_goto (tgt := 17) hx hb dL_creep_47 (by decide) ?_
            exact ih (k + 1) (ii + 1) (b01 (¬ (missP (ldS (putT S y) ((putT S y) 11)) (puS (putT S y) 0) ((putT S y) 11 + by_)))) (stp S by_ (ivS S 0) (puS S 0) y) (by omega) (by rw [ei]; exact nI_1 k) ((crp_1 (S := S) (f := F4 + 1 - (k + 1)) (i := k) c23).symm.trans (by rw [show F4 + 1 - (k + 1) + 1 = F4 + 1 - k by omega]; exact hcr)) (by omega) _ _ (zP_sub hP [0, 1, 2] rfl) (hD.sub [0, 1, 2] rfl rfl) hS ls (lv_sub hl [1, 0, 2, 3, 4, 5, 6] rfl)
    exact lp17 ((F4 + 1 - 0) + 1) 0 0 1 (getT S) (Nat.zero_le _) rfl rfl (Nat.lt_succ_self _) _ _ (zP_sub hP [0, 1, 2] rfl) (hD.sub [0, 1, 2] rfl rfl) hS ls (lv_sub hl [0, 1, 2, 3, 4, 5, 6] rfl)
  refine lv_if_ge (tgt := 8) hx hb dL_creep_1 (by decide) (fun c1 => ?_) (fun c1 => ?_)
  · refine lv_iconst (v := 0) hx hb dL_creep_8 (by decide +kernel) ?_
    refine zTop (y := wn) (by rw [hwn]; exact (if_neg (zgt c1)).symm) ?_
    exact j9 _ _ (zP_sub hP [0, 1, 2] rfl) (hD.sub [0, 1, 2] rfl rfl) hS ls (lv_sub hl [0, 1, 2, 3] rfl)
  · refine lv_iconst (v := 1) hx hb dL_creep_4 (by decide +kernel) ?_
    refine lv_goto (tgt := 9) hx hb dL_creep_5 (by decide) ?_
    refine zTop (y := wn) (by rw [hwn]; exact (if_pos (znle c1)).symm) ?_
    exact j9 _ _ (zP_sub hP [0, 1, 2] rfl) (hD.sub [0, 1, 2] rfl rfl) hS ls (lv_sub hl [0, 1, 2, 3] rfl)

set_option maxHeartbeats 4000000 in
set_option maxRecDepth 100000 in
theorem l_home (l : Launch) (g : G3) (yh yw : Nat) (S : Nat → Int32) (hok : setOk S) (h60 : (S 2).toInt ≤ 60) (hnl : 0 ≤ (S 18).toInt ∧ (S 18).toInt ≤ 6) : MA l yL_home wsL_home (rkn 3 76 2 128) g [.ref yh, .ref yw] [(yh, aI g 19 S), (yw, aI g 18 (wS S))] (hoR S) [(yh, aI g 19 (hoF S)), (yw, aI g 18 (wS S))] 2 128 := by
  refine zWalkA.met (Qc := fun A => zQi g (hoR S) [(yh, aI g 19 (hoF S)), (yw, aI g 18 (wS S))] A) (cc := cL_home) (maxL := 11) (ret := (some .int)) (mc := 2) (ms := 128) ?_ (by decide) rfl (Nat.le_of_ble_eq_true rfl)
  intro pg ev sx mi args below meth cd A H locs ls hx hb hr hml hown hts hlocks hA hE hK hP hD hS hl
  have hl : lv_has ls 11 [(0, .ref yh), (1, .ref yw)] := hl
  have hF4 := F4e
  have h200 : topS S ≤ 200 := topS_le hok
  have hT : topS S ≤ 60 := by
    have := topN_le S (S 2).toInt.toNat
    unfold topS
    omega
  have hGt : hG S ≤ topS S := Nat.min_le_right _ _
  have hKG : kSl S ≤ hG S := Nat.min_le_right _ _
  have hl2 := h2_le S
  have hl3 := h3_le S
  obtain ⟨x2, hX2⟩ : ∃ x2, (h2 S).1 = x2 := ⟨_, rfl⟩
  obtain ⟨n2, hN2⟩ : ∃ n2, (h2 S).2 = n2 := ⟨_, rfl⟩
  obtain ⟨x3, hX3⟩ : ∃ x3, (h3 S).1 = x3 := ⟨_, rfl⟩
  obtain ⟨n3, hN3⟩ : ∃ n3, (h3 S).2 = n3 := ⟨_, rfl⟩
  rw [hN2] at hl2
  rw [hN3] at hl3
  refine lv_bipush (v := 64) hx hb dL_home_0 (by decide +kernel) ?_
  refine zNewI (N := 64) hx hb (hts (.arrayClass .int) (List.mem_of_getElem? (i := 1) rfl)) hK hP hD hS hA (by decide) (by decide +kernel) (Nat.le_of_ble_eq_true rfl) (Nat.le_of_ble_eq_true rfl) (Nat.le_of_ble_eq_true rfl) dL_home_2 (fun q2 H hP hD hS => ?_)
  refine W.widen (k := 1) (n := 64) (Nat.le_of_ble_eq_true rfl) (Nat.le_of_ble_eq_true rfl) ?_
  have hP : va_P g.1 vwCl [(yh, aI g 19 S), (yw, aI g 18 (wS S)), (q2, aI g 64 (fun _ => 0))] H := hP
  have hD : va_D A [(yh, aI g 19 S), (yw, aI g 18 (wS S)), (q2, aI g 64 (fun _ => 0))] := hD
  refine lv_astore_n (lv' := [(2, .ref q2), (0, .ref yh), (1, .ref yw)]) hx hb dL_home_4 rfl hl (by decide) rfl (fun ls hl => ?_)
  refine lv_bipush (v := 64) hx hb dL_home_5 (by decide +kernel) ?_
  refine zNewI (N := 64) hx hb (hts (.arrayClass .int) (List.mem_of_getElem? (i := 1) rfl)) hK hP hD hS hA (by decide) (by decide +kernel) (Nat.le_of_ble_eq_true rfl) (Nat.le_of_ble_eq_true rfl) (Nat.le_of_ble_eq_true rfl) dL_home_7 (fun q7 H hP hD hS => ?_)
  refine W.widen (k := 2) (n := 128) (Nat.le_of_ble_eq_true rfl) (Nat.le_of_ble_eq_true rfl) ?_
  have hP : va_P g.1 vwCl [(yh, aI g 19 S), (yw, aI g 18 (wS S)), (q2, aI g 64 (fun _ => 0)), (q7, aI g 64 (fun _ => 0))] H := hP
  have hD : va_D A [(yh, aI g 19 S), (yw, aI g 18 (wS S)), (q2, aI g 64 (fun _ => 0)), (q7, aI g 64 (fun _ => 0))] := hD
  refine lv_astore_n (lv' := [(3, .ref q7), (2, .ref q2), (0, .ref yh), (1, .ref yw)]) hx hb dL_home_9 rfl hl (by decide) rfl (fun ls hl => ?_)
  refine lv_aload_n hx hb dL_home_10 rfl (lv_at hl 2 rfl) ?_
  refine lv_aload_n hx hb dL_home_11 rfl (lv_at hl 2 rfl) ?_
  refine lv_iconst (v := 2) hx hb dL_home_12 (by decide +kernel) ?_
  refine zald (k := 2) hx hb hK hP 0 0 rfl rfl (IX.lit (by decide +kernel)) dL_home_13 ?_
  refine lv_aload_n hx hb dL_home_14 rfl (lv_at hl 1 rfl) ?_
  refine lv_aload_n hx hb dL_home_15 rfl (lv_at hl 0 rfl) ?_
  refine zSI (As := [.ref yh, .int (S 2), .ref q2, .ref q7]) (rest := []) (wc := [(yh, aI g 19 S), (q2, aI g 64 (fun _ => 0)), (q7, aI g 64 (fun _ => 0))]) (wr := [(yw, aI g 18 (wS S))]) (wc' := [(yh, aI g 19 S), (q2, aI g 64 (fillT (ivS S) (fun _ => 0) (topS S + 1))), (q7, aI g 64 (fillT (rsS S) (fun _ => 0) (topS S + 1)))]) ⟨hx, hb, hml, hown, hts⟩ (l_ramp l g yh q2 q7 S (fun _ => 0) (fun _ => 0) (S 2) hok h60 rfl) (va_cwS 4 hts gL_home_L_ramp rfl rfl rfl (by decide +kernel) ⟨Nat.le_of_ble_eq_true rfl, Nat.le_of_ble_eq_true rfl⟩) hE hK hP hD hS hA [0, 2, 3] [1] rfl rfl rfl rfl (by decide) rfl hl.1 rfl (lv_room (Nat.le_of_ble_eq_true rfl)) ⟨(Nat.le_of_ble_eq_true rfl), (Nat.le_of_ble_eq_true rfl)⟩ dL_home_16 (fun H locs hP hD hS => ?_)
  have hP : va_P g.1 vwCl [(yw, aI g 18 (wS S)), (yh, aI g 19 S), (q2, aI g 64 (fillT (ivS S) (fun _ => 0) (topS S + 1))), (q7, aI g 64 (fillT (rsS S) (fun _ => 0) (topS S + 1)))] H := hP
  have hD : va_D A [(yw, aI g 18 (wS S)), (yh, aI g 19 S), (q2, aI g 64 (fillT (ivS S) (fun _ => 0) (topS S + 1))), (q7, aI g 64 (fillT (rsS S) (fun _ => 0) (topS S + 1)))] := hD
  refine lv_istore (lv' := [(4, .int (nI (topS S))), (3, .ref q7), (2, .ref q2), (0, .ref yh), (1, .ref yw)]) hx hb dL_home_19 hl (by decide) rfl (fun ls hl => ?_)
  refine lv_aload_n hx hb dL_home_21 rfl (lv_at hl 3 rfl) ?_
  refine lv_bipush (v := 7) hx hb dL_home_22 (by decide +kernel) ?_
  refine zald (k := 7) hx hb hK hP 1 0 rfl rfl (IX.lit (by decide +kernel)) dL_home_24 ?_
  refine lv_iload hx hb dL_home_25 (lv_at hl 0 rfl) ?_
  have j39 : ∀ (H : Heap) (locs : List Loc), va_P g.1 vwCl [(yw, aI g 18 (wS S)), (yh, aI g 19 S), (q2, aI g 64 (fillT (ivS S) (fun _ => 0) (topS S + 1))), (q7, aI g 64 (fillT (rsS S) (fun _ => 0) (topS S + 1)))] H → va_D A [(yw, aI g 18 (wS S)), (yh, aI g 19 S), (q2, aI g 64 (fillT (ivS S) (fun _ => 0) (topS S + 1))), (q7, aI g 64 (fillT (rsS S) (fun _ => 0) (topS S + 1)))] → va_S A sx.heap H locs → ∀ (ls : Array Slot), lv_has ls 11 [(4, .int (nI (topS S))), (3, .ref q7), (2, .ref q2), (0, .ref yh), (1, .ref yw)] → W pg l ev (rkn 3 76 2 128) sx mi args below meth cd H locs 2 128 (MQ below (zQi g (hoR S) [(yh, aI g 19 (hoF S)), (yw, aI g 18 (wS S))] A) args sx 2 128 A) (F0 mi 39 ls [.int (nI (hG S))]) := by
    intro H locs hP hD hS ls hl
    refine lv_istore (lv' := [(5, .int (nI (hG S))), (4, .int (nI (topS S))), (3, .ref q7), (2, .ref q2), (0, .ref yh), (1, .ref yw)]) hx hb dL_home_39 hl (by decide) rfl (fun ls hl => ?_)
    refine lv_iconst (v := 0) hx hb dL_home_41 (by decide +kernel) ?_
    refine lv_istore (lv' := [(6, .int 0), (5, .int (nI (hG S))), (4, .int (nI (topS S))), (3, .ref q7), (2, .ref q2), (0, .ref yh), (1, .ref yw)]) hx hb dL_home_42 hl (by decide) rfl (fun ls hl => ?_)
    refine lv_iconst (v := 0) hx hb dL_home_44 (by decide +kernel) ?_
    refine lv_istore (lv' := [(7, .int 0), (6, .int 0), (5, .int (nI (hG S))), (4, .int (nI (topS S))), (3, .ref q7), (2, .ref q2), (0, .ref yh), (1, .ref yw)]) hx hb dL_home_45 hl (by decide) rfl (fun ls hl => ?_)
    refine lv_iconst (v := 1) hx hb dL_home_47 (by decide +kernel) ?_
    refine lv_istore (lv' := [(8, .int 1), (7, .int 0), (6, .int 0), (5, .int (nI (hG S))), (4, .int (nI (topS S))), (3, .ref q7), (2, .ref q2), (0, .ref yh), (1, .ref yw)]) hx hb dL_home_48 hl (by decide) rfl (fun ls hl => ?_)
    have hP := zP_arr (f' := putT S (getT S)) 1 rfl (fun k hk => by rw [putT_get]) hP
    have hD := hD.set (p := 1) (e := aI g 19 (putT S (getT S))) rfl
    have hP : va_P g.1 vwCl [(yw, aI g 18 (wS S)), (yh, aI g 19 (putT S (getT S))), (q2, aI g 64 (fillT (ivS S) (fun _ => 0) (topS S + 1))), (q7, aI g 64 (fillT (rsS S) (fun _ => 0) (topS S + 1)))] H := hP
    have hD : va_D A [(yw, aI g 18 (wS S)), (yh, aI g 19 (putT S (getT S))), (q2, aI g 64 (fillT (ivS S) (fun _ => 0) (topS S + 1))), (q7, aI g 64 (fillT (rsS S) (fun _ => 0) (topS S + 1)))] := hD
    have lp50 : ∀ (fu : Nat) (k : Nat) (ii : Int32) (idx : Int32) (mv : Int32) (y : T6), (k ≤ F4 + 1) → (ii = nI k) → (k = 0 ∨ idx = nI (min (k - 1) (hG S))) → (rdn S (hG S) (F4 + 1 - k) k y = rdn S (hG S) (F4 + 1) 0 (getT S)) → (F4 + 1 - k) < fu → ∀ (H : Heap) (locs : List Loc), va_P g.1 vwCl [(yh, aI g 19 (putT S y)), (yw, aI g 18 (wS S)), (q2, aI g 64 (fillT (ivS S) (fun _ => 0) (topS S + 1)))] H → va_D A [(yh, aI g 19 (putT S y)), (yw, aI g 18 (wS S)), (q2, aI g 64 (fillT (ivS S) (fun _ => 0) (topS S + 1)))] → va_S A sx.heap H locs → ∀ (ls : Array Slot), lv_has ls 11 [(8, .int mv), (7, .int idx), (6, .int ii), (5, .int (nI (hG S))), (0, .ref yh), (1, .ref yw), (2, .ref q2)] → W pg l ev (rkn 3 76 2 128) sx mi args below meth cd H locs 2 128 (MQ below (zQi g (hoR S) [(yh, aI g 19 (hoF S)), (yw, aI g 18 (wS S))] A) args sx 2 128 A) (F0 mi 50 ls []) := by
      intro fu
      induction fu with
      | zero =>
        intro k ii idx mv y hk ei hidx hcr hmu
        exact absurd hmu (Nat.not_lt_zero _)
      | succ fu ih =>
        intro k ii idx mv y hk ei hidx hcr hmu H locs hP hD hS ls hl
        refine lv_aload_n hx hb dL_home_50 rfl (lv_at hl 4 rfl) ?_
        refine lv_bipush (v := 14) hx hb dL_home_51 (by decide +kernel) ?_
        refine zald (k := 14) hx hb hK hP 0 0 rfl rfl (IX.lit (by decide +kernel)) dL_home_53 ?_
        refine zTop (y := y.2.2.1) rfl ?_
        refine lv_if_ne (tgt := 98) hx hb dL_home_54 (by decide) (fun c54 => ?_) (fun c54 => ?_)
        · have hy : rdn S (hG S) (F4 + 1) 0 (getT S) = (y, k) := by rw [← hcr, rdn_0 c54]
          refine lv_iload hx hb dL_home_98 (lv_at hl 2 rfl) ?_
          refine lv_sipush (v := 4000) hx hb dL_home_100 (by decide +kernel) ?_
          refine lv_icmp_le (tgt := 109) hx hb dL_home_103 (by decide) (fun c103 => ?_) (fun c103 => ?_)
          · have hle : (rdn S (hG S) (F4 + 1) 0 (getT S)).2 ≤ F4 := by rw [hy]; have h := nle_of (n := k) (k := 4000) (by omega) (by decide) (by rw [ei] at c103; exact c103); omega
            have hp1 : hP1 S := ho1.mp hle
            have hH1 : h1 S = (y, k) := (ho1e hp1).symm.trans hy
            have hKs : kSl S = min (k - 1) (hG S) := by unfold kSl; rw [hH1]
            refine lv_iload hx hb dL_home_109 (lv_at hl 2 rfl) ?_
            have j120 : ∀ (H : Heap) (locs : List Loc), va_P g.1 vwCl [(yh, aI g 19 (putT S y)), (yw, aI g 18 (wS S)), (q2, aI g 64 (fillT (ivS S) (fun _ => 0) (topS S + 1)))] H → va_D A [(yh, aI g 19 (putT S y)), (yw, aI g 18 (wS S)), (q2, aI g 64 (fillT (ivS S) (fun _ => 0) (topS S + 1)))] → va_S A sx.heap H locs → ∀ (ls : Array Slot), lv_has ls 11 [(8, .int mv), (7, .int idx), (6, .int ii), (5, .int (nI (hG S))), (0, .ref yh), (1, .ref yw), (2, .ref q2)] → W pg l ev (rkn 3 76 2 128) sx mi args below meth cd H locs 2 128 (MQ below (zQi g (hoR S) [(yh, aI g 19 (hoF S)), (yw, aI g 18 (wS S))] A) args sx 2 128 A) (F0 mi 120 ls [.int (nI (kSl S))]) := by
              intro H locs hP hD hS ls hl
              refine lv_istore (lv' := [(9, .int (nI (kSl S))), (8, .int mv), (7, .int idx), (6, .int ii), (5, .int (nI (hG S))), (0, .ref yh), (1, .ref yw), (2, .ref q2)]) hx hb dL_home_120 hl (by decide) rfl (fun ls hl => ?_)
              have lp122 : ∀ (fu : Nat) (q : Nat) (jj : Int32) (nn : Int32) (mw : Int32) (z : T6), (q ≤ kSl S) → (jj = nI q) → (nn = nI (k + (kSl S - q))) → (z = slw S (kSl S) y (kSl S - q)) → q < fu → ∀ (H : Heap) (locs : List Loc), va_P g.1 vwCl [(yh, aI g 19 (putT S z)), (yw, aI g 18 (wS S)), (q2, aI g 64 (fillT (ivS S) (fun _ => 0) (topS S + 1)))] H → va_D A [(yh, aI g 19 (putT S z)), (yw, aI g 18 (wS S)), (q2, aI g 64 (fillT (ivS S) (fun _ => 0) (topS S + 1)))] → va_S A sx.heap H locs → ∀ (ls : Array Slot), lv_has ls 11 [(9, .int jj), (8, .int mw), (6, .int nn), (0, .ref yh), (1, .ref yw), (2, .ref q2)] → W pg l ev (rkn 3 76 2 128) sx mi args below meth cd H locs 2 128 (MQ below (zQi g (hoR S) [(yh, aI g 19 (hoF S)), (yw, aI g 18 (wS S))] A) args sx 2 128 A) (F0 mi 122 ls []) := by
                intro fu
                induction fu with
                | zero =>
                  intro q jj nn mw z hq ej en hz hmu
                  exact absurd hmu (Nat.not_lt_zero _)
                | succ fu ih =>
                  intro q jj nn mw z hq ej en hz hmu H locs hP hD hS ls hl
                  refine lv_iload hx hb dL_home_122 (lv_at hl 0 rfl) ?_
                  refine lv_if_le (tgt := 162) hx hb dL_home_124 (by decide) (fun c124 => ?_) (fun c124 => ?_)
                  · have hq0 : q = 0 := by have h := nle_of (n := q) (k := 0) (by omega) (by decide) (by rw [ej] at c124; exact c124); omega
                    have hxz : hx1 S = z := by unfold hx1; rw [hH1, hz, hq0, Nat.sub_zero]
                    refine lv_aload_n hx hb dL_home_162 rfl (lv_at hl 3 rfl) ?_
                    refine lv_aload_n hx hb dL_home_163 rfl (lv_at hl 4 rfl) ?_
                    refine lv_aload_n hx hb dL_home_164 rfl (lv_at hl 5 rfl) ?_
                    refine lv_iconst (v := 1) hx hb dL_home_165 (by decide +kernel) ?_
                    refine zSI (As := [.ref yh, .ref yw, .ref q2, .int 1]) (rest := []) (wc := [(yh, aI g 19 (putT S z)), (yw, aI g 18 (wS S)), (q2, aI g 64 (fillT (ivS S) (fun _ => 0) (topS S + 1)))]) (wr := []) (wc' := [(yh, aI g 19 (putT (putT S z) (crp (putT S z) 1 0 (F4 + 1) 0 (getT (putT S z))).1)), (yw, aI g 18 (wS S)), (q2, aI g 64 (fillT (ivS S) (fun _ => 0) (topS S + 1)))]) ⟨hx, hb, hml, hown, hts⟩ (l_creep l g yh yw q2 (putT S z) (wS S) (fillT (ivS S) (fun _ => 0) (topS S + 1)) 1 0 (setOk_put hok) hnl ((wS_put S _).symm) (by rw [ivS_put]; exact fillT_in (Nat.succ_pos _)) (by decide)) (va_cwS 4 hts gL_home_L_creep rfl rfl rfl (by decide +kernel) ⟨Nat.le_of_ble_eq_true rfl, Nat.le_of_ble_eq_true rfl⟩) hE hK hP hD hS hA [0, 1, 2] [] rfl rfl rfl rfl (by decide) rfl hl.1 rfl (lv_room (Nat.le_of_ble_eq_true rfl)) ⟨(Nat.le_of_ble_eq_true rfl), (Nat.le_of_ble_eq_true rfl)⟩ dL_home_166 (fun H locs hP hD hS => ?_)
                    have hP : va_P g.1 vwCl [(yh, aI g 19 (putT (putT S z) (crp (putT S z) 1 0 (F4 + 1) 0 (getT (putT S z))).1)), (yw, aI g 18 (wS S)), (q2, aI g 64 (fillT (ivS S) (fun _ => 0) (topS S + 1)))] H := hP
                    have hD : va_D A [(yh, aI g 19 (putT (putT S z) (crp (putT S z) 1 0 (F4 + 1) 0 (getT (putT S z))).1)), (yw, aI g 18 (wS S)), (q2, aI g 64 (fillT (ivS S) (fun _ => 0) (topS S + 1)))] := hD
                    rw [show (putT (putT S z) (crp (putT S z) 1 0 (F4 + 1) 0 (getT (putT S z))).1) = putT S (crp S 1 0 (F4 + 1) 0 z).1 from (by rw [crp_put, putT_put, getT_put])] at hP hD
                    refine zTop (y := crB S 1 0 z) (by unfold crB; rw [crp_put, getT_put]) ?_
                    by_cases q2c : (crp S 1 0 (F4 + 1) 0 z).2 ≤ F4
                    · have hp2 : hP2 S := ho2.mp (by rw [hxz]; exact q2c)
                      have hH2 : crp S 1 0 (F4 + 1) 0 z = h2 S := by rw [← hxz]; exact ho2e hp2
                      have hE2 : (crp S 1 0 (F4 + 1) 0 z).1 = x2 := by rw [hH2, hX2]
                      have hM2 : (crp S 1 0 (F4 + 1) 0 z).2 = n2 := by rw [hH2, hN2]
                      refine zTop (y := nI n2) (by unfold crB; rw [if_pos q2c, hM2]) ?_
                      rw [hE2] at hP hD
                      refine lv_istore (lv' := [(9, .int (nI n2)), (8, .int mw), (6, .int nn), (0, .ref yh), (1, .ref yw), (2, .ref q2)]) hx hb dL_home_169 hl (by decide) rfl (fun ls hl => ?_)
                      refine lv_iload hx hb dL_home_171 (lv_at hl 0 rfl) ?_
                      refine lv_if_ge (tgt := 181) hx hb dL_home_173 (by decide) (fun c173 => ?_) (fun c173 => ?_)
                      · refine lv_aload_n hx hb dL_home_181 rfl (lv_at hl 3 rfl) ?_
                        refine lv_aload_n hx hb dL_home_182 rfl (lv_at hl 4 rfl) ?_
                        refine lv_aload_n hx hb dL_home_183 rfl (lv_at hl 5 rfl) ?_
                        refine lv_iconst (v := (-1)) hx hb dL_home_184 (by decide +kernel) ?_
                        refine zSI (As := [.ref yh, .ref yw, .ref q2, .int (-1)]) (rest := []) (wc := [(yh, aI g 19 (putT S x2)), (yw, aI g 18 (wS S)), (q2, aI g 64 (fillT (ivS S) (fun _ => 0) (topS S + 1)))]) (wr := []) (wc' := [(yh, aI g 19 (putT (putT S x2) (crp (putT S x2) (-1) 1 (F4 + 1) 0 (getT (putT S x2))).1)), (yw, aI g 18 (wS S)), (q2, aI g 64 (fillT (ivS S) (fun _ => 0) (topS S + 1)))]) ⟨hx, hb, hml, hown, hts⟩ (l_creep l g yh yw q2 (putT S x2) (wS S) (fillT (ivS S) (fun _ => 0) (topS S + 1)) (-1) 1 (setOk_put hok) hnl ((wS_put S _).symm) (by rw [ivS_put]; exact fillT_in (Nat.succ_pos _)) (by decide)) (va_cwS 4 hts gL_home_L_creep rfl rfl rfl (by decide +kernel) ⟨Nat.le_of_ble_eq_true rfl, Nat.le_of_ble_eq_true rfl⟩) hE hK hP hD hS hA [0, 1, 2] [] rfl rfl rfl rfl (by decide) rfl hl.1 rfl (lv_room (Nat.le_of_ble_eq_true rfl)) ⟨(Nat.le_of_ble_eq_true rfl), (Nat.le_of_ble_eq_true rfl)⟩ dL_home_185 (fun H locs hP hD hS => ?_)
                        have hP : va_P g.1 vwCl [(yh, aI g 19 (putT (putT S x2) (crp (putT S x2) (-1) 1 (F4 + 1) 0 (getT (putT S x2))).1)), (yw, aI g 18 (wS S)), (q2, aI g 64 (fillT (ivS S) (fun _ => 0) (topS S + 1)))] H := hP
                        have hD : va_D A [(yh, aI g 19 (putT (putT S x2) (crp (putT S x2) (-1) 1 (F4 + 1) 0 (getT (putT S x2))).1)), (yw, aI g 18 (wS S)), (q2, aI g 64 (fillT (ivS S) (fun _ => 0) (topS S + 1)))] := hD
                        rw [show (putT (putT S x2) (crp (putT S x2) (-1) 1 (F4 + 1) 0 (getT (putT S x2))).1) = putT S (crp S (-1) 1 (F4 + 1) 0 x2).1 from (by rw [crp_put, putT_put, getT_put])] at hP hD
                        refine zTop (y := crB S (-1) 1 x2) (by unfold crB; rw [crp_put, getT_put]) ?_
                        by_cases q3c : (crp S (-1) 1 (F4 + 1) 0 x2).2 ≤ F4
                        · have hp3 : hP3 S := ho3.mp (by rw [hX2]; exact q3c)
                          have hH3 : crp S (-1) 1 (F4 + 1) 0 x2 = h3 S := by rw [← hX2]; exact ho3e hp3
                          have hE3 : (crp S (-1) 1 (F4 + 1) 0 x2).1 = x3 := by rw [hH3, hX3]
                          have hM3 : (crp S (-1) 1 (F4 + 1) 0 x2).2 = n3 := by rw [hH3, hN3]
                          refine zTop (y := nI n3) (by unfold crB; rw [if_pos q3c, hM3]) ?_
                          rw [hE3] at hP hD
                          refine lv_istore (lv' := [(10, .int (nI n3)), (9, .int (nI n2)), (8, .int mw), (6, .int nn), (0, .ref yh), (1, .ref yw), (2, .ref q2)]) hx hb dL_home_188 hl (by decide) rfl (fun ls hl => ?_)
                          refine lv_iload hx hb dL_home_190 (lv_at hl 0 rfl) ?_
                          refine lv_if_ge (tgt := 198) hx hb dL_home_192 (by decide) (fun c192 => ?_) (fun c192 => ?_)
                          · refine lv_aload_n hx hb dL_home_198 rfl (lv_at hl 4 rfl) ?_
                            refine lv_bipush (v := 10) hx hb dL_home_199 (by decide +kernel) ?_
                            refine lv_iconst (v := 0) hx hb dL_home_201 (by decide +kernel) ?_
                            refine zast (k := 10) hx hb hK hP hD hS 0 0 rfl rfl (IX.lit (by decide +kernel)) dL_home_202 (fun H locs hP hD hS => ?_)
                            have hP : va_P g.1 vwCl [(yh, aI g 19 (upd (putT S x3) 10 0)), (yw, aI g 18 (wS S)), (q2, aI g 64 (fillT (ivS S) (fun _ => 0) (topS S + 1)))] H := hP
                            have hD : va_D A [(yh, aI g 19 (upd (putT S x3) 10 0)), (yw, aI g 18 (wS S)), (q2, aI g 64 (fillT (ivS S) (fun _ => 0) (topS S + 1)))] := hD
                            refine lv_aload_n hx hb dL_home_203 rfl (lv_at hl 4 rfl) ?_
                            refine lv_bipush (v := 12) hx hb dL_home_204 (by decide +kernel) ?_
                            refine lv_aload_n hx hb dL_home_206 rfl (lv_at hl 4 rfl) ?_
                            refine lv_bipush (v := 11) hx hb dL_home_207 (by decide +kernel) ?_
                            refine zald (k := 11) hx hb hK hP 0 0 rfl rfl (IX.lit (by decide +kernel)) dL_home_209 ?_
                            refine zTop (y := (putT S x3) 11) rfl ?_
                            refine zTop (y := x3.2.1) rfl ?_
                            refine lv_ineg hx hb dL_home_210 ?_
                            refine zast (k := 12) hx hb hK hP hD hS 0 0 rfl rfl (IX.lit (by decide +kernel)) dL_home_211 (fun H locs hP hD hS => ?_)
                            have hP : va_P g.1 vwCl [(yh, aI g 19 (upd (upd (putT S x3) 10 0) 12 (-x3.2.1))), (yw, aI g 18 (wS S)), (q2, aI g 64 (fillT (ivS S) (fun _ => 0) (topS S + 1)))] H := hP
                            have hD : va_D A [(yh, aI g 19 (upd (upd (putT S x3) 10 0) 12 (-x3.2.1))), (yw, aI g 18 (wS S)), (q2, aI g 64 (fillT (ivS S) (fun _ => 0) (topS S + 1)))] := hD
                            refine lv_aload_n hx hb dL_home_212 rfl (lv_at hl 4 rfl) ?_
                            refine lv_bipush (v := 13) hx hb dL_home_213 (by decide +kernel) ?_
                            refine lv_iconst (v := 1) hx hb dL_home_215 (by decide +kernel) ?_
                            refine zast (k := 13) hx hb hK hP hD hS 0 0 rfl rfl (IX.lit (by decide +kernel)) dL_home_216 (fun H locs hP hD hS => ?_)
                            have hP : va_P g.1 vwCl [(yh, aI g 19 (upd (upd (upd (putT S x3) 10 0) 12 (-x3.2.1)) 13 1)), (yw, aI g 18 (wS S)), (q2, aI g 64 (fillT (ivS S) (fun _ => 0) (topS S + 1)))] H := hP
                            have hD : va_D A [(yh, aI g 19 (upd (upd (upd (putT S x3) 10 0) 12 (-x3.2.1)) 13 1)), (yw, aI g 18 (wS S)), (q2, aI g 64 (fillT (ivS S) (fun _ => 0) (topS S + 1)))] := hD
                            rw [show (upd (upd (upd (putT S x3) 10 0) 12 (-x3.2.1)) 13 1) = hmX S x3 from (hmX_eq2 S x3)] at hP hD
                            refine lv_iload hx hb dL_home_217 (lv_at hl 3 rfl) ?_
                            refine lv_iload hx hb dL_home_219 (lv_at hl 1 rfl) ?_
                            refine lv_iadd hx hb dL_home_221 ?_
                            refine lv_iload hx hb dL_home_222 (lv_at hl 0 rfl) ?_
                            refine lv_iadd hx hb dL_home_224 ?_
                            exact zEia (v := (nn + (nI n2)) + (nI n3)) (ws' := [(yh, aI g 19 (hmX S x3)), (yw, aI g 18 (wS S))]) hx hb hlocks hr rfl hK hP hD hS [0, 1] rfl rfl (by rw [en, hq0, Nat.sub_zero, nI_add, nI_add]; unfold hoR; rw [if_pos (show hPP S from ⟨hp1, hp2, hp3⟩), hH1, hN2, hN3]) (by rw [show hoF S = hmX S x3 from by rw [ho_y (show hPP S from ⟨hp1, hp2, hp3⟩)]; unfold hmS; rw [hX3]]) dL_home_225
                          · exact absurd (nI_pos' (by omega)) c192
                        · refine zTop (y := (-9000000)) (by unfold crB; exact if_neg q3c) ?_
                          refine lv_istore (lv' := [(10, .int (-9000000)), (9, .int (nI n2)), (8, .int mw), (6, .int nn), (0, .ref yh), (1, .ref yw), (2, .ref q2)]) hx hb dL_home_188 hl (by decide) rfl (fun ls hl => ?_)
                          refine lv_iload hx hb dL_home_190 (lv_at hl 0 rfl) ?_
                          refine lv_if_ge (tgt := 198) hx hb dL_home_192 (by decide) (fun c192 => ?_) (fun c192 => ?_)
                          · exact absurd c192 (by decide)
                          · refine lv_ldc hx hb hown (hts (.constant RL 29 (-9000000)) (List.mem_of_getElem? (i := 2) rfl)) dL_home_195 ?_
                            exact zEia (v := (-9000000)) (ws' := [(yh, aI g 19 (putT S (crp S (-1) 1 (F4 + 1) 0 x2).1)), (yw, aI g 18 (wS S))]) hx hb hlocks hr rfl hK hP hD hS [0, 1] rfl rfl ((ho_n3 hle (ho2.mpr hp2) (by rw [hX2]; exact q3c)).1).symm (by rw [(ho_n3 hle (ho2.mpr hp2) (by rw [hX2]; exact q3c)).2, hX2]) dL_home_197
                      · exact absurd (nI_pos' (by omega)) c173
                    · refine zTop (y := (-9000000)) (by unfold crB; exact if_neg q2c) ?_
                      refine lv_istore (lv' := [(9, .int (-9000000)), (8, .int mw), (6, .int nn), (0, .ref yh), (1, .ref yw), (2, .ref q2)]) hx hb dL_home_169 hl (by decide) rfl (fun ls hl => ?_)
                      refine lv_iload hx hb dL_home_171 (lv_at hl 0 rfl) ?_
                      refine lv_if_ge (tgt := 181) hx hb dL_home_173 (by decide) (fun c173 => ?_) (fun c173 => ?_)
                      · exact absurd c173 (by decide)
                      · refine lv_iload hx hb dL_home_176 (lv_at hl 0 rfl) ?_
                        refine lv_goto (tgt := 188) hx hb dL_home_178 (by decide) ?_
                        refine lv_istore (lv' := [(10, .int (-9000000)), (9, .int (-9000000)), (8, .int mw), (6, .int nn), (0, .ref yh), (1, .ref yw), (2, .ref q2)]) hx hb dL_home_188 hl (by decide) rfl (fun ls hl => ?_)
                        refine lv_iload hx hb dL_home_190 (lv_at hl 0 rfl) ?_
                        refine lv_if_ge (tgt := 198) hx hb dL_home_192 (by decide) (fun c192 => ?_) (fun c192 => ?_)
                        · exact absurd c192 (by decide)
                        · refine lv_ldc hx hb hown (hts (.constant RL 29 (-9000000)) (List.mem_of_getElem? (i := 2) rfl)) dL_home_195 ?_
                          exact zEia (v := (-9000000)) (ws' := [(yh, aI g 19 (putT S (crp S 1 0 (F4 + 1) 0 z).1)), (yw, aI g 18 (wS S))]) hx hb hlocks hr rfl hK hP hD hS [0, 1] rfl rfl ((ho_n2 hle (by rw [hxz]; exact q2c)).1).symm (by rw [(ho_n2 hle (by rw [hxz]; exact q2c)).2, hxz]) dL_home_197
                  · have hq1 : 1 ≤ q := by rcases Nat.eq_zero_or_pos q with h | h; exact absurd (by rw [ej, h]; decide) c124; exact h
                    refine lv_aload_n hx hb dL_home_127 rfl (lv_at hl 3 rfl) ?_
                    refine lv_aload_n hx hb dL_home_128 rfl (lv_at hl 4 rfl) ?_
                    refine lv_aload_n hx hb dL_home_129 rfl (lv_at hl 5 rfl) ?_
                    refine lv_iconst (v := (-1)) hx hb dL_home_130 (by decide +kernel) ?_
                    refine lv_iload hx hb dL_home_131 (lv_at hl 0 rfl) ?_
                    refine lv_iconst (v := 1) hx hb dL_home_133 (by decide +kernel) ?_
                    refine lv_isub hx hb dL_home_134 ?_
                    refine zTop (y := nI (q - 1)) (by rw [ej]; exact nI_m1 hq1) ?_
                    refine zSI (As := [.ref yh, .ref yw, .ref q2, .int (-1), .int (nI (q - 1))]) (rest := []) (wc := [(yh, aI g 19 (putT S z)), (yw, aI g 18 (wS S)), (q2, aI g 64 (fillT (ivS S) (fun _ => 0) (topS S + 1)))]) (wr := []) (wc' := [(yh, aI g 19 (putT (putT S z) (stp (putT S z) (-1) ((fillT (ivS S) (fun _ => 0) (topS S + 1)) (q - 1)) (puS (putT S z) (q - 1)) (getT (putT S z))))), (yw, aI g 18 (wS S)), (q2, aI g 64 (fillT (ivS S) (fun _ => 0) (topS S + 1)))]) ⟨hx, hb, hml, hown, hts⟩ (l_step l g yh yw q2 (putT S z) (wS S) (fillT (ivS S) (fun _ => 0) (topS S + 1)) (-1) (nI (q - 1)) (q - 1) (setOk_put hok) hnl ((wS_put S _).symm) rfl (by omega)) (va_cwS 5 hts gL_home_L_step rfl rfl rfl (by decide +kernel) ⟨Nat.le_of_ble_eq_true rfl, Nat.le_of_ble_eq_true rfl⟩) hE hK hP hD hS hA [0, 1, 2] [] rfl rfl rfl rfl (by decide) rfl hl.1 rfl (lv_room (Nat.le_of_ble_eq_true rfl)) ⟨(Nat.le_of_ble_eq_true rfl), (Nat.le_of_ble_eq_true rfl)⟩ dL_home_135 (fun H locs hP hD hS => ?_)
                    have hP : va_P g.1 vwCl [(yh, aI g 19 (putT (putT S z) (stp (putT S z) (-1) ((fillT (ivS S) (fun _ => 0) (topS S + 1)) (q - 1)) (puS (putT S z) (q - 1)) (getT (putT S z))))), (yw, aI g 18 (wS S)), (q2, aI g 64 (fillT (ivS S) (fun _ => 0) (topS S + 1)))] H := hP
                    have hD : va_D A [(yh, aI g 19 (putT (putT S z) (stp (putT S z) (-1) ((fillT (ivS S) (fun _ => 0) (topS S + 1)) (q - 1)) (puS (putT S z) (q - 1)) (getT (putT S z))))), (yw, aI g 18 (wS S)), (q2, aI g 64 (fillT (ivS S) (fun _ => 0) (topS S + 1)))] := hD
                    rw [show (putT (putT S z) (stp (putT S z) (-1) ((fillT (ivS S) (fun _ => 0) (topS S + 1)) (q - 1)) (puS (putT S z) (q - 1)) (getT (putT S z)))) = putT S (stp S (-1) (ivS S (q - 1)) (puS S (q - 1)) z) from (stpE S z (-1) (ivS S (q - 1)) (puS S (q - 1)) _ (q - 1) (fillT_in (by omega)) rfl)] at hP hD
                    refine lv_if_ne (tgt := 146) hx hb dL_home_138 (by decide) (fun c138 => ?_) (fun c138 => ?_)
                    · have c138 := b01_t c138
                      refine lv_iconst (v := 1) hx hb dL_home_146 (by decide +kernel) ?_
                      refine lv_goto (tgt := 151) hx hb dL_home_147 (by decide) ?_
                      refine lv_istore (lv' := [(8, .int 1), (9, .int jj), (6, .int nn), (0, .ref yh), (1, .ref yw), (2, .ref q2)]) hx hb dL_home_151 hl (by decide) rfl (fun ls hl => ?_)
                      refine lv_iinc (v := nn + 1) (lv' := [(6, .int (nn + 1)), (8, .int 1), (9, .int jj), (0, .ref yh), (1, .ref yw), (2, .ref q2)]) hx hb dL_home_153 hl (k := 2) rfl (by rfl) (by decide) rfl (fun ls hl => ?_)
                      refine lv_iinc (v := jj + (-1)) (lv' := [(9, .int (jj + (-1))), (6, .int (nn + 1)), (8, .int 1), (0, .ref yh), (1, .ref yw), (2, .ref q2)]) hx hb dL_home_156 hl (k := 2) rfl (by rfl) (by decide) rfl (fun ls hl => ?_)
                      refine lv_goto (tgt := 122) hx hb dL_home_159 (by decide) ?_
                      exact ih (q - 1) (jj + (-1)) (nn + 1) 1 (stp S (-1) (ivS S (q - 1)) (puS S (q - 1)) z) (by omega) (by rw [ej]; obtain ⟨q', rfl⟩ : ∃ q', q = q' + 1 := ⟨q - 1, by omega⟩; exact pk_m1 q') (by rw [en, nI_1]; exact congrArg nI (by omega)) (by rw [show kSl S - (q - 1) = (kSl S - q) + 1 by omega, slw_s, show kSl S - 1 - (kSl S - q) = q - 1 by omega, ← hz]) (by omega) _ _ (zP_sub hP [0, 1, 2] rfl) (hD.sub [0, 1, 2] rfl rfl) hS ls (lv_sub hl [0, 2, 1, 3, 4, 5] rfl)
                    · have c138 := b01_f c138
                      refine lv_iload hx hb dL_home_141 (lv_at hl 1 rfl) ?_
                      refine lv_if_eq (tgt := 150) hx hb dL_home_143 (by decide) (fun c143 => ?_) (fun c143 => ?_)
                      · refine lv_iconst (v := 0) hx hb dL_home_150 (by decide +kernel) ?_
                        refine lv_istore (lv' := [(8, .int 0), (9, .int jj), (6, .int nn), (0, .ref yh), (1, .ref yw), (2, .ref q2)]) hx hb dL_home_151 hl (by decide) rfl (fun ls hl => ?_)
                        refine lv_iinc (v := nn + 1) (lv' := [(6, .int (nn + 1)), (8, .int 0), (9, .int jj), (0, .ref yh), (1, .ref yw), (2, .ref q2)]) hx hb dL_home_153 hl (k := 2) rfl (by rfl) (by decide) rfl (fun ls hl => ?_)
                        refine lv_iinc (v := jj + (-1)) (lv' := [(9, .int (jj + (-1))), (6, .int (nn + 1)), (8, .int 0), (0, .ref yh), (1, .ref yw), (2, .ref q2)]) hx hb dL_home_156 hl (k := 2) rfl (by rfl) (by decide) rfl (fun ls hl => ?_)
                        refine lv_goto (tgt := 122) hx hb dL_home_159 (by decide) ?_
                        exact ih (q - 1) (jj + (-1)) (nn + 1) 0 (stp S (-1) (ivS S (q - 1)) (puS S (q - 1)) z) (by omega) (by rw [ej]; obtain ⟨q', rfl⟩ : ∃ q', q = q' + 1 := ⟨q - 1, by omega⟩; exact pk_m1 q') (by rw [en, nI_1]; exact congrArg nI (by omega)) (by rw [show kSl S - (q - 1) = (kSl S - q) + 1 by omega, slw_s, show kSl S - 1 - (kSl S - q) = q - 1 by omega, ← hz]) (by omega) _ _ (zP_sub hP [0, 1, 2] rfl) (hD.sub [0, 1, 2] rfl rfl) hS ls (lv_sub hl [0, 2, 1, 3, 4, 5] rfl)
                      · refine lv_iconst (v := 1) hx hb dL_home_146 (by decide +kernel) ?_
                        refine lv_goto (tgt := 151) hx hb dL_home_147 (by decide) ?_
                        refine lv_istore (lv' := [(8, .int 1), (9, .int jj), (6, .int nn), (0, .ref yh), (1, .ref yw), (2, .ref q2)]) hx hb dL_home_151 hl (by decide) rfl (fun ls hl => ?_)
                        refine lv_iinc (v := nn + 1) (lv' := [(6, .int (nn + 1)), (8, .int 1), (9, .int jj), (0, .ref yh), (1, .ref yw), (2, .ref q2)]) hx hb dL_home_153 hl (k := 2) rfl (by rfl) (by decide) rfl (fun ls hl => ?_)
                        refine lv_iinc (v := jj + (-1)) (lv' := [(9, .int (jj + (-1))), (6, .int (nn + 1)), (8, .int 1), (0, .ref yh), (1, .ref yw), (2, .ref q2)]) hx hb dL_home_156 hl (k := 2) rfl (by rfl) (by decide) rfl (fun ls hl => ?_)
                        refine lv_goto (tgt := 122) hx hb dL_home_159 (by decide) ?_
                        exact ih (q - 1) (jj + (-1)) (nn + 1) 1 (stp S (-1) (ivS S (q - 1)) (puS S (q - 1)) z) (by omega) (by rw [ej]; obtain ⟨q', rfl⟩ : ∃ q', q = q' + 1 := ⟨q - 1, by omega⟩; exact pk_m1 q') (by rw [en, nI_1]; exact congrArg nI (by omega)) (by rw [show kSl S - (q - 1) = (kSl S - q) + 1 by omega, slw_s, show kSl S - 1 - (kSl S - q) = q - 1 by omega, ← hz]) (by omega) _ _ (zP_sub hP [0, 1, 2] rfl) (hD.sub [0, 1, 2] rfl rfl) hS ls (lv_sub hl [0, 2, 1, 3, 4, 5] rfl)
              exact lp122 ((kSl S) + 1) (kSl S) (nI (kSl S)) ii mv y (Nat.le_refl _) rfl (by rw [Nat.sub_self, Nat.add_zero]; exact ei) (by rw [Nat.sub_self, slw_z]) (Nat.lt_succ_self _) _ _ (zP_sub hP [0, 1, 2] rfl) (hD.sub [0, 1, 2] rfl rfl) hS ls (lv_sub hl [0, 1, 3, 5, 6, 7] rfl)
            refine lv_if_ne (tgt := 118) hx hb dL_home_111 (by decide) (fun c111 => ?_) (fun c111 => ?_)
            · refine lv_iload hx hb dL_home_118 (lv_at hl 1 rfl) ?_
              refine zTop (y := nI (kSl S)) (by rw [hKs]; exact hidx.resolve_left (fun h => c111 (by rw [ei, h]; rfl))) ?_
              exact j120 _ _ (zP_sub hP [0, 1, 2] rfl) (hD.sub [0, 1, 2] rfl rfl) hS ls (lv_sub hl [0, 1, 2, 3, 4, 5, 6] rfl)
            · refine lv_iconst (v := 0) hx hb dL_home_114 (by decide +kernel) ?_
              refine lv_goto (tgt := 120) hx hb dL_home_115 (by decide) ?_
              refine zTop (y := nI (kSl S)) (by rw [hKs, show k = 0 from (nI_eq (b := 0) (by omega) (by decide)).mp (by rw [← ei]; exact c111), show min (0 - 1) (hG S) = 0 by omega]; rfl) ?_
              exact j120 _ _ (zP_sub hP [0, 1, 2] rfl) (hD.sub [0, 1, 2] rfl rfl) hS ls (lv_sub hl [0, 1, 2, 3, 4, 5, 6] rfl)
          · have hn1 : ¬ (rdn S (hG S) (F4 + 1) 0 (getT S)).2 ≤ F4 := by rw [hy]; intro h; exact c103 (by rw [ei]; exact nI_le (a := k) (b := 4000) (by omega) (by decide))
            refine lv_ldc hx hb hown (hts (.constant RL 29 (-9000000)) (List.mem_of_getElem? (i := 2) rfl)) dL_home_106 ?_
            exact zEia (v := (-9000000)) (ws' := [(yh, aI g 19 (putT S y)), (yw, aI g 18 (wS S))]) hx hb hlocks hr rfl hK hP hD hS [0, 1] rfl rfl ((ho_n1 hn1).1).symm (by rw [(ho_n1 hn1).2, hy]) dL_home_108
        · refine lv_iload hx hb dL_home_57 (lv_at hl 2 rfl) ?_
          refine lv_sipush (v := 4001) hx hb dL_home_59 (by decide +kernel) ?_
          refine lv_icmp_ge (tgt := 98) hx hb dL_home_62 (by decide) (fun c62 => ?_) (fun c62 => ?_)
          · have hkn : k = F4 + 1 := by have h := nle_of (n := 4001) (k := k) (by decide) (by omega) (by rw [ei] at c62; exact c62); omega
            have hy : rdn S (hG S) (F4 + 1) 0 (getT S) = (y, k) := by rw [← hcr, hkn, Nat.sub_self]; rfl
            refine lv_iload hx hb dL_home_98 (lv_at hl 2 rfl) ?_
            refine lv_sipush (v := 4000) hx hb dL_home_100 (by decide +kernel) ?_
            refine lv_icmp_le (tgt := 109) hx hb dL_home_103 (by decide) (fun c103 => ?_) (fun c103 => ?_)
            · exact absurd c103 (by rw [ei, hkn, hF4]; decide)
            · have hn1 : ¬ (rdn S (hG S) (F4 + 1) 0 (getT S)).2 ≤ F4 := by rw [hy]; intro h; exact c103 (by rw [ei]; exact nI_le (a := k) (b := 4000) (by omega) (by decide))
              refine lv_ldc hx hb hown (hts (.constant RL 29 (-9000000)) (List.mem_of_getElem? (i := 2) rfl)) dL_home_106 ?_
              exact zEia (v := (-9000000)) (ws' := [(yh, aI g 19 (putT S y)), (yw, aI g 18 (wS S))]) hx hb hlocks hr rfl hK hP hD hS [0, 1] rfl rfl ((ho_n1 hn1).1).symm (by rw [(ho_n1 hn1).2, hy]) dL_home_108
          · have hlt : k < 4001 := nlt_of (n := 4001) (k := k) (by decide) (by rw [ei] at c62; exact c62) (by omega)
            refine lv_iload hx hb dL_home_65 (lv_at hl 2 rfl) ?_
            refine lv_iload hx hb dL_home_67 (lv_at hl 3 rfl) ?_
            have j79 : ∀ (H : Heap) (locs : List Loc), va_P g.1 vwCl [(yh, aI g 19 (putT S y)), (yw, aI g 18 (wS S)), (q2, aI g 64 (fillT (ivS S) (fun _ => 0) (topS S + 1)))] H → va_D A [(yh, aI g 19 (putT S y)), (yw, aI g 18 (wS S)), (q2, aI g 64 (fillT (ivS S) (fun _ => 0) (topS S + 1)))] → va_S A sx.heap H locs → ∀ (ls : Array Slot), lv_has ls 11 [(8, .int mv), (7, .int idx), (6, .int ii), (5, .int (nI (hG S))), (0, .ref yh), (1, .ref yw), (2, .ref q2)] → W pg l ev (rkn 3 76 2 128) sx mi args below meth cd H locs 2 128 (MQ below (zQi g (hoR S) [(yh, aI g 19 (hoF S)), (yw, aI g 18 (wS S))] A) args sx 2 128 A) (F0 mi 79 ls [.int (nI (min k (hG S)))]) := by
              intro H locs hP hD hS ls hl
              refine lv_istore (lv' := [(7, .int (nI (min k (hG S)))), (8, .int mv), (6, .int ii), (5, .int (nI (hG S))), (0, .ref yh), (1, .ref yw), (2, .ref q2)]) hx hb dL_home_79 hl (by decide) rfl (fun ls hl => ?_)
              refine lv_aload_n hx hb dL_home_81 rfl (lv_at hl 4 rfl) ?_
              refine lv_aload_n hx hb dL_home_82 rfl (lv_at hl 5 rfl) ?_
              refine lv_aload_n hx hb dL_home_83 rfl (lv_at hl 6 rfl) ?_
              refine lv_iconst (v := (-1)) hx hb dL_home_84 (by decide +kernel) ?_
              refine lv_iload hx hb dL_home_85 (lv_at hl 0 rfl) ?_
              refine zSI (As := [.ref yh, .ref yw, .ref q2, .int (-1), .int (nI (min k (hG S)))]) (rest := []) (wc := [(yh, aI g 19 (putT S y)), (yw, aI g 18 (wS S)), (q2, aI g 64 (fillT (ivS S) (fun _ => 0) (topS S + 1)))]) (wr := []) (wc' := [(yh, aI g 19 (putT (putT S y) (stp (putT S y) (-1) ((fillT (ivS S) (fun _ => 0) (topS S + 1)) (min k (hG S))) (puS (putT S y) (min k (hG S))) (getT (putT S y))))), (yw, aI g 18 (wS S)), (q2, aI g 64 (fillT (ivS S) (fun _ => 0) (topS S + 1)))]) ⟨hx, hb, hml, hown, hts⟩ (l_step l g yh yw q2 (putT S y) (wS S) (fillT (ivS S) (fun _ => 0) (topS S + 1)) (-1) (nI (min k (hG S))) (min k (hG S)) (setOk_put hok) hnl ((wS_put S _).symm) rfl (by omega)) (va_cwS 5 hts gL_home_L_step rfl rfl rfl (by decide +kernel) ⟨Nat.le_of_ble_eq_true rfl, Nat.le_of_ble_eq_true rfl⟩) hE hK hP hD hS hA [0, 1, 2] [] rfl rfl rfl rfl (by decide) rfl hl.1 rfl (lv_room (Nat.le_of_ble_eq_true rfl)) ⟨(Nat.le_of_ble_eq_true rfl), (Nat.le_of_ble_eq_true rfl)⟩ dL_home_87 (fun H locs hP hD hS => ?_)
              have hP : va_P g.1 vwCl [(yh, aI g 19 (putT (putT S y) (stp (putT S y) (-1) ((fillT (ivS S) (fun _ => 0) (topS S + 1)) (min k (hG S))) (puS (putT S y) (min k (hG S))) (getT (putT S y))))), (yw, aI g 18 (wS S)), (q2, aI g 64 (fillT (ivS S) (fun _ => 0) (topS S + 1)))] H := hP
              have hD : va_D A [(yh, aI g 19 (putT (putT S y) (stp (putT S y) (-1) ((fillT (ivS S) (fun _ => 0) (topS S + 1)) (min k (hG S))) (puS (putT S y) (min k (hG S))) (getT (putT S y))))), (yw, aI g 18 (wS S)), (q2, aI g 64 (fillT (ivS S) (fun _ => 0) (topS S + 1)))] := hD
              rw [show (putT (putT S y) (stp (putT S y) (-1) ((fillT (ivS S) (fun _ => 0) (topS S + 1)) (min k (hG S))) (puS (putT S y) (min k (hG S))) (getT (putT S y)))) = putT S (stp S (-1) (ivS S (min k (hG S))) (puS S (min k (hG S))) y) from (stpE S y (-1) (ivS S (min k (hG S))) (puS S (min k (hG S))) _ (min k (hG S)) (fillT_in (by omega)) rfl)] at hP hD
              refine lv_istore (lv' := [(8, .int (b01 (¬ (missP (ldS (putT S y) ((putT S y) 11)) (puS (putT S y) (min k (hG S))) ((putT S y) 11 + (-1)))))), (7, .int (nI (min k (hG S)))), (6, .int ii), (5, .int (nI (hG S))), (0, .ref yh), (1, .ref yw), (2, .ref q2)]) hx hb dL_home_90 hl (by decide) rfl (fun ls hl => ?_)
              refine lv_iinc (v := ii + 1) (lv' := [(6, .int (ii + 1)), (8, .int (b01 (¬ (missP (ldS (putT S y) ((putT S y) 11)) (puS (putT S y) (min k (hG S))) ((putT S y) 11 + (-1)))))), (7, .int (nI (min k (hG S)))), (5, .int (nI (hG S))), (0, .ref yh), (1, .ref yw), (2, .ref q2)]) hx hb dL_home_92 hl (k := 2) rfl (by rfl) (by decide) rfl (fun ls hl => ?_)
              refine lv_goto (tgt := 50) hx hb dL_home_95 (by decide) ?_
              exact ih (k + 1) (ii + 1) (nI (min k (hG S))) (b01 (¬ (missP (ldS (putT S y) ((putT S y) 11)) (puS (putT S y) (min k (hG S))) ((putT S y) 11 + (-1))))) (stp S (-1) (ivS S (min k (hG S))) (puS S (min k (hG S))) y) (by omega) (by rw [ei]; exact nI_1 k) (Or.inr rfl) ((rdn_1 (S := S) (G := hG S) (f := F4 + 1 - (k + 1)) (i := k) c54).symm.trans (by rw [show F4 + 1 - (k + 1) + 1 = F4 + 1 - k by omega]; exact hcr)) (by omega) _ _ (zP_sub hP [0, 1, 2] rfl) (hD.sub [0, 1, 2] rfl rfl) hS ls (lv_sub hl [1, 2, 0, 3, 4, 5, 6] rfl)
            refine lv_icmp_ge (tgt := 77) hx hb dL_home_69 (by decide) (fun c69 => ?_) (fun c69 => ?_)
            · refine lv_iload hx hb dL_home_77 (lv_at hl 3 rfl) ?_
              refine zTop (y := nI (min k (hG S))) (by have h := nle_of (n := hG S) (k := k) (by omega) (by omega) (by rw [ei] at c69; exact c69); exact congrArg nI (by omega)) ?_
              exact j79 _ _ (zP_sub hP [0, 1, 2] rfl) (hD.sub [0, 1, 2] rfl rfl) hS ls (lv_sub hl [0, 1, 2, 3, 4, 5, 6] rfl)
            · refine lv_iload hx hb dL_home_72 (lv_at hl 2 rfl) ?_
              refine lv_goto (tgt := 79) hx hb dL_home_74 (by decide) ?_
              refine zTop (y := nI (min k (hG S))) (by rw [ei]; have h := nlt_of (n := hG S) (k := k) (by omega) (by rw [ei] at c69; exact c69) (by omega); exact congrArg nI (by omega)) ?_
              exact j79 _ _ (zP_sub hP [0, 1, 2] rfl) (hD.sub [0, 1, 2] rfl rfl) hS ls (lv_sub hl [0, 1, 2, 3, 4, 5, 6] rfl)
    exact lp50 ((F4 + 1 - 0) + 1) 0 0 0 1 (getT S) (Nat.zero_le _) rfl (Or.inl rfl) rfl (Nat.lt_succ_self _) _ _ (zP_sub hP [1, 0, 2] rfl) (hD.sub [1, 0, 2] rfl rfl) hS ls (lv_sub hl [0, 1, 2, 3, 7, 8, 6] rfl)
  refine lv_icmp_ge (tgt := 37) hx hb dL_home_27 (by decide) (fun c27 => ?_) (fun c27 => ?_)
  · refine lv_iload hx hb dL_home_37 (lv_at hl 0 rfl) ?_
    refine zTop (y := nI (hG S)) (rd_g2 hok.2.2.2.2.2.2.2 c27) ?_
    exact j39 _ _ (zP_sub hP [0, 1, 2, 3] rfl) (hD.sub [0, 1, 2, 3] rfl rfl) hS ls (lv_sub hl [0, 1, 2, 3, 4] rfl)
  · refine lv_aload_n hx hb dL_home_30 rfl (lv_at hl 3 rfl) ?_
    refine lv_bipush (v := 7) hx hb dL_home_31 (by decide +kernel) ?_
    refine zald (k := 7) hx hb hK hP 1 0 rfl rfl (IX.lit (by decide +kernel)) dL_home_33 ?_
    refine lv_goto (tgt := 39) hx hb dL_home_34 (by decide) ?_
    refine zTop (y := nI (hG S)) (rd_g hok.2.2.2.2.2.2.2 c27) ?_
    exact j39 _ _ (zP_sub hP [0, 1, 2, 3] rfl) (hD.sub [0, 1, 2, 3] rfl rfl) hS ls (lv_sub hl [0, 1, 2, 3, 4] rfl)

