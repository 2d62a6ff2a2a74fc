set_option maxHeartbeats 4000000 in
set_option maxRecDepth 100000 in
theorem r_axis (l : Launch) (g : G3) (m0 m1 m2 m3 m4 m5 m6 m7 m8 : Nat) (ps rn ty la mn ma sn so ca cm kd : Int32) (S : Nat → Int32) (w : Int32) : MI l yX9_axis wsX9_axis (rk 0 0) g [.ref m0, .int w] [(m0, oB 9 [.ref m1, .ref m2, .ref m3, .ref m4, .int ps, .int rn, .ref m5, .int ty, .ref m6, .ref m7, .int la, .int mn, .int ma, .int sn, .int so, .int ca, .int cm, .int kd, .ref m8]), (m1, aI g 63 S)] (axR S w) [(m0, oB 9 [.ref m1, .ref m2, .ref m3, .ref m4, .int ps, .int rn, .ref m5, .int ty, .ref m6, .ref m7, .int la, .int mn, .int ma, .int sn, .int so, .int ca, .int cm, .int kd, .ref m8]), (m1, aI g 63 S)] := by
  refine zWalk.met (Qc := fun A => zQi g (axR S w) [(m0, oB 9 [.ref m1, .ref m2, .ref m3, .ref m4, .int ps, .int rn, .ref m5, .int ty, .ref m6, .ref m7, .int la, .int mn, .int ma, .int sn, .int so, .int ca, .int cm, .int kd, .ref m8]), (m1, aI g 63 S)] A) (cc := cX9_axis) (maxL := 2) (ret := (some .int)) ?_ (by decide) rfl (Nat.le_of_ble_eq_true rfl)
  intro pg ev sx mi args below meth cd A H locs ls hx hb hr hml hown hts hlocks hA hE hK hP hD hS hl
  have iX9 : ∀ w ∈ u_ws RX9 TX9 19, w ∈ wsX9_axis := (fun _ h => (List.mem_cons_of_mem _ (List.mem_append_right _ h)))
  have hl : lv_has ls 2 [(0, .ref m0), (1, .int w)] := hl
  refine lv_iload_n hx hb dX9_axis_0 rfl (lv_at hl 1 rfl) ?_
  by_cases h0 : w = 0
  · refine lv_tableIn (off := 55) (tgt := 56) hx hb dX9_axis_1 (by rw [h0]; decide +kernel) (by rw [h0]; decide +kernel) (by rw [h0]; rfl) (by decide) ?_
    refine lv_aload_n hx hb dX9_axis_56 rfl (lv_at hl 0 rfl) ?_
    refine va_get (D := g.1) (ci := 9) (v := .ref m1) (C := RX9) (T := TX9) (N := 19) hx hb hts iX9 hown hK hP 0 rfl rfl 0 (by decide) (hts (.fieldLink RX9 7 "StepAxisModel" "s" "[I") (List.mem_of_getElem? (i := 1) rfl)) (fun _ h9 => h9) rfl dX9_axis_57 ?_
    refine lv_bipush (v := 10) hx hb dX9_axis_60 (by decide +kernel) ?_
    refine zald (k := 10) hx hb hK hP 1 0 rfl rfl (IX.lit (by decide +kernel)) dX9_axis_62 ?_
    exact zEi (v := S 10) (ws' := [(m0, oB 9 [.ref m1, .ref m2, .ref m3, .ref m4, .int ps, .int rn, .ref m5, .int ty, .ref m6, .ref m7, .int la, .int mn, .int ma, .int sn, .int so, .int ca, .int cm, .int kd, .ref m8]), (m1, aI g 63 S)]) hx hb hlocks hr rfl hK hP hD hS [0, 1] rfl rfl (by unfold axR; rw [if_pos h0]) rfl dX9_axis_63
  by_cases h1 : w = 1
  · refine lv_tableIn (off := 63) (tgt := 64) hx hb dX9_axis_1 (by rw [h1]; decide +kernel) (by rw [h1]; decide +kernel) (by rw [h1]; rfl) (by decide) ?_
    refine lv_aload_n hx hb dX9_axis_64 rfl (lv_at hl 0 rfl) ?_
    refine va_get (D := g.1) (ci := 9) (v := .ref m1) (C := RX9) (T := TX9) (N := 19) hx hb hts iX9 hown hK hP 0 rfl rfl 0 (by decide) (hts (.fieldLink RX9 7 "StepAxisModel" "s" "[I") (List.mem_of_getElem? (i := 1) rfl)) (fun _ h9 => h9) rfl dX9_axis_65 ?_
    refine lv_bipush (v := 11) hx hb dX9_axis_68 (by decide +kernel) ?_
    refine zald (k := 11) hx hb hK hP 1 0 rfl rfl (IX.lit (by decide +kernel)) dX9_axis_70 ?_
    exact zEi (v := S 11) (ws' := [(m0, oB 9 [.ref m1, .ref m2, .ref m3, .ref m4, .int ps, .int rn, .ref m5, .int ty, .ref m6, .ref m7, .int la, .int mn, .int ma, .int sn, .int so, .int ca, .int cm, .int kd, .ref m8]), (m1, aI g 63 S)]) hx hb hlocks hr rfl hK hP hD hS [0, 1] rfl rfl (by unfold axR; rw [if_neg h0, if_pos h1]) rfl dX9_axis_71
  by_cases h2 : w = 2
  · refine lv_tableIn (off := 71) (tgt := 72) hx hb dX9_axis_1 (by rw [h2]; decide +kernel) (by rw [h2]; decide +kernel) (by rw [h2]; rfl) (by decide) ?_
    refine lv_aload_n hx hb dX9_axis_72 rfl (lv_at hl 0 rfl) ?_
    refine va_get (D := g.1) (ci := 9) (v := .ref m1) (C := RX9) (T := TX9) (N := 19) hx hb hts iX9 hown hK hP 0 rfl rfl 0 (by decide) (hts (.fieldLink RX9 7 "StepAxisModel" "s" "[I") (List.mem_of_getElem? (i := 1) rfl)) (fun _ h9 => h9) rfl dX9_axis_73 ?_
    refine lv_bipush (v := 10) hx hb dX9_axis_76 (by decide +kernel) ?_
    refine zald (k := 10) hx hb hK hP 1 0 rfl rfl (IX.lit (by decide +kernel)) dX9_axis_78 ?_
    refine lv_aload_n hx hb dX9_axis_79 rfl (lv_at hl 0 rfl) ?_
    refine va_get (D := g.1) (ci := 9) (v := .ref m1) (C := RX9) (T := TX9) (N := 19) hx hb hts iX9 hown hK hP 0 rfl rfl 0 (by decide) (hts (.fieldLink RX9 7 "StepAxisModel" "s" "[I") (List.mem_of_getElem? (i := 1) rfl)) (fun _ h9 => h9) rfl dX9_axis_80 ?_
    refine lv_bipush (v := 11) hx hb dX9_axis_83 (by decide +kernel) ?_
    refine zald (k := 11) hx hb hK hP 1 0 rfl rfl (IX.lit (by decide +kernel)) dX9_axis_85 ?_
    refine lv_isub hx hb dX9_axis_86 ?_
    refine lv_aload_n hx hb dX9_axis_87 rfl (lv_at hl 0 rfl) ?_
    refine va_get (D := g.1) (ci := 9) (v := .ref m1) (C := RX9) (T := TX9) (N := 19) hx hb hts iX9 hown hK hP 0 rfl rfl 0 (by decide) (hts (.fieldLink RX9 7 "StepAxisModel" "s" "[I") (List.mem_of_getElem? (i := 1) rfl)) (fun _ h9 => h9) rfl dX9_axis_88 ?_
    refine lv_bipush (v := 12) hx hb dX9_axis_91 (by decide +kernel) ?_
    refine zald (k := 12) hx hb hK hP 1 0 rfl rfl (IX.lit (by decide +kernel)) dX9_axis_93 ?_
    refine lv_isub hx hb dX9_axis_94 ?_
    exact zEi (v := ((S 10) - (S 11)) - (S 12)) (ws' := [(m0, oB 9 [.ref m1, .ref m2, .ref m3, .ref m4, .int ps, .int rn, .ref m5, .int ty, .ref m6, .ref m7, .int la, .int mn, .int ma, .int sn, .int so, .int ca, .int cm, .int kd, .ref m8]), (m1, aI g 63 S)]) hx hb hlocks hr rfl hK hP hD hS [0, 1] rfl rfl (by unfold axR; rw [if_neg h0, if_neg h1, if_pos h2]) rfl dX9_axis_95
  by_cases h3 : w = 3
  · refine lv_tableIn (off := 95) (tgt := 96) hx hb dX9_axis_1 (by rw [h3]; decide +kernel) (by rw [h3]; decide +kernel) (by rw [h3]; rfl) (by decide) ?_
    refine lv_aload_n hx hb dX9_axis_96 rfl (lv_at hl 0 rfl) ?_
    refine va_get (D := g.1) (ci := 9) (v := .ref m1) (C := RX9) (T := TX9) (N := 19) hx hb hts iX9 hown hK hP 0 rfl rfl 0 (by decide) (hts (.fieldLink RX9 7 "StepAxisModel" "s" "[I") (List.mem_of_getElem? (i := 1) rfl)) (fun _ h9 => h9) rfl dX9_axis_97 ?_
    refine lv_bipush (v := 13) hx hb dX9_axis_100 (by decide +kernel) ?_
    refine lv_iload_n hx hb dX9_axis_102 rfl (lv_at hl 1 rfl) ?_
    refine lv_iadd hx hb dX9_axis_103 ?_
    refine lv_iconst (v := 3) hx hb dX9_axis_104 (by decide +kernel) ?_
    refine lv_isub hx hb dX9_axis_105 ?_
    refine zald (k := 13) hx hb hK hP 1 0 rfl rfl (by rw [h3]; exact IX.lit (by decide +kernel)) dX9_axis_106 ?_
    exact zEi (v := S 13) (ws' := [(m0, oB 9 [.ref m1, .ref m2, .ref m3, .ref m4, .int ps, .int rn, .ref m5, .int ty, .ref m6, .ref m7, .int la, .int mn, .int ma, .int sn, .int so, .int ca, .int cm, .int kd, .ref m8]), (m1, aI g 63 S)]) hx hb hlocks hr rfl hK hP hD hS [0, 1] rfl rfl (by unfold axR; rw [if_neg h0, if_neg h1, if_neg h2, if_pos h3]) rfl dX9_axis_107
  by_cases h4 : w = 4
  · refine lv_tableIn (off := 95) (tgt := 96) hx hb dX9_axis_1 (by rw [h4]; decide +kernel) (by rw [h4]; decide +kernel) (by rw [h4]; rfl) (by decide) ?_
    refine lv_aload_n hx hb dX9_axis_96 rfl (lv_at hl 0 rfl) ?_
    refine va_get (D := g.1) (ci := 9) (v := .ref m1) (C := RX9) (T := TX9) (N := 19) hx hb hts iX9 hown hK hP 0 rfl rfl 0 (by decide) (hts (.fieldLink RX9 7 "StepAxisModel" "s" "[I") (List.mem_of_getElem? (i := 1) rfl)) (fun _ h9 => h9) rfl dX9_axis_97 ?_
    refine lv_bipush (v := 13) hx hb dX9_axis_100 (by decide +kernel) ?_
    refine lv_iload_n hx hb dX9_axis_102 rfl (lv_at hl 1 rfl) ?_
    refine lv_iadd hx hb dX9_axis_103 ?_
    refine lv_iconst (v := 3) hx hb dX9_axis_104 (by decide +kernel) ?_
    refine lv_isub hx hb dX9_axis_105 ?_
    refine zald (k := 14) hx hb hK hP 1 0 rfl rfl (by rw [h4]; exact IX.lit (by decide +kernel)) dX9_axis_106 ?_
    exact zEi (v := S 14) (ws' := [(m0, oB 9 [.ref m1, .ref m2, .ref m3, .ref m4, .int ps, .int rn, .ref m5, .int ty, .ref m6, .ref m7, .int la, .int mn, .int ma, .int sn, .int so, .int ca, .int cm, .int kd, .ref m8]), (m1, aI g 63 S)]) hx hb hlocks hr rfl hK hP hD hS [0, 1] rfl rfl (by unfold axR; rw [if_neg h0, if_neg h1, if_neg h2, if_neg h3, if_pos h4]) rfl dX9_axis_107
  by_cases h5 : w = 5
  · refine lv_tableIn (off := 95) (tgt := 96) hx hb dX9_axis_1 (by rw [h5]; decide +kernel) (by rw [h5]; decide +kernel) (by rw [h5]; rfl) (by decide) ?_
    refine lv_aload_n hx hb dX9_axis_96 rfl (lv_at hl 0 rfl) ?_
    refine va_get (D := g.1) (ci := 9) (v := .ref m1) (C := RX9) (T := TX9) (N := 19) hx hb hts iX9 hown hK hP 0 rfl rfl 0 (by decide) (hts (.fieldLink RX9 7 "StepAxisModel" "s" "[I") (List.mem_of_getElem? (i := 1) rfl)) (fun _ h9 => h9) rfl dX9_axis_97 ?_
    refine lv_bipush (v := 13) hx hb dX9_axis_100 (by decide +kernel) ?_
    refine lv_iload_n hx hb dX9_axis_102 rfl (lv_at hl 1 rfl) ?_
    refine lv_iadd hx hb dX9_axis_103 ?_
    refine lv_iconst (v := 3) hx hb dX9_axis_104 (by decide +kernel) ?_
    refine lv_isub hx hb dX9_axis_105 ?_
    refine zald (k := 15) hx hb hK hP 1 0 rfl rfl (by rw [h5]; exact IX.lit (by decide +kernel)) dX9_axis_106 ?_
    exact zEi (v := S 15) (ws' := [(m0, oB 9 [.ref m1, .ref m2, .ref m3, .ref m4, .int ps, .int rn, .ref m5, .int ty, .ref m6, .ref m7, .int la, .int mn, .int ma, .int sn, .int so, .int ca, .int cm, .int kd, .ref m8]), (m1, aI g 63 S)]) hx hb hlocks hr rfl hK hP hD hS [0, 1] rfl rfl (by unfold axR; rw [if_neg h0, if_neg h1, if_neg h2, if_neg h3, if_neg h4, if_pos h5]) rfl dX9_axis_107
  by_cases h6 : w = 6
  · refine lv_tableIn (off := 95) (tgt := 96) hx hb dX9_axis_1 (by rw [h6]; decide +kernel) (by rw [h6]; decide +kernel) (by rw [h6]; rfl) (by decide) ?_
    refine lv_aload_n hx hb dX9_axis_96 rfl (lv_at hl 0 rfl) ?_
    refine va_get (D := g.1) (ci := 9) (v := .ref m1) (C := RX9) (T := TX9) (N := 19) hx hb hts iX9 hown hK hP 0 rfl rfl 0 (by decide) (hts (.fieldLink RX9 7 "StepAxisModel" "s" "[I") (List.mem_of_getElem? (i := 1) rfl)) (fun _ h9 => h9) rfl dX9_axis_97 ?_
    refine lv_bipush (v := 13) hx hb dX9_axis_100 (by decide +kernel) ?_
    refine lv_iload_n hx hb dX9_axis_102 rfl (lv_at hl 1 rfl) ?_
    refine lv_iadd hx hb dX9_axis_103 ?_
    refine lv_iconst (v := 3) hx hb dX9_axis_104 (by decide +kernel) ?_
    refine lv_isub hx hb dX9_axis_105 ?_
    refine zald (k := 16) hx hb hK hP 1 0 rfl rfl (by rw [h6]; exact IX.lit (by decide +kernel)) dX9_axis_106 ?_
    exact zEi (v := S 16) (ws' := [(m0, oB 9 [.ref m1, .ref m2, .ref m3, .ref m4, .int ps, .int rn, .ref m5, .int ty, .ref m6, .ref m7, .int la, .int mn, .int ma, .int sn, .int so, .int ca, .int cm, .int kd, .ref m8]), (m1, aI g 63 S)]) hx hb hlocks hr rfl hK hP hD hS [0, 1] rfl rfl (by unfold axR; rw [if_neg h0, if_neg h1, if_neg h2, if_neg h3, if_neg h4, if_neg h5, if_pos h6]) rfl dX9_axis_107
  by_cases h7 : w = 7
  · refine lv_tableIn (off := 95) (tgt := 96) hx hb dX9_axis_1 (by rw [h7]; decide +kernel) (by rw [h7]; decide +kernel) (by rw [h7]; rfl) (by decide) ?_
    refine lv_aload_n hx hb dX9_axis_96 rfl (lv_at hl 0 rfl) ?_
    refine va_get (D := g.1) (ci := 9) (v := .ref m1) (C := RX9) (T := TX9) (N := 19) hx hb hts iX9 hown hK hP 0 rfl rfl 0 (by decide) (hts (.fieldLink RX9 7 "StepAxisModel" "s" "[I") (List.mem_of_getElem? (i := 1) rfl)) (fun _ h9 => h9) rfl dX9_axis_97 ?_
    refine lv_bipush (v := 13) hx hb dX9_axis_100 (by decide +kernel) ?_
    refine lv_iload_n hx hb dX9_axis_102 rfl (lv_at hl 1 rfl) ?_
    refine lv_iadd hx hb dX9_axis_103 ?_
    refine lv_iconst (v := 3) hx hb dX9_axis_104 (by decide +kernel) ?_
    refine lv_isub hx hb dX9_axis_105 ?_
    refine zald (k := 17) hx hb hK hP 1 0 rfl rfl (by rw [h7]; exact IX.lit (by decide +kernel)) dX9_axis_106 ?_
    exact zEi (v := S 17) (ws' := [(m0, oB 9 [.ref m1, .ref m2, .ref m3, .ref m4, .int ps, .int rn, .ref m5, .int ty, .ref m6, .ref m7, .int la, .int mn, .int ma, .int sn, .int so, .int ca, .int cm, .int kd, .ref m8]), (m1, aI g 63 S)]) hx hb hlocks hr rfl hK hP hD hS [0, 1] rfl rfl (by unfold axR; rw [if_neg h0, if_neg h1, if_neg h2, if_neg h3, if_neg h4, if_neg h5, if_neg h6, if_pos h7]) rfl dX9_axis_107
  by_cases h8 : w = 8
  · refine lv_tableIn (off := 107) (tgt := 108) hx hb dX9_axis_1 (by rw [h8]; decide +kernel) (by rw [h8]; decide +kernel) (by rw [h8]; rfl) (by decide) ?_
    refine lv_aload_n hx hb dX9_axis_108 rfl (lv_at hl 0 rfl) ?_
    refine va_get (D := g.1) (ci := 9) (v := .ref m1) (C := RX9) (T := TX9) (N := 19) hx hb hts iX9 hown hK hP 0 rfl rfl 0 (by decide) (hts (.fieldLink RX9 7 "StepAxisModel" "s" "[I") (List.mem_of_getElem? (i := 1) rfl)) (fun _ h9 => h9) rfl dX9_axis_109 ?_
    refine lv_bipush (v := 8) hx hb dX9_axis_112 (by decide +kernel) ?_
    refine lv_iload_n hx hb dX9_axis_114 rfl (lv_at hl 1 rfl) ?_
    refine lv_iadd hx hb dX9_axis_115 ?_
    refine lv_bipush (v := 8) hx hb dX9_axis_116 (by decide +kernel) ?_
    refine lv_isub hx hb dX9_axis_118 ?_
    refine zald (k := 8) hx hb hK hP 1 0 rfl rfl (by rw [h8]; exact IX.lit (by decide +kernel)) dX9_axis_119 ?_
    exact zEi (v := S 8) (ws' := [(m0, oB 9 [.ref m1, .ref m2, .ref m3, .ref m4, .int ps, .int rn, .ref m5, .int ty, .ref m6, .ref m7, .int la, .int mn, .int ma, .int sn, .int so, .int ca, .int cm, .int kd, .ref m8]), (m1, aI g 63 S)]) hx hb hlocks hr rfl hK hP hD hS [0, 1] rfl rfl (by unfold axR; rw [if_neg h0, if_neg h1, if_neg h2, if_neg h3, if_neg h4, if_neg h5, if_neg h6, if_neg h7, if_pos h8]) rfl dX9_axis_120
  by_cases h9 : w = 9
  · refine lv_tableIn (off := 107) (tgt := 108) hx hb dX9_axis_1 (by rw [h9]; decide +kernel) (by rw [h9]; decide +kernel) (by rw [h9]; rfl) (by decide) ?_
    refine lv_aload_n hx hb dX9_axis_108 rfl (lv_at hl 0 rfl) ?_
    refine va_get (D := g.1) (ci := 9) (v := .ref m1) (C := RX9) (T := TX9) (N := 19) hx hb hts iX9 hown hK hP 0 rfl rfl 0 (by decide) (hts (.fieldLink RX9 7 "StepAxisModel" "s" "[I") (List.mem_of_getElem? (i := 1) rfl)) (fun _ h9 => h9) rfl dX9_axis_109 ?_
    refine lv_bipush (v := 8) hx hb dX9_axis_112 (by decide +kernel) ?_
    refine lv_iload_n hx hb dX9_axis_114 rfl (lv_at hl 1 rfl) ?_
    refine lv_iadd hx hb dX9_axis_115 ?_
    refine lv_bipush (v := 8) hx hb dX9_axis_116 (by decide +kernel) ?_
    refine lv_isub hx hb dX9_axis_118 ?_
    refine zald (k := 9) hx hb hK hP 1 0 rfl rfl (by rw [h9]; exact IX.lit (by decide +kernel)) dX9_axis_119 ?_
    exact zEi (v := S 9) (ws' := [(m0, oB 9 [.ref m1, .ref m2, .ref m3, .ref m4, .int ps, .int rn, .ref m5, .int ty, .ref m6, .ref m7, .int la, .int mn, .int ma, .int sn, .int so, .int ca, .int cm, .int kd, .ref m8]), (m1, aI g 63 S)]) hx hb hlocks hr rfl hK hP hD hS [0, 1] rfl rfl (by unfold axR; rw [if_neg h0, if_neg h1, if_neg h2, if_neg h3, if_neg h4, if_neg h5, if_neg h6, if_neg h7, if_neg h8, if_pos h9]) rfl dX9_axis_120
  refine lv_tableOut (tgt := 121) hx hb dX9_axis_1 (by have := sw_out (x := w) (n := 10) (by decide) (by intro k hk; match k, hk with | 0, _ => exact h0 | 1, _ => exact h1 | 2, _ => exact h2 | 3, _ => exact h3 | 4, _ => exact h4 | 5, _ => exact h5 | 6, _ => exact h6 | 7, _ => exact h7 | 8, _ => exact h8 | 9, _ => exact h9); omega) (by decide) ?_
  refine lv_ldc hx hb hown (hts (.constant RX9 53 (-1000001)) (List.mem_of_getElem? (i := 2) rfl)) dX9_axis_121 ?_
  exact zEi (v := (-1000001)) (ws' := [(m0, oB 9 [.ref m1, .ref m2, .ref m3, .ref m4, .int ps, .int rn, .ref m5, .int ty, .ref m6, .ref m7, .int la, .int mn, .int ma, .int sn, .int so, .int ca, .int cm, .int kd, .ref m8]), (m1, aI g 63 S)]) hx hb hlocks hr rfl hK hP hD hS [0, 1] rfl rfl (by unfold axR; rw [if_neg h0, if_neg h1, if_neg h2, if_neg h3, if_neg h4, if_neg h5, if_neg h6, if_neg h7, if_neg h8, if_neg h9]) rfl dX9_axis_123
set_option maxHeartbeats 4000000 in
set_option maxRecDepth 100000 in
theorem r_count (l : Launch) (g : G3) (m0 m1 m2 m3 m4 m5 m6 m7 m8 : Nat) (ps rn ty la mn ma sn so ca cm kd : Int32) (S : Nat → Int32) (w : Int32) : MI l yX9_count wsX9_count (rk 1 22) g [.ref m0, .int w] [(m0, oB 9 [.ref m1, .ref m2, .ref m3, .ref m4, .int ps, .int rn, .ref m5, .int ty, .ref m6, .ref m7, .int la, .int mn, .int ma, .int sn, .int so, .int ca, .int cm, .int kd, .ref m8]), (m1, aI g 63 S)] (ctR S ps ty w) [(m0, oB 9 [.ref m1, .ref m2, .ref m3, .ref m4, .int ps, .int rn, .ref m5, .int ty, .ref m6, .ref m7, .int la, .int mn, .int ma, .int sn, .int so, .int ca, .int cm, .int kd, .ref m8]), (m1, aI g 63 S)] := by
  refine zWalk.met (Qc := fun A => zQi g (ctR S ps ty w) [(m0, oB 9 [.ref m1, .ref m2, .ref m3, .ref m4, .int ps, .int rn, .ref m5, .int ty, .ref m6, .ref m7, .int la, .int mn, .int ma, .int sn, .int so, .int ca, .int cm, .int kd, .ref m8]), (m1, aI g 63 S)] A) (cc := cX9_count) (maxL := 2) (ret := (some .int)) ?_ (by decide) rfl (Nat.le_of_ble_eq_true rfl)
  intro pg ev sx mi args below meth cd A H locs ls hx hb hr hml hown hts hlocks hA hE hK hP hD hS hl
  have iX9 : ∀ w ∈ u_ws RX9 TX9 19, w ∈ wsX9_count := (fun _ h => (List.mem_cons_of_mem _ (List.mem_append_right _ h)))
  have hl : lv_has ls 2 [(0, .ref m0), (1, .int w)] := hl
  refine lv_iload_n hx hb dX9_count_0 rfl (lv_at hl 1 rfl) ?_
  by_cases h0 : w = 0
  · refine lv_tableIn (off := 31) (tgt := 32) hx hb dX9_count_1 (by rw [h0]; decide +kernel) (by rw [h0]; decide +kernel) (by rw [h0]; rfl) (by decide) ?_
    refine lv_aload_n hx hb dX9_count_32 rfl (lv_at hl 0 rfl) ?_
    refine va_get (D := g.1) (ci := 9) (v := .ref m1) (C := RX9) (T := TX9) (N := 19) hx hb hts iX9 hown hK hP 0 rfl rfl 0 (by decide) (hts (.fieldLink RX9 7 "StepAxisModel" "s" "[I") (List.mem_of_getElem? (i := 1) rfl)) (fun _ h9 => h9) rfl dX9_count_33 ?_
    refine lv_bipush (v := 18) hx hb dX9_count_36 (by decide +kernel) ?_
    refine zald (k := 18) hx hb hK hP 1 0 rfl rfl (IX.lit (by decide +kernel)) dX9_count_38 ?_
    exact zEi (v := S 18) (ws' := [(m0, oB 9 [.ref m1, .ref m2, .ref m3, .ref m4, .int ps, .int rn, .ref m5, .int ty, .ref m6, .ref m7, .int la, .int mn, .int ma, .int sn, .int so, .int ca, .int cm, .int kd, .ref m8]), (m1, aI g 63 S)]) hx hb hlocks hr rfl hK hP hD hS [0, 1] rfl rfl (by unfold ctR; rw [if_pos h0]) rfl dX9_count_39
  by_cases h1 : w = 1
  · refine lv_tableIn (off := 39) (tgt := 40) hx hb dX9_count_1 (by rw [h1]; decide +kernel) (by rw [h1]; decide +kernel) (by rw [h1]; rfl) (by decide) ?_
    refine lv_aload_n hx hb dX9_count_40 rfl (lv_at hl 0 rfl) ?_
    refine va_get (D := g.1) (ci := 9) (v := .ref m1) (C := RX9) (T := TX9) (N := 19) hx hb hts iX9 hown hK hP 0 rfl rfl 0 (by decide) (hts (.fieldLink RX9 7 "StepAxisModel" "s" "[I") (List.mem_of_getElem? (i := 1) rfl)) (fun _ h9 => h9) rfl dX9_count_41 ?_
    refine lv_bipush (v := 37) hx hb dX9_count_44 (by decide +kernel) ?_
    refine zald (k := 37) hx hb hK hP 1 0 rfl rfl (IX.lit (by decide +kernel)) dX9_count_46 ?_
    exact zEi (v := S 37) (ws' := [(m0, oB 9 [.ref m1, .ref m2, .ref m3, .ref m4, .int ps, .int rn, .ref m5, .int ty, .ref m6, .ref m7, .int la, .int mn, .int ma, .int sn, .int so, .int ca, .int cm, .int kd, .ref m8]), (m1, aI g 63 S)]) hx hb hlocks hr rfl hK hP hD hS [0, 1] rfl rfl (by unfold ctR; rw [if_neg h0, if_pos h1]) rfl dX9_count_47
  by_cases h2 : w = 2
  · refine lv_tableIn (off := 47) (tgt := 48) hx hb dX9_count_1 (by rw [h2]; decide +kernel) (by rw [h2]; decide +kernel) (by rw [h2]; rfl) (by decide) ?_
    refine lv_aload_n hx hb dX9_count_48 rfl (lv_at hl 0 rfl) ?_
    refine va_get (D := g.1) (ci := 9) (v := .int ps) (C := RX9) (T := TX9) (N := 19) hx hb hts iX9 hown hK hP 0 rfl rfl 4 (by decide) (hts (.fieldLink RX9 38 "StepAxisModel" "pasts" "I") (List.mem_of_getElem? (i := 2) rfl)) (fun _ h9 => h9) rfl dX9_count_49 ?_
    exact zEi (v := ps) (ws' := [(m0, oB 9 [.ref m1, .ref m2, .ref m3, .ref m4, .int ps, .int rn, .ref m5, .int ty, .ref m6, .ref m7, .int la, .int mn, .int ma, .int sn, .int so, .int ca, .int cm, .int kd, .ref m8]), (m1, aI g 63 S)]) hx hb hlocks hr rfl hK hP hD hS [0, 1] rfl rfl (by unfold ctR; rw [if_neg h0, if_neg h1, if_pos h2]) rfl dX9_count_52
  by_cases h3 : w = 3
  · refine lv_tableIn (off := 52) (tgt := 53) hx hb dX9_count_1 (by rw [h3]; decide +kernel) (by rw [h3]; decide +kernel) (by rw [h3]; rfl) (by decide) ?_
    refine lv_aload_n hx hb dX9_count_53 rfl (lv_at hl 0 rfl) ?_
    refine va_get (D := g.1) (ci := 9) (v := .int ty) (C := RX9) (T := TX9) (N := 19) hx hb hts iX9 hown hK hP 0 rfl rfl 7 (by decide) (hts (.fieldLink RX9 117 "StepAxisModel" "typed" "I") (List.mem_of_getElem? (i := 3) rfl)) (fun _ h9 => h9) rfl dX9_count_54 ?_
    exact zEi (v := ty) (ws' := [(m0, oB 9 [.ref m1, .ref m2, .ref m3, .ref m4, .int ps, .int rn, .ref m5, .int ty, .ref m6, .ref m7, .int la, .int mn, .int ma, .int sn, .int so, .int ca, .int cm, .int kd, .ref m8]), (m1, aI g 63 S)]) hx hb hlocks hr rfl hK hP hD hS [0, 1] rfl rfl (by unfold ctR; rw [if_neg h0, if_neg h1, if_neg h2, if_pos h3]) rfl dX9_count_57
  refine lv_tableOut (tgt := 58) hx hb dX9_count_1 (by have := sw_out (x := w) (n := 4) (by decide) (by intro k hk; match k, hk with | 0, _ => exact h0 | 1, _ => exact h1 | 2, _ => exact h2 | 3, _ => exact h3); omega) (by decide) ?_
  refine lv_iload_n hx hb dX9_count_58 rfl (lv_at hl 1 rfl) ?_
  refine lv_bipush (v := 10) hx hb dX9_count_59 (by decide +kernel) ?_
  refine lv_bipush (v := 17) hx hb dX9_count_61 (by decide +kernel) ?_
  refine zSI (As := [.int w, .int 10, .int 17]) (rest := []) (wc := []) (wr := [(m0, oB 9 [.ref m1, .ref m2, .ref m3, .ref m4, .int ps, .int rn, .ref m5, .int ty, .ref m6, .ref m7, .int la, .int mn, .int ma, .int sn, .int so, .int ca, .int cm, .int kd, .ref m8]), (m1, aI g 63 S)]) (wc' := []) ⟨hx, hb, hml, hown, hts⟩ (r_in l g w 10 17) (va_cwS 3 hts gX9_count_X9_in rfl rfl rfl (by decide +kernel) ⟨Nat.le_of_ble_eq_true rfl, Nat.le_of_ble_eq_true rfl⟩) hE hK hP hD hS hA [] [0, 1] rfl rfl rfl rfl (by decide) rfl hl.1 rfl (lv_room (Nat.le_of_ble_eq_true rfl)) ⟨Nat.zero_le _, Nat.zero_le _⟩ dX9_count_63 (fun H locs hP hD hS => ?_)
  have hP : va_P g.1 vwCl [(m0, oB 9 [.ref m1, .ref m2, .ref m3, .ref m4, .int ps, .int rn, .ref m5, .int ty, .ref m6, .ref m7, .int la, .int mn, .int ma, .int sn, .int so, .int ca, .int cm, .int kd, .ref m8]), (m1, aI g 63 S)] H := hP
  have hD : va_D A [(m0, oB 9 [.ref m1, .ref m2, .ref m3, .ref m4, .int ps, .int rn, .ref m5, .int ty, .ref m6, .ref m7, .int la, .int mn, .int ma, .int sn, .int so, .int ca, .int cm, .int kd, .ref m8]), (m1, aI g 63 S)] := hD
  refine lv_if_eq (tgt := 81) hx hb dX9_count_66 (by decide) (fun c66 => ?_) (fun c66 => ?_)
  · have c66 := b01_f c66
    refine lv_ldc hx hb hown (hts (.constant RX9 53 (-1000001)) (List.mem_of_getElem? (i := 4) rfl)) dX9_count_81 ?_
    exact zEi (v := (-1000001)) (ws' := [(m0, oB 9 [.ref m1, .ref m2, .ref m3, .ref m4, .int ps, .int rn, .ref m5, .int ty, .ref m6, .ref m7, .int la, .int mn, .int ma, .int sn, .int so, .int ca, .int cm, .int kd, .ref m8]), (m1, aI g 63 S)]) hx hb hlocks hr rfl hK hP hD hS [0, 1] rfl rfl (by unfold ctR; rw [if_neg h0, if_neg h1, if_neg h2, if_neg h3, if_neg c66]) rfl dX9_count_83
  · have c66 := b01_t c66
    refine lv_aload_n hx hb dX9_count_69 rfl (lv_at hl 0 rfl) ?_
    refine va_get (D := g.1) (ci := 9) (v := .ref m1) (C := RX9) (T := TX9) (N := 19) hx hb hts iX9 hown hK hP 0 rfl rfl 0 (by decide) (hts (.fieldLink RX9 7 "StepAxisModel" "s" "[I") (List.mem_of_getElem? (i := 1) rfl)) (fun _ h9 => h9) rfl dX9_count_70 ?_
    refine lv_iload_n hx hb dX9_count_73 rfl (lv_at hl 1 rfl) ?_
    refine lv_bipush (v := 10) hx hb dX9_count_74 (by decide +kernel) ?_
    refine lv_isub hx hb dX9_count_76 ?_
    refine zald (k := (w - 10).toInt.toNat) hx hb hK hP 1 0 rfl rfl (IX.z (ct0 c66).1 (by have := (ct0 c66).2; omega)) dX9_count_77 ?_
    refine lv_goto (tgt := 83) hx hb dX9_count_78 (by decide) ?_
    exact zEi (v := S ((w - 10).toInt.toNat)) (ws' := [(m0, oB 9 [.ref m1, .ref m2, .ref m3, .ref m4, .int ps, .int rn, .ref m5, .int ty, .ref m6, .ref m7, .int la, .int mn, .int ma, .int sn, .int so, .int ca, .int cm, .int kd, .ref m8]), (m1, aI g 63 S)]) hx hb hlocks hr rfl hK hP hD hS [0, 1] rfl rfl (by unfold ctR; rw [if_neg h0, if_neg h1, if_neg h2, if_neg h3, if_pos c66]) rfl dX9_count_83
set_option maxHeartbeats 4000000 in
set_option maxRecDepth 100000 in
theorem r_undo (l : Launch) (g : G3) (m0 m1 m2 m3 m4 m5 m6 m7 m8 : Nat) (ps rn ty la mn ma sn so ca cm kd : Int32) (S pf : Nat → Int32) (hps : 0 ≤ ps.toInt ∧ ps.toInt ≤ 4) : MI l yX9_undo wsX9_undo (rk 0 0) g [.ref m0] [(m0, oB 9 [.ref m1, .ref m2, .ref m3, .ref m4, .int ps, .int rn, .ref m5, .int ty, .ref m6, .ref m7, .int la, .int mn, .int ma, .int sn, .int so, .int ca, .int cm, .int kd, .ref m8]), (m1, aI g 63 S), (m2, aI g 252 pf)] (if ps = 0 then -1000002 else ps - 1) [(m0, oB 9 [.ref m1, .ref m2, .ref m3, .ref m4, .int (if ps = 0 then ps else ps - 1), .int rn, .ref m5, .int ty, .ref m6, .ref m7, .int la, .int mn, .int ma, .int sn, .int so, .int ca, .int cm, .int kd, .ref m8]), (m1, aI g 63 (if ps = 0 then S else unS S pf ps)), (m2, aI g 252 pf)] := by
  refine zWalk.met (Qc := fun A => zQi g (if ps = 0 then -1000002 else ps - 1) [(m0, oB 9 [.ref m1, .ref m2, .ref m3, .ref m4, .int (if ps = 0 then ps else ps - 1), .int rn, .ref m5, .int ty, .ref m6, .ref m7, .int la, .int mn, .int ma, .int sn, .int so, .int ca, .int cm, .int kd, .ref m8]), (m1, aI g 63 (if ps = 0 then S else unS S pf ps)), (m2, aI g 252 pf)] A) (cc := cX9_undo) (maxL := 2) (ret := (some .int)) ?_ (by decide) rfl (Nat.le_of_ble_eq_true rfl)
  intro pg ev sx mi args below meth cd A H locs ls hx hb hr hml hown hts hlocks hA hE hK hP hD hS hl
  have iX9 : ∀ w ∈ u_ws RX9 TX9 19, w ∈ wsX9_undo := (fun _ h => (List.mem_cons_of_mem _ (List.mem_append_right _ h)))
  have hl : lv_has ls 2 [(0, .ref m0)] := hl
  refine lv_aload_n hx hb dX9_undo_0 rfl (lv_at hl 0 rfl) ?_
  refine va_get (D := g.1) (ci := 9) (v := .int ps) (C := RX9) (T := TX9) (N := 19) hx hb hts iX9 hown hK hP 0 rfl rfl 4 (by decide) (hts (.fieldLink RX9 38 "StepAxisModel" "pasts" "I") (List.mem_of_getElem? (i := 1) rfl)) (fun _ h9 => h9) rfl dX9_undo_1 ?_
  refine lv_if_ne (tgt := 10) hx hb dX9_undo_4 (by decide) (fun c4 => ?_) (fun c4 => ?_)
  · obtain ⟨q, hq⟩ : ∃ q : Nat, q = ps.toInt.toNat - 1 := ⟨_, rfl⟩
    have hp0 : ps.toInt ≠ 0 := fun h => c4 ((zeq _ _).mpr (h.trans j0.symm))
    have hq4 : q ≤ 3 := by omega
    have eq0 : ps - 1 = nI q := by rw [zof (x := ps) hps.1, nI_m1 (by omega), hq]
    refine lv_aload_n hx hb dX9_undo_10 rfl (lv_at hl 0 rfl) ?_
    refine lv_dup hx hb dX9_undo_11 rfl ?_
    refine va_get (D := g.1) (ci := 9) (v := .int ps) (C := RX9) (T := TX9) (N := 19) hx hb hts iX9 hown hK hP 0 rfl rfl 4 (by decide) (hts (.fieldLink RX9 38 "StepAxisModel" "pasts" "I") (List.mem_of_getElem? (i := 1) rfl)) (fun _ h9 => h9) rfl dX9_undo_12 ?_
    refine lv_iconst (v := 1) hx hb dX9_undo_15 (by decide +kernel) ?_
    refine lv_isub hx hb dX9_undo_16 ?_
    refine va_put (D := g.1) (ci := 9) (v := .int (ps - 1)) (ty := .int) (C := RX9) (T := TX9) (N := 19) hx hb hts iX9 tyX9 tyX9_ok nmX9 hown hK hP hD hS 0 rfl rfl 4 (by decide) (hts (.fieldLink RX9 38 "StepAxisModel" "pasts" "I") (List.mem_of_getElem? (i := 1) rfl)) (fun _ h9 => h9) rfl (by decide +kernel) rfl rfl (Nat.le_of_ble_eq_true rfl) dX9_undo_17 (fun H locs hP hD hS => ?_)
    have hP : va_P g.1 vwCl [(m0, oB 9 [.ref m1, .ref m2, .ref m3, .ref m4, .int (ps - 1), .int rn, .ref m5, .int ty, .ref m6, .ref m7, .int la, .int mn, .int ma, .int sn, .int so, .int ca, .int cm, .int kd, .ref m8]), (m1, aI g 63 S), (m2, aI g 252 pf)] H := hP
    have hD : va_D A [(m0, oB 9 [.ref m1, .ref m2, .ref m3, .ref m4, .int (ps - 1), .int rn, .ref m5, .int ty, .ref m6, .ref m7, .int la, .int mn, .int ma, .int sn, .int so, .int ca, .int cm, .int kd, .ref m8]), (m1, aI g 63 S), (m2, aI g 252 pf)] := hD
    refine lv_iconst (v := 0) hx hb dX9_undo_20 (by decide +kernel) ?_
    refine lv_istore_n (lv' := [(1, .int 0), (0, .ref m0)]) hx hb dX9_undo_21 rfl hl (by decide) rfl (fun ls hl => ?_)
    have eF : ps - 1 = nI q := eq0
    rw [eF] at hP hD
    have hP : va_P g.1 vwCl [(m0, oB 9 [.ref m1, .ref m2, .ref m3, .ref m4, .int (nI q), .int rn, .ref m5, .int ty, .ref m6, .ref m7, .int la, .int mn, .int ma, .int sn, .int so, .int ca, .int cm, .int kd, .ref m8]), (m1, aI g 63 S), (m2, aI g 252 pf)] H := hP
    have hD : va_D A [(m0, oB 9 [.ref m1, .ref m2, .ref m3, .ref m4, .int (nI q), .int rn, .ref m5, .int ty, .ref m6, .ref m7, .int la, .int mn, .int ma, .int sn, .int so, .int ca, .int cm, .int kd, .ref m8]), (m1, aI g 63 S), (m2, aI g 252 pf)] := hD
    have hP := zP_arr (f' := fillT (rwF pf q) S 0) 1 rfl (fun k hk => by rw [fillT_0]) hP
    have hD := hD.set (p := 1) (e := aI g 63 (fillT (rwF pf q) S 0)) rfl
    have hP : va_P g.1 vwCl [(m0, oB 9 [.ref m1, .ref m2, .ref m3, .ref m4, .int (nI q), .int rn, .ref m5, .int ty, .ref m6, .ref m7, .int la, .int mn, .int ma, .int sn, .int so, .int ca, .int cm, .int kd, .ref m8]), (m1, aI g 63 (fillT (rwF pf q) S 0)), (m2, aI g 252 pf)] H := hP
    have hD : va_D A [(m0, oB 9 [.ref m1, .ref m2, .ref m3, .ref m4, .int (nI q), .int rn, .ref m5, .int ty, .ref m6, .ref m7, .int la, .int mn, .int ma, .int sn, .int so, .int ca, .int cm, .int kd, .ref m8]), (m1, aI g 63 (fillT (rwF pf q) S 0)), (m2, aI g 252 pf)] := hD
    have lp22 : ∀ (fu : Nat) (k : Nat) (i : Int32), (k ≤ 63) → (i = nI k) → (63 - k) < fu → ∀ (H : Heap) (locs : List Loc), va_P g.1 vwCl [(m0, oB 9 [.ref m1, .ref m2, .ref m3, .ref m4, .int (nI q), .int rn, .ref m5, .int ty, .ref m6, .ref m7, .int la, .int mn, .int ma, .int sn, .int so, .int ca, .int cm, .int kd, .ref m8]), (m1, aI g 63 (fillT (rwF pf q) S k)), (m2, aI g 252 pf)] H → va_D A [(m0, oB 9 [.ref m1, .ref m2, .ref m3, .ref m4, .int (nI q), .int rn, .ref m5, .int ty, .ref m6, .ref m7, .int la, .int mn, .int ma, .int sn, .int so, .int ca, .int cm, .int kd, .ref m8]), (m1, aI g 63 (fillT (rwF pf q) S k)), (m2, aI g 252 pf)] → va_S A sx.heap H locs → ∀ (ls : Array Slot), lv_has ls 2 [(1, .int i), (0, .ref m0)] → W pg l ev (rk 0 0) sx mi args below meth cd H locs 0 0 (MQ below (zQi g (if ps = 0 then -1000002 else ps - 1) [(m0, oB 9 [.ref m1, .ref m2, .ref m3, .ref m4, .int (if ps = 0 then ps else ps - 1), .int rn, .ref m5, .int ty, .ref m6, .ref m7, .int la, .int mn, .int ma, .int sn, .int so, .int ca, .int cm, .int kd, .ref m8]), (m1, aI g 63 (if ps = 0 then S else unS S pf ps)), (m2, aI g 252 pf)] A) args sx 0 0 A) (F0 mi 22 ls []) := by
      intro fu
      induction fu with
      | zero =>
        intro k i hk ei hmu
        exact absurd hmu (Nat.not_lt_zero _)
      | succ fu ih =>
        intro k i hk ei hmu H locs hP hD hS ls hl
        refine lv_iload_n hx hb dX9_undo_22 rfl (lv_at hl 0 rfl) ?_
        refine lv_bipush (v := 63) hx hb dX9_undo_23 (by decide +kernel) ?_
        refine lv_icmp_ge (tgt := 54) hx hb dX9_undo_25 (by decide) (fun c25 => ?_) (fun c25 => ?_)
        · have hkn : k = 63 := Nat.le_antisymm hk (nle_of (by decide) (by omega) (by rw [ei] at c25; exact c25))
          rw [hkn] at hP hD
          refine lv_aload_n hx hb dX9_undo_54 rfl (lv_at hl 1 rfl) ?_
          refine va_get (D := g.1) (ci := 9) (v := .int (nI q)) (C := RX9) (T := TX9) (N := 19) hx hb hts iX9 hown hK hP 0 rfl rfl 4 (by decide) (hts (.fieldLink RX9 38 "StepAxisModel" "pasts" "I") (List.mem_of_getElem? (i := 1) rfl)) (fun _ h9 => h9) rfl dX9_undo_55 ?_
          exact zEi (v := nI q) (ws' := [(m0, oB 9 [.ref m1, .ref m2, .ref m3, .ref m4, .int (nI q), .int rn, .ref m5, .int ty, .ref m6, .ref m7, .int la, .int mn, .int ma, .int sn, .int so, .int ca, .int cm, .int kd, .ref m8]), (m1, aI g 63 (fillT (rwF pf q) S 63)), (m2, aI g 252 pf)]) hx hb hlocks hr rfl hK hP hD hS [0, 1, 2] rfl rfl ((if_neg c4).trans eq0).symm (by simp only [if_neg c4]; rw [eq0]; unfold unS; rw [← hq]) dX9_undo_58
        · have hlt : k < 63 := nlt_of (by decide) (by rw [ei] at c25; exact c25)
          refine lv_aload_n hx hb dX9_undo_28 rfl (lv_at hl 1 rfl) ?_
          refine va_get (D := g.1) (ci := 9) (v := .ref m1) (C := RX9) (T := TX9) (N := 19) hx hb hts iX9 hown hK hP 0 rfl rfl 0 (by decide) (hts (.fieldLink RX9 7 "StepAxisModel" "s" "[I") (List.mem_of_getElem? (i := 3) rfl)) (fun _ h9 => h9) rfl dX9_undo_29 ?_
          refine lv_iload_n hx hb dX9_undo_32 rfl (lv_at hl 0 rfl) ?_
          refine lv_aload_n hx hb dX9_undo_33 rfl (lv_at hl 1 rfl) ?_
          refine va_get (D := g.1) (ci := 9) (v := .ref m2) (C := RX9) (T := TX9) (N := 19) hx hb hts iX9 hown hK hP 0 rfl rfl 1 (by decide) (hts (.fieldLink RX9 13 "StepAxisModel" "past" "[I") (List.mem_of_getElem? (i := 4) rfl)) (fun _ h9 => h9) rfl dX9_undo_34 ?_
          refine lv_bipush (v := 63) hx hb dX9_undo_37 (by decide +kernel) ?_
          refine lv_aload_n hx hb dX9_undo_39 rfl (lv_at hl 1 rfl) ?_
          refine va_get (D := g.1) (ci := 9) (v := .int (nI q)) (C := RX9) (T := TX9) (N := 19) hx hb hts iX9 hown hK hP 0 rfl rfl 4 (by decide) (hts (.fieldLink RX9 38 "StepAxisModel" "pasts" "I") (List.mem_of_getElem? (i := 1) rfl)) (fun _ h9 => h9) rfl dX9_undo_40 ?_
          refine lv_imul hx hb dX9_undo_43 ?_
          refine lv_iload_n hx hb dX9_undo_44 rfl (lv_at hl 0 rfl) ?_
          refine lv_iadd hx hb dX9_undo_45 ?_
          refine zald (k := (63 * q + k)) hx hb hK hP 2 0 rfl rfl (IX.of (by rw [ei, show (63 : Int32) = nI 63 from rfl, pk_mul, nI_add]) (by omega) (by decide)) dX9_undo_46 ?_
          refine zTop (y := rwF pf q k) rfl ?_
          refine zast (k := k) hx hb hK hP hD hS 1 0 rfl rfl (IX.of ei (by omega) (by decide)) dX9_undo_47 (fun H locs hP hD hS => ?_)
          have hP : va_P g.1 vwCl [(m0, oB 9 [.ref m1, .ref m2, .ref m3, .ref m4, .int (nI q), .int rn, .ref m5, .int ty, .ref m6, .ref m7, .int la, .int mn, .int ma, .int sn, .int so, .int ca, .int cm, .int kd, .ref m8]), (m1, aI g 63 (upd (fillT (rwF pf q) S k) k (rwF pf q k))), (m2, aI g 252 pf)] H := hP
          have hD : va_D A [(m0, oB 9 [.ref m1, .ref m2, .ref m3, .ref m4, .int (nI q), .int rn, .ref m5, .int ty, .ref m6, .ref m7, .int la, .int mn, .int ma, .int sn, .int so, .int ca, .int cm, .int kd, .ref m8]), (m1, aI g 63 (upd (fillT (rwF pf q) S k) k (rwF pf q k))), (m2, aI g 252 pf)] := hD
          rw [show upd (fillT (rwF pf q) S k) k (rwF pf q k) = fillT (rwF pf q) S (k + 1) from fillT_upd rfl] at hP hD
          refine lv_iinc (v := i + 1) (lv' := [(1, .int (i + 1)), (0, .ref m0)]) hx hb dX9_undo_48 hl (k := 0) rfl (by rfl) (by decide) rfl (fun ls hl => ?_)
          refine lv_goto (tgt := 22) hx hb dX9_undo_51 (by decide) ?_
          exact ih (k + 1) (i + 1) hlt (by rw [ei]; exact nI_1 k) (by omega) _ _ (zP_sub hP [0, 1, 2] rfl) (hD.sub [0, 1, 2] rfl rfl) hS ls (lv_sub hl [0, 1] rfl)
    exact lp22 ((63 - 0) + 1) 0 0 (by decide) rfl (Nat.lt_succ_self _) _ _ (zP_sub hP [0, 1, 2] rfl) (hD.sub [0, 1, 2] rfl rfl) hS ls (lv_sub hl [0, 1] rfl)
  · refine lv_ldc hx hb hown (hts (.constant RX9 58 (-1000002)) (List.mem_of_getElem? (i := 2) rfl)) dX9_undo_7 ?_
    exact zEi (v := (-1000002)) (ws' := [(m0, oB 9 [.ref m1, .ref m2, .ref m3, .ref m4, .int ps, .int rn, .ref m5, .int ty, .ref m6, .ref m7, .int la, .int mn, .int ma, .int sn, .int so, .int ca, .int cm, .int kd, .ref m8]), (m1, aI g 63 S), (m2, aI g 252 pf)]) hx hb hlocks hr rfl hK hP hD hS [0, 1, 2] rfl rfl (if_pos c4).symm (by simp only [if_pos c4]) dX9_undo_9
set_option maxHeartbeats 4000000 in
set_option maxRecDepth 100000 in
theorem r_tries (l : Launch) (g : G3) (m0 m1 m2 m3 m4 m5 m6 m7 m8 : Nat) (ps rn ty la mn ma sn so ca cm kd : Int32) (S S1 tf fi fq : Nat → Int32) (tg mo : Int32) (e1 : S1 = upd S 2 mo) (hok1 : setOk S1) (hnl : 0 ≤ (S 18).toInt ∧ (S 18).toInt ≤ 6) (hto : okP (S 10)) (hpl : okP tg) : MI l yX9_tries wsX9_tries (rk 4 95) g [.ref m0, .int tg, .int mo] [(m0, oB 9 [.ref m1, .ref m2, .ref m3, .ref m4, .int ps, .int rn, .ref m5, .int ty, .ref m6, .ref m7, .int la, .int mn, .int ma, .int sn, .int so, .int ca, .int cm, .int kd, .ref m8]), (m1, aI g 63 S), (m4, aI g 63 tf), (m6, aI g 201 fi), (m7, aI g 201 fq)] (goM S1 tg) [(m0, oB 9 [.ref m1, .ref m2, .ref m3, .ref m4, .int ps, .int rn, .ref m5, .int ty, .ref m6, .ref m7, .int (nI (topS S1)), .int (goM S1 tg), .int (gaE S1 tg), .int (goP S1 tg), .int so, .int ca, .int cm, .int kd, .ref m8]), (m1, aI g 63 S), (m4, aI g 63 (fillT S tf 63)), (m6, aI g 201 (fillT (ivS S1) fi (topS S1 + 1))), (m7, aI g 201 (fillT (rsS S1) fq (topS S1 + 1)))] := by
  refine zWalk.met (Qc := fun A => zQi g (goM S1 tg) [(m0, oB 9 [.ref m1, .ref m2, .ref m3, .ref m4, .int ps, .int rn, .ref m5, .int ty, .ref m6, .ref m7, .int (nI (topS S1)), .int (goM S1 tg), .int (gaE S1 tg), .int (goP S1 tg), .int so, .int ca, .int cm, .int kd, .ref m8]), (m1, aI g 63 S), (m4, aI g 63 (fillT S tf 63)), (m6, aI g 201 (fillT (ivS S1) fi (topS S1 + 1))), (m7, aI g 201 (fillT (rsS S1) fq (topS S1 + 1)))] A) (cc := cX9_tries) (maxL := 4) (ret := (some .int)) ?_ (by decide) rfl (Nat.le_of_ble_eq_true rfl)
  intro pg ev sx mi args below meth cd A H locs ls hx hb hr hml hown hts hlocks hA hE hK hP hD hS hl
  have iX9 : ∀ w ∈ u_ws RX9 TX9 19, w ∈ wsX9_tries := (fun _ h => (List.mem_cons_of_mem _ (List.mem_append_right _ h)))
  have hl : lv_has ls 4 [(0, .ref m0), (1, .int tg), (2, .int mo)] := hl
  have hnl1 : 0 ≤ (S1 18).toInt ∧ (S1 18).toInt ≤ 6 := by rw [e1]; exact hnl
  have hto1 : okP (S1 10) := by rw [e1]; exact hto
  have hDD : gD S1 tg ≤ 8000 := dist_le hto1 hpl
  refine lv_aload_n hx hb dX9_tries_0 rfl (lv_at hl 0 rfl) ?_
  refine va_get (D := g.1) (ci := 9) (v := .ref m1) (C := RX9) (T := TX9) (N := 19) hx hb hts iX9 hown hK hP 0 rfl rfl 0 (by decide) (hts (.fieldLink RX9 7 "StepAxisModel" "s" "[I") (List.mem_of_getElem? (i := 1) rfl)) (fun _ h9 => h9) rfl dX9_tries_1 ?_
  refine lv_aload_n hx hb dX9_tries_4 rfl (lv_at hl 0 rfl) ?_
  refine va_get (D := g.1) (ci := 9) (v := .ref m4) (C := RX9) (T := TX9) (N := 19) hx hb hts iX9 hown hK hP 0 rfl rfl 3 (by decide) (hts (.fieldLink RX9 19 "StepAxisModel" "tried" "[I") (List.mem_of_getElem? (i := 2) rfl)) (fun _ h9 => h9) rfl dX9_tries_5 ?_
  refine zSV (As := [.ref m1, .ref m4]) (rest := []) (wc := [(m1, aI g 63 S), (m4, aI g 63 tf)]) (wr := [(m0, oB 9 [.ref m1, .ref m2, .ref m3, .ref m4, .int ps, .int rn, .ref m5, .int ty, .ref m6, .ref m7, .int la, .int mn, .int ma, .int sn, .int so, .int ca, .int cm, .int kd, .ref m8]), (m6, aI g 201 fi), (m7, aI g 201 fq)]) (wc' := [(m1, aI g 63 S), (m4, aI g 63 (fillT S tf 63))]) ⟨hx, hb, hml, hown, hts⟩ (r_copies l g m1 m4 S tf) (va_cwS 2 hts gX9_tries_X9_copies rfl rfl rfl (by decide +kernel) ⟨Nat.le_of_ble_eq_true rfl, Nat.le_of_ble_eq_true rfl⟩) hE hK hP hD hS hA [1, 2] [0, 3, 4] rfl rfl rfl rfl (by decide) rfl hl.1 rfl (lv_room (Nat.le_of_ble_eq_true rfl)) ⟨Nat.zero_le _, Nat.zero_le _⟩ dX9_tries_8 (fun H locs hP hD hS => ?_)
  have hP : va_P g.1 vwCl [(m0, oB 9 [.ref m1, .ref m2, .ref m3, .ref m4, .int ps, .int rn, .ref m5, .int ty, .ref m6, .ref m7, .int la, .int mn, .int ma, .int sn, .int so, .int ca, .int cm, .int kd, .ref m8]), (m6, aI g 201 fi), (m7, aI g 201 fq), (m1, aI g 63 S), (m4, aI g 63 (fillT S tf 63))] H := hP
  have hD : va_D A [(m0, oB 9 [.ref m1, .ref m2, .ref m3, .ref m4, .int ps, .int rn, .ref m5, .int ty, .ref m6, .ref m7, .int la, .int mn, .int ma, .int sn, .int so, .int ca, .int cm, .int kd, .ref m8]), (m6, aI g 201 fi), (m7, aI g 201 fq), (m1, aI g 63 S), (m4, aI g 63 (fillT S tf 63))] := hD
  refine lv_aload_n hx hb dX9_tries_11 rfl (lv_at hl 0 rfl) ?_
  refine va_get (D := g.1) (ci := 9) (v := .ref m1) (C := RX9) (T := TX9) (N := 19) hx hb hts iX9 hown hK hP 0 rfl rfl 0 (by decide) (hts (.fieldLink RX9 7 "StepAxisModel" "s" "[I") (List.mem_of_getElem? (i := 1) rfl)) (fun _ h9 => h9) rfl dX9_tries_12 ?_
  refine lv_iconst (v := 2) hx hb dX9_tries_15 (by decide +kernel) ?_
  refine lv_iload_n hx hb dX9_tries_16 rfl (lv_at hl 2 rfl) ?_
  refine zast (k := 2) hx hb hK hP hD hS 3 0 rfl rfl (IX.lit (by decide +kernel)) dX9_tries_17 (fun H locs hP hD hS => ?_)
  have hP : va_P g.1 vwCl [(m0, oB 9 [.ref m1, .ref m2, .ref m3, .ref m4, .int ps, .int rn, .ref m5, .int ty, .ref m6, .ref m7, .int la, .int mn, .int ma, .int sn, .int so, .int ca, .int cm, .int kd, .ref m8]), (m6, aI g 201 fi), (m7, aI g 201 fq), (m1, aI g 63 (upd S 2 mo)), (m4, aI g 63 (fillT S tf 63))] H := hP
  have hD : va_D A [(m0, oB 9 [.ref m1, .ref m2, .ref m3, .ref m4, .int ps, .int rn, .ref m5, .int ty, .ref m6, .ref m7, .int la, .int mn, .int ma, .int sn, .int so, .int ca, .int cm, .int kd, .ref m8]), (m6, aI g 201 fi), (m7, aI g 201 fq), (m1, aI g 63 (upd S 2 mo)), (m4, aI g 63 (fillT S tf 63))] := hD
  rw [show upd S 2 mo = S1 from e1.symm] at hP hD
  refine lv_aload_n hx hb dX9_tries_18 rfl (lv_at hl 0 rfl) ?_
  refine zVV (As := []) (rest := []) (wc := [(m0, oB 9 [.ref m1, .ref m2, .ref m3, .ref m4, .int ps, .int rn, .ref m5, .int ty, .ref m6, .ref m7, .int la, .int mn, .int ma, .int sn, .int so, .int ca, .int cm, .int kd, .ref m8]), (m1, aI g 63 S1), (m6, aI g 201 fi), (m7, aI g 201 fq)]) (wr := [(m4, aI g 63 (fillT S tf 63))]) (wc' := [(m0, oB 9 [.ref m1, .ref m2, .ref m3, .ref m4, .int ps, .int rn, .ref m5, .int ty, .ref m6, .ref m7, .int (nI (topS S1)), .int mn, .int ma, .int sn, .int so, .int ca, .int cm, .int kd, .ref m8]), (m1, aI g 63 S1), (m6, aI g 201 (fillT (ivS S1) fi (topS S1 + 1))), (m7, aI g 201 (fillT (rsS S1) fq (topS S1 + 1)))]) ⟨hx, hb, hml, hown, hts⟩ (r_lays l g m0 m1 m2 m3 m4 m5 m6 m7 m8 ps rn ty la mn ma sn so ca cm kd S1 fi fq hok1) (cwV 0 hts gX9_tries_X9_lays rfl rfl rfl (by decide +kernel) ⟨Nat.le_of_ble_eq_true rfl, Nat.le_of_ble_eq_true rfl⟩) hE hK hP hD hS hA 0 9 rfl rfl rfl [0, 3, 1, 2] [4] rfl rfl rfl rfl (by decide) rfl hl.1 rfl (lv_room (Nat.le_of_ble_eq_true rfl)) ⟨Nat.zero_le _, Nat.zero_le _⟩ dX9_tries_19 (fun H locs hP hD hS => ?_)
  have hP : va_P g.1 vwCl [(m4, aI g 63 (fillT S tf 63)), (m0, oB 9 [.ref m1, .ref m2, .ref m3, .ref m4, .int ps, .int rn, .ref m5, .int ty, .ref m6, .ref m7, .int (nI (topS S1)), .int mn, .int ma, .int sn, .int so, .int ca, .int cm, .int kd, .ref m8]), (m1, aI g 63 S1), (m6, aI g 201 (fillT (ivS S1) fi (topS S1 + 1))), (m7, aI g 201 (fillT (rsS S1) fq (topS S1 + 1)))] H := hP
  have hD : va_D A [(m4, aI g 63 (fillT S tf 63)), (m0, oB 9 [.ref m1, .ref m2, .ref m3, .ref m4, .int ps, .int rn, .ref m5, .int ty, .ref m6, .ref m7, .int (nI (topS S1)), .int mn, .int ma, .int sn, .int so, .int ca, .int cm, .int kd, .ref m8]), (m1, aI g 63 S1), (m6, aI g 201 (fillT (ivS S1) fi (topS S1 + 1))), (m7, aI g 201 (fillT (rsS S1) fq (topS S1 + 1)))] := hD
  refine lv_aload_n hx hb dX9_tries_22 rfl (lv_at hl 0 rfl) ?_
  refine lv_iload_n hx hb dX9_tries_23 rfl (lv_at hl 1 rfl) ?_
  refine zVI (As := [.int tg]) (rest := []) (wc := [(m0, oB 9 [.ref m1, .ref m2, .ref m3, .ref m4, .int ps, .int rn, .ref m5, .int ty, .ref m6, .ref m7, .int (nI (topS S1)), .int mn, .int ma, .int sn, .int so, .int ca, .int cm, .int kd, .ref m8]), (m1, aI g 63 S1), (m6, aI g 201 (fillT (ivS S1) fi (topS S1 + 1)))]) (wr := [(m4, aI g 63 (fillT S tf 63)), (m7, aI g 201 (fillT (rsS S1) fq (topS S1 + 1)))]) (wc' := [(m0, oB 9 [.ref m1, .ref m2, .ref m3, .ref m4, .int ps, .int rn, .ref m5, .int ty, .ref m6, .ref m7, .int (nI (topS S1)), .int (gmis S1 (topS S1) (dist (S1 10) tg) (dirT (S1 10) tg) (dist (S1 10) tg)), .int (gat S1 (topS S1) (dist (S1 10) tg) (dirT (S1 10) tg) (dist (S1 10) tg)), .int (gsp S1 (topS S1) (dist (S1 10) tg) (dist (S1 10) tg)), .int so, .int ca, .int cm, .int kd, .ref m8]), (m1, aI g 63 (putT S1 (gst S1 (topS S1) (dist (S1 10) tg) (dirT (S1 10) tg) (dist (S1 10) tg)))), (m6, aI g 201 (fillT (ivS S1) fi (topS S1 + 1)))]) ⟨hx, hb, hml, hown, hts⟩ (r_goes l g m0 m1 m2 m3 m4 m5 m6 m7 m8 ps rn ty mn ma sn so ca cm kd S1 fi tg hok1 hnl1 hto1 hpl) (cwV 1 hts gX9_tries_X9_goes rfl rfl rfl (by decide +kernel) ⟨Nat.le_of_ble_eq_true rfl, Nat.le_of_ble_eq_true rfl⟩) hE hK hP hD hS hA 1 9 rfl rfl rfl [1, 2, 3] [0, 4] rfl rfl rfl rfl (by decide) rfl hl.1 rfl (lv_room (Nat.le_of_ble_eq_true rfl)) ⟨Nat.zero_le _, Nat.zero_le _⟩ dX9_tries_24 (fun H locs hP hD hS => ?_)
  have hP : va_P g.1 vwCl [(m4, aI g 63 (fillT S tf 63)), (m7, aI g 201 (fillT (rsS S1) fq (topS S1 + 1))), (m0, oB 9 [.ref m1, .ref m2, .ref m3, .ref m4, .int ps, .int rn, .ref m5, .int ty, .ref m6, .ref m7, .int (nI (topS S1)), .int (gmis S1 (topS S1) (dist (S1 10) tg) (dirT (S1 10) tg) (dist (S1 10) tg)), .int (gat S1 (topS S1) (dist (S1 10) tg) (dirT (S1 10) tg) (dist (S1 10) tg)), .int (gsp S1 (topS S1) (dist (S1 10) tg) (dist (S1 10) tg)), .int so, .int ca, .int cm, .int kd, .ref m8]), (m1, aI g 63 (putT S1 (gst S1 (topS S1) (dist (S1 10) tg) (dirT (S1 10) tg) (dist (S1 10) tg)))), (m6, aI g 201 (fillT (ivS S1) fi (topS S1 + 1)))] H := hP
  have hD : va_D A [(m4, aI g 63 (fillT S tf 63)), (m7, aI g 201 (fillT (rsS S1) fq (topS S1 + 1))), (m0, oB 9 [.ref m1, .ref m2, .ref m3, .ref m4, .int ps, .int rn, .ref m5, .int ty, .ref m6, .ref m7, .int (nI (topS S1)), .int (gmis S1 (topS S1) (dist (S1 10) tg) (dirT (S1 10) tg) (dist (S1 10) tg)), .int (gat S1 (topS S1) (dist (S1 10) tg) (dirT (S1 10) tg) (dist (S1 10) tg)), .int (gsp S1 (topS S1) (dist (S1 10) tg) (dist (S1 10) tg)), .int so, .int ca, .int cm, .int kd, .ref m8]), (m1, aI g 63 (putT S1 (gst S1 (topS S1) (dist (S1 10) tg) (dirT (S1 10) tg) (dist (S1 10) tg)))), (m6, aI g 201 (fillT (ivS S1) fi (topS S1 + 1)))] := hD
  have hP : va_P g.1 vwCl [(m4, aI g 63 (fillT S tf 63)), (m7, aI g 201 (fillT (rsS S1) fq (topS S1 + 1))), (m0, oB 9 [.ref m1, .ref m2, .ref m3, .ref m4, .int ps, .int rn, .ref m5, .int ty, .ref m6, .ref m7, .int (nI (topS S1)), .int (goM S1 tg), .int (gaE S1 tg), .int (goP S1 tg), .int so, .int ca, .int cm, .int kd, .ref m8]), (m1, aI g 63 (putT S1 (goX S1 tg))), (m6, aI g 201 (fillT (ivS S1) fi (topS S1 + 1)))] H := hP
  have hD : va_D A [(m4, aI g 63 (fillT S tf 63)), (m7, aI g 201 (fillT (rsS S1) fq (topS S1 + 1))), (m0, oB 9 [.ref m1, .ref m2, .ref m3, .ref m4, .int ps, .int rn, .ref m5, .int ty, .ref m6, .ref m7, .int (nI (topS S1)), .int (goM S1 tg), .int (gaE S1 tg), .int (goP S1 tg), .int so, .int ca, .int cm, .int kd, .ref m8]), (m1, aI g 63 (putT S1 (goX S1 tg))), (m6, aI g 201 (fillT (ivS S1) fi (topS S1 + 1)))] := hD
  refine zTop (y := nI (gD S1 tg)) rfl ?_
  refine lv_istore_n (lv' := [(3, .int (nI (gD S1 tg))), (0, .ref m0), (1, .int tg), (2, .int mo)]) hx hb dX9_tries_27 rfl hl (by decide) rfl (fun ls hl => ?_)
  refine lv_aload_n hx hb dX9_tries_28 rfl (lv_at hl 1 rfl) ?_
  refine va_get (D := g.1) (ci := 9) (v := .ref m4) (C := RX9) (T := TX9) (N := 19) hx hb hts iX9 hown hK hP 2 rfl rfl 3 (by decide) (hts (.fieldLink RX9 19 "StepAxisModel" "tried" "[I") (List.mem_of_getElem? (i := 2) rfl)) (fun _ h9 => h9) rfl dX9_tries_29 ?_
  refine lv_aload_n hx hb dX9_tries_32 rfl (lv_at hl 1 rfl) ?_
  refine va_get (D := g.1) (ci := 9) (v := .ref m1) (C := RX9) (T := TX9) (N := 19) hx hb hts iX9 hown hK hP 2 rfl rfl 0 (by decide) (hts (.fieldLink RX9 7 "StepAxisModel" "s" "[I") (List.mem_of_getElem? (i := 1) rfl)) (fun _ h9 => h9) rfl dX9_tries_33 ?_
  refine zSV (As := [.ref m4, .ref m1]) (rest := []) (wc := [(m4, aI g 63 (fillT S tf 63)), (m1, aI g 63 (putT S1 (goX S1 tg)))]) (wr := [(m7, aI g 201 (fillT (rsS S1) fq (topS S1 + 1))), (m0, oB 9 [.ref m1, .ref m2, .ref m3, .ref m4, .int ps, .int rn, .ref m5, .int ty, .ref m6, .ref m7, .int (nI (topS S1)), .int (goM S1 tg), .int (gaE S1 tg), .int (goP S1 tg), .int so, .int ca, .int cm, .int kd, .ref m8]), (m6, aI g 201 (fillT (ivS S1) fi (topS S1 + 1)))]) (wc' := [(m4, aI g 63 (fillT S tf 63)), (m1, aI g 63 (fillT (fillT S tf 63) (putT S1 (goX S1 tg)) 63))]) ⟨hx, hb, hml, hown, hts⟩ (r_copies l g m4 m1 (fillT S tf 63) (putT S1 (goX S1 tg))) (va_cwS 2 hts gX9_tries_X9_copies rfl rfl rfl (by decide +kernel) ⟨Nat.le_of_ble_eq_true rfl, Nat.le_of_ble_eq_true rfl⟩) hE hK hP hD hS hA [0, 3] [1, 2, 4] rfl rfl rfl rfl (by decide) rfl hl.1 rfl (lv_room (Nat.le_of_ble_eq_true rfl)) ⟨Nat.zero_le _, Nat.zero_le _⟩ dX9_tries_36 (fun H locs hP hD hS => ?_)
  have hP : va_P g.1 vwCl [(m7, aI g 201 (fillT (rsS S1) fq (topS S1 + 1))), (m0, oB 9 [.ref m1, .ref m2, .ref m3, .ref m4, .int ps, .int rn, .ref m5, .int ty, .ref m6, .ref m7, .int (nI (topS S1)), .int (goM S1 tg), .int (gaE S1 tg), .int (goP S1 tg), .int so, .int ca, .int cm, .int kd, .ref m8]), (m6, aI g 201 (fillT (ivS S1) fi (topS S1 + 1))), (m4, aI g 63 (fillT S tf 63)), (m1, aI g 63 (fillT (fillT S tf 63) (putT S1 (goX S1 tg)) 63))] H := hP
  have hD : va_D A [(m7, aI g 201 (fillT (rsS S1) fq (topS S1 + 1))), (m0, oB 9 [.ref m1, .ref m2, .ref m3, .ref m4, .int ps, .int rn, .ref m5, .int ty, .ref m6, .ref m7, .int (nI (topS S1)), .int (goM S1 tg), .int (gaE S1 tg), .int (goP S1 tg), .int so, .int ca, .int cm, .int kd, .ref m8]), (m6, aI g 201 (fillT (ivS S1) fi (topS S1 + 1))), (m4, aI g 63 (fillT S tf 63)), (m1, aI g 63 (fillT (fillT S tf 63) (putT S1 (goX S1 tg)) 63))] := hD
  have hP := zP_arr (f' := S) 4 rfl (fun k hk => by rw [fillT_in hk, fillT_in hk]) hP
  have hD := hD.set (p := 4) (e := aI g 63 S) rfl
  have hP : va_P g.1 vwCl [(m7, aI g 201 (fillT (rsS S1) fq (topS S1 + 1))), (m0, oB 9 [.ref m1, .ref m2, .ref m3, .ref m4, .int ps, .int rn, .ref m5, .int ty, .ref m6, .ref m7, .int (nI (topS S1)), .int (goM S1 tg), .int (gaE S1 tg), .int (goP S1 tg), .int so, .int ca, .int cm, .int kd, .ref m8]), (m6, aI g 201 (fillT (ivS S1) fi (topS S1 + 1))), (m4, aI g 63 (fillT S tf 63)), (m1, aI g 63 S)] H := hP
  have hD : va_D A [(m7, aI g 201 (fillT (rsS S1) fq (topS S1 + 1))), (m0, oB 9 [.ref m1, .ref m2, .ref m3, .ref m4, .int ps, .int rn, .ref m5, .int ty, .ref m6, .ref m7, .int (nI (topS S1)), .int (goM S1 tg), .int (gaE S1 tg), .int (goP S1 tg), .int so, .int ca, .int cm, .int kd, .ref m8]), (m6, aI g 201 (fillT (ivS S1) fi (topS S1 + 1))), (m4, aI g 63 (fillT S tf 63)), (m1, aI g 63 S)] := hD
  refine lv_iload_n hx hb dX9_tries_39 rfl (lv_at hl 0 rfl) ?_
  refine lv_if_ne (tgt := 47) hx hb dX9_tries_40 (by decide) (fun c40 => ?_) (fun c40 => ?_)
  · refine lv_aload_n hx hb dX9_tries_47 rfl (lv_at hl 1 rfl) ?_
    refine va_get (D := g.1) (ci := 9) (v := .int (goM S1 tg)) (C := RX9) (T := TX9) (N := 19) hx hb hts iX9 hown hK hP 1 rfl rfl 11 (by decide) (hts (.fieldLink RX9 80 "StepAxisModel" "missedNow" "I") (List.mem_of_getElem? (i := 3) rfl)) (fun _ h9 => h9) rfl dX9_tries_48 ?_
    exact zEi (v := goM S1 tg) (ws' := [(m0, oB 9 [.ref m1, .ref m2, .ref m3, .ref m4, .int ps, .int rn, .ref m5, .int ty, .ref m6, .ref m7, .int (nI (topS S1)), .int (goM S1 tg), .int (gaE S1 tg), .int (goP S1 tg), .int so, .int ca, .int cm, .int kd, .ref m8]), (m1, aI g 63 S), (m4, aI g 63 (fillT S tf 63)), (m6, aI g 201 (fillT (ivS S1) fi (topS S1 + 1))), (m7, aI g 201 (fillT (rsS S1) fq (topS S1 + 1)))]) hx hb hlocks hr rfl hK hP hD hS [1, 4, 3, 2, 0] rfl rfl rfl rfl dX9_tries_51
  · refine lv_iconst (v := 0) hx hb dX9_tries_43 (by decide +kernel) ?_
    refine lv_goto (tgt := 51) hx hb dX9_tries_44 (by decide) ?_
    exact zEi (v := 0) (ws' := [(m0, oB 9 [.ref m1, .ref m2, .ref m3, .ref m4, .int ps, .int rn, .ref m5, .int ty, .ref m6, .ref m7, .int (nI (topS S1)), .int (goM S1 tg), .int (gaE S1 tg), .int (goP S1 tg), .int so, .int ca, .int cm, .int kd, .ref m8]), (m1, aI g 63 S), (m4, aI g 63 (fillT S tf 63)), (m6, aI g 201 (fillT (ivS S1) fi (topS S1 + 1))), (m7, aI g 201 (fillT (rsS S1) fq (topS S1 + 1)))]) hx hb hlocks hr rfl hK hP hD hS [1, 4, 3, 2, 0] rfl rfl (by rw [show goM S1 tg = 0 from goM_0 ((nI_eq (by omega) (by decide)).mp c40)]) rfl dX9_tries_51
set_option maxHeartbeats 4000000 in
set_option maxRecDepth 100000 in
theorem r_wouldMiss (l : Launch) (g : G3) (m0 m1 m2 m3 m4 m5 m6 m7 m8 : Nat) (ps rn ty la mn ma sn so ca cm kd : Int32) (S tf fi fq : Nat → Int32) (tg : Int32) (hok : setOk S) (hnl : 0 ≤ (S 18).toInt ∧ (S 18).toInt ≤ 6) (hto : okP (S 10)) : MI l yX9_wouldMiss wsX9_wouldMiss (rk 5 118) g [.ref m0, .int tg] [(m0, oB 9 [.ref m1, .ref m2, .ref m3, .ref m4, .int ps, .int rn, .ref m5, .int ty, .ref m6, .ref m7, .int la, .int mn, .int ma, .int sn, .int so, .int ca, .int cm, .int kd, .ref m8]), (m1, aI g 63 S), (m4, aI g 63 tf), (m6, aI g 201 fi), (m7, aI g 201 fq)] (goR S tg) [(m0, oB 9 [.ref m1, .ref m2, .ref m3, .ref m4, .int ps, .int rn, .ref m5, .int ty, .ref m6, .ref m7, .int (if rfR S tg = 0 then nI (topS S) else la), .int (if rfR S tg = 0 then goM S tg else mn), .int (if rfR S tg = 0 then gaE S tg else ma), .int (if rfR S tg = 0 then goP S tg else sn), .int so, .int ca, .int cm, .int kd, .ref m8]), (m1, aI g 63 S), (m4, aI g 63 (if rfR S tg = 0 then fillT S tf 63 else tf)), (m6, aI g 201 (if rfR S tg = 0 then fillT (ivS S) fi (topS S + 1) else fi)), (m7, aI g 201 (if rfR S tg = 0 then fillT (rsS S) fq (topS S + 1) else fq))] := by
  refine zWalk.met (Qc := fun A => zQi g (goR S tg) [(m0, oB 9 [.ref m1, .ref m2, .ref m3, .ref m4, .int ps, .int rn, .ref m5, .int ty, .ref m6, .ref m7, .int (if rfR S tg = 0 then nI (topS S) else la), .int (if rfR S tg = 0 then goM S tg else mn), .int (if rfR S tg = 0 then gaE S tg else ma), .int (if rfR S tg = 0 then goP S tg else sn), .int so, .int ca, .int cm, .int kd, .ref m8]), (m1, aI g 63 S), (m4, aI g 63 (if rfR S tg = 0 then fillT S tf 63 else tf)), (m6, aI g 201 (if rfR S tg = 0 then fillT (ivS S) fi (topS S + 1) else fi)), (m7, aI g 201 (if rfR S tg = 0 then fillT (rsS S) fq (topS S + 1) else fq))] A) (cc := cX9_wouldMiss) (maxL := 2) (ret := (some .int)) ?_ (by decide) rfl (Nat.le_of_ble_eq_true rfl)
  intro pg ev sx mi args below meth cd A H locs ls hx hb hr hml hown hts hlocks hA hE hK hP hD hS hl
  have iX9 : ∀ w ∈ u_ws RX9 TX9 19, w ∈ wsX9_wouldMiss := (fun _ h => (List.mem_cons_of_mem _ (List.mem_append_right _ h)))
  have hl : lv_has ls 2 [(0, .ref m0), (1, .int tg)] := hl
  refine lv_iload_n hx hb dX9_wouldMiss_0 rfl (lv_at hl 1 rfl) ?_
  refine lv_sipush (v := (-4000)) hx hb dX9_wouldMiss_1 (by decide +kernel) ?_
  refine lv_sipush (v := 4000) hx hb dX9_wouldMiss_4 (by decide +kernel) ?_
  refine zSI (As := [.int tg, .int (-4000), .int 4000]) (rest := []) (wc := []) (wr := [(m0, oB 9 [.ref m1, .ref m2, .ref m3, .ref m4, .int ps, .int rn, .ref m5, .int ty, .ref m6, .ref m7, .int la, .int mn, .int ma, .int sn, .int so, .int ca, .int cm, .int kd, .ref m8]), (m1, aI g 63 S), (m4, aI g 63 tf), (m6, aI g 201 fi), (m7, aI g 201 fq)]) (wc' := []) ⟨hx, hb, hml, hown, hts⟩ (r_in l g tg (-4000) 4000) (va_cwS 3 hts gX9_wouldMiss_X9_in rfl rfl rfl (by decide +kernel) ⟨Nat.le_of_ble_eq_true rfl, Nat.le_of_ble_eq_true rfl⟩) hE hK hP hD hS hA [] [0, 1, 2, 3, 4] rfl rfl rfl rfl (by decide) rfl hl.1 rfl (lv_room (Nat.le_of_ble_eq_true rfl)) ⟨Nat.zero_le _, Nat.zero_le _⟩ dX9_wouldMiss_7 (fun H locs hP hD hS => ?_)
  have hP : va_P g.1 vwCl [(m0, oB 9 [.ref m1, .ref m2, .ref m3, .ref m4, .int ps, .int rn, .ref m5, .int ty, .ref m6, .ref m7, .int la, .int mn, .int ma, .int sn, .int so, .int ca, .int cm, .int kd, .ref m8]), (m1, aI g 63 S), (m4, aI g 63 tf), (m6, aI g 201 fi), (m7, aI g 201 fq)] H := hP
  have hD : va_D A [(m0, oB 9 [.ref m1, .ref m2, .ref m3, .ref m4, .int ps, .int rn, .ref m5, .int ty, .ref m6, .ref m7, .int la, .int mn, .int ma, .int sn, .int so, .int ca, .int cm, .int kd, .ref m8]), (m1, aI g 63 S), (m4, aI g 63 tf), (m6, aI g 201 fi), (m7, aI g 201 fq)] := hD
  refine lv_if_ne (tgt := 16) hx hb dX9_wouldMiss_10 (by decide) (fun c10 => ?_) (fun c10 => ?_)
  · have c10 := b01_t c10
    refine lv_aload_n hx hb dX9_wouldMiss_16 rfl (lv_at hl 0 rfl) ?_
    refine lv_iload_n hx hb dX9_wouldMiss_17 rfl (lv_at hl 1 rfl) ?_
    refine zVI (As := [.int tg]) (rest := []) (wc := [(m0, oB 9 [.ref m1, .ref m2, .ref m3, .ref m4, .int ps, .int rn, .ref m5, .int ty, .ref m6, .ref m7, .int la, .int mn, .int ma, .int sn, .int so, .int ca, .int cm, .int kd, .ref m8]), (m1, aI g 63 S)]) (wr := [(m4, aI g 63 tf), (m6, aI g 201 fi), (m7, aI g 201 fq)]) (wc' := [(m0, oB 9 [.ref m1, .ref m2, .ref m3, .ref m4, .int ps, .int rn, .ref m5, .int ty, .ref m6, .ref m7, .int la, .int mn, .int ma, .int sn, .int so, .int ca, .int cm, .int kd, .ref m8]), (m1, aI g 63 S)]) ⟨hx, hb, hml, hown, hts⟩ (r_canMove l g m0 m1 m2 m3 m4 m5 m6 m7 m8 ps rn ty la mn ma sn so ca cm kd S tg) (cwV 1 hts gX9_wouldMiss_X9_canMove rfl rfl rfl (by decide +kernel) ⟨Nat.le_of_ble_eq_true rfl, Nat.le_of_ble_eq_true rfl⟩) hE hK hP hD hS hA 0 9 rfl rfl rfl [0, 1] [2, 3, 4] rfl rfl rfl rfl (by decide) rfl hl.1 rfl (lv_room (Nat.le_of_ble_eq_true rfl)) ⟨Nat.zero_le _, Nat.zero_le _⟩ dX9_wouldMiss_18 (fun H locs hP hD hS => ?_)
    have hP : va_P g.1 vwCl [(m4, aI g 63 tf), (m6, aI g 201 fi), (m7, aI g 201 fq), (m0, oB 9 [.ref m1, .ref m2, .ref m3, .ref m4, .int ps, .int rn, .ref m5, .int ty, .ref m6, .ref m7, .int la, .int mn, .int ma, .int sn, .int so, .int ca, .int cm, .int kd, .ref m8]), (m1, aI g 63 S)] H := hP
    have hD : va_D A [(m4, aI g 63 tf), (m6, aI g 201 fi), (m7, aI g 201 fq), (m0, oB 9 [.ref m1, .ref m2, .ref m3, .ref m4, .int ps, .int rn, .ref m5, .int ty, .ref m6, .ref m7, .int la, .int mn, .int ma, .int sn, .int so, .int ca, .int cm, .int kd, .ref m8]), (m1, aI g 63 S)] := hD
    refine lv_if_eq (tgt := 38) hx hb dX9_wouldMiss_21 (by decide) (fun c21 => ?_) (fun c21 => ?_)
    · have c21 := b01_f c21
      refine lv_ldc hx hb hown (hts (.constant RX9 58 (-1000002)) (List.mem_of_getElem? (i := 3) rfl)) dX9_wouldMiss_38 ?_
      exact zEi (v := (-1000002)) (ws' := [(m0, oB 9 [.ref m1, .ref m2, .ref m3, .ref m4, .int ps, .int rn, .ref m5, .int ty, .ref m6, .ref m7, .int la, .int mn, .int ma, .int sn, .int so, .int ca, .int cm, .int kd, .ref m8]), (m1, aI g 63 S), (m4, aI g 63 tf), (m6, aI g 201 fi), (m7, aI g 201 fq)]) hx hb hlocks hr rfl hK hP hD hS [3, 4, 0, 1, 2] rfl rfl (by unfold goR; rw [if_neg c21]; exact (rf_np c10 c21).symm) (by simp only [if_neg c21]) dX9_wouldMiss_40
    · have c21 := b01_t c21
      refine lv_aload_n hx hb dX9_wouldMiss_24 rfl (lv_at hl 0 rfl) ?_
      refine lv_iload_n hx hb dX9_wouldMiss_25 rfl (lv_at hl 1 rfl) ?_
      refine lv_aload_n hx hb dX9_wouldMiss_26 rfl (lv_at hl 0 rfl) ?_
      refine va_get (D := g.1) (ci := 9) (v := .ref m1) (C := RX9) (T := TX9) (N := 19) hx hb hts iX9 hown hK hP 3 rfl rfl 0 (by decide) (hts (.fieldLink RX9 7 "StepAxisModel" "s" "[I") (List.mem_of_getElem? (i := 2) rfl)) (fun _ h9 => h9) rfl dX9_wouldMiss_27 ?_
      refine lv_iconst (v := 2) hx hb dX9_wouldMiss_30 (by decide +kernel) ?_
      refine zald (k := 2) hx hb hK hP 4 0 rfl rfl (IX.lit (by decide +kernel)) dX9_wouldMiss_31 ?_
      refine zVI (As := [.int tg, .int (S 2)]) (rest := []) (wc := [(m0, oB 9 [.ref m1, .ref m2, .ref m3, .ref m4, .int ps, .int rn, .ref m5, .int ty, .ref m6, .ref m7, .int la, .int mn, .int ma, .int sn, .int so, .int ca, .int cm, .int kd, .ref m8]), (m1, aI g 63 S), (m4, aI g 63 tf), (m6, aI g 201 fi), (m7, aI g 201 fq)]) (wr := []) (wc' := [(m0, oB 9 [.ref m1, .ref m2, .ref m3, .ref m4, .int ps, .int rn, .ref m5, .int ty, .ref m6, .ref m7, .int (nI (topS S)), .int (goM S tg), .int (gaE S tg), .int (goP S tg), .int so, .int ca, .int cm, .int kd, .ref m8]), (m1, aI g 63 S), (m4, aI g 63 (fillT S tf 63)), (m6, aI g 201 (fillT (ivS S) fi (topS S + 1))), (m7, aI g 201 (fillT (rsS S) fq (topS S + 1)))]) ⟨hx, hb, hml, hown, hts⟩ (r_tries l g m0 m1 m2 m3 m4 m5 m6 m7 m8 ps rn ty la mn ma sn so ca cm kd S S tf fi fq tg (S 2) upd_self.symm hok hnl hto (okQ_P.mp c10)) (cwV 2 hts gX9_wouldMiss_X9_tries rfl rfl rfl (by decide +kernel) ⟨Nat.le_of_ble_eq_true rfl, Nat.le_of_ble_eq_true rfl⟩) hE hK hP hD hS hA 3 9 rfl rfl rfl [3, 4, 0, 1, 2] [] rfl rfl rfl rfl (by decide) rfl hl.1 rfl (lv_room (Nat.le_of_ble_eq_true rfl)) ⟨Nat.zero_le _, Nat.zero_le _⟩ dX9_wouldMiss_32 (fun H locs hP hD hS => ?_)
      have hP : va_P g.1 vwCl [(m0, oB 9 [.ref m1, .ref m2, .ref m3, .ref m4, .int ps, .int rn, .ref m5, .int ty, .ref m6, .ref m7, .int (nI (topS S)), .int (goM S tg), .int (gaE S tg), .int (goP S tg), .int so, .int ca, .int cm, .int kd, .ref m8]), (m1, aI g 63 S), (m4, aI g 63 (fillT S tf 63)), (m6, aI g 201 (fillT (ivS S) fi (topS S + 1))), (m7, aI g 201 (fillT (rsS S) fq (topS S + 1)))] H := hP
      have hD : va_D A [(m0, oB 9 [.ref m1, .ref m2, .ref m3, .ref m4, .int ps, .int rn, .ref m5, .int ty, .ref m6, .ref m7, .int (nI (topS S)), .int (goM S tg), .int (gaE S tg), .int (goP S tg), .int so, .int ca, .int cm, .int kd, .ref m8]), (m1, aI g 63 S), (m4, aI g 63 (fillT S tf 63)), (m6, aI g 201 (fillT (ivS S) fi (topS S + 1))), (m7, aI g 201 (fillT (rsS S) fq (topS S + 1)))] := hD
      refine lv_goto (tgt := 40) hx hb dX9_wouldMiss_35 (by decide) ?_
      exact zEi (v := goM S tg) (ws' := [(m0, oB 9 [.ref m1, .ref m2, .ref m3, .ref m4, .int ps, .int rn, .ref m5, .int ty, .ref m6, .ref m7, .int (nI (topS S)), .int (goM S tg), .int (gaE S tg), .int (goP S tg), .int so, .int ca, .int cm, .int kd, .ref m8]), (m1, aI g 63 S), (m4, aI g 63 (fillT S tf 63)), (m6, aI g 201 (fillT (ivS S) fi (topS S + 1))), (m7, aI g 201 (fillT (rsS S) fq (topS S + 1)))]) hx hb hlocks hr rfl hK hP hD hS [0, 1, 2, 3, 4] rfl rfl (by unfold goR; rw [if_pos c21]) (by simp only [if_pos c21]) dX9_wouldMiss_40
  · have c10 := b01_f c10
    refine lv_ldc hx hb hown (hts (.constant RX9 53 (-1000001)) (List.mem_of_getElem? (i := 1) rfl)) dX9_wouldMiss_13 ?_
    exact zEi (v := (-1000001)) (ws' := [(m0, oB 9 [.ref m1, .ref m2, .ref m3, .ref m4, .int ps, .int rn, .ref m5, .int ty, .ref m6, .ref m7, .int la, .int mn, .int ma, .int sn, .int so, .int ca, .int cm, .int kd, .ref m8]), (m1, aI g 63 S), (m4, aI g 63 tf), (m6, aI g 201 fi), (m7, aI g 201 fq)]) hx hb hlocks hr rfl hK hP hD hS [0, 1, 2, 3, 4] rfl rfl (by unfold goR; rw [if_neg (rf_n1 c10)]; exact (if_neg c10).symm) (by simp only [if_neg (rf_n1 c10)]) dX9_wouldMiss_15
set_option maxHeartbeats 4000000 in
set_option maxRecDepth 100000 in
theorem r_firstMiss (l : Launch) (g : G3) (m0 m1 m2 m3 m4 m5 m6 m7 m8 : Nat) (ps rn ty la mn ma sn so ca cm kd : Int32) (S tf fi fq : Nat → Int32) (tg : Int32) (hok : setOk S) (hnl : 0 ≤ (S 18).toInt ∧ (S 18).toInt ≤ 6) (hto : okP (S 10)) : MI l yX9_firstMiss wsX9_firstMiss (rk 5 118) g [.ref m0, .int tg] [(m0, oB 9 [.ref m1, .ref m2, .ref m3, .ref m4, .int ps, .int rn, .ref m5, .int ty, .ref m6, .ref m7, .int la, .int mn, .int ma, .int sn, .int so, .int ca, .int cm, .int kd, .ref m8]), (m1, aI g 63 S), (m4, aI g 63 tf), (m6, aI g 201 fi), (m7, aI g 201 fq)] (fmR S tg) [(m0, oB 9 [.ref m1, .ref m2, .ref m3, .ref m4, .int ps, .int rn, .ref m5, .int ty, .ref m6, .ref m7, .int (if rfR S tg = 0 then nI (topS S) else la), .int (if rfR S tg = 0 then goM S tg else mn), .int (if rfR S tg = 0 then gaE S tg else ma), .int (if rfR S tg = 0 then goP S tg else sn), .int so, .int ca, .int cm, .int kd, .ref m8]), (m1, aI g 63 S), (m4, aI g 63 (if rfR S tg = 0 then fillT S tf 63 else tf)), (m6, aI g 201 (if rfR S tg = 0 then fillT (ivS S) fi (topS S + 1) else fi)), (m7, aI g 201 (if rfR S tg = 0 then fillT (rsS S) fq (topS S + 1) else fq))] := by
  refine zWalk.met (Qc := fun A => zQi g (fmR S tg) [(m0, oB 9 [.ref m1, .ref m2, .ref m3, .ref m4, .int ps, .int rn, .ref m5, .int ty, .ref m6, .ref m7, .int (if rfR S tg = 0 then nI (topS S) else la), .int (if rfR S tg = 0 then goM S tg else mn), .int (if rfR S tg = 0 then gaE S tg else ma), .int (if rfR S tg = 0 then goP S tg else sn), .int so, .int ca, .int cm, .int kd, .ref m8]), (m1, aI g 63 S), (m4, aI g 63 (if rfR S tg = 0 then fillT S tf 63 else tf)), (m6, aI g 201 (if rfR S tg = 0 then fillT (ivS S) fi (topS S + 1) else fi)), (m7, aI g 201 (if rfR S tg = 0 then fillT (rsS S) fq (topS S + 1) else fq))] A) (cc := cX9_firstMiss) (maxL := 2) (ret := (some .int)) ?_ (by decide) rfl (Nat.le_of_ble_eq_true rfl)
  intro pg ev sx mi args below meth cd A H locs ls hx hb hr hml hown hts hlocks hA hE hK hP hD hS hl
  have iX9 : ∀ w ∈ u_ws RX9 TX9 19, w ∈ wsX9_firstMiss := (fun _ h => (List.mem_cons_of_mem _ (List.mem_append_right _ h)))
  have hl : lv_has ls 2 [(0, .ref m0), (1, .int tg)] := hl
  refine lv_iload_n hx hb dX9_firstMiss_0 rfl (lv_at hl 1 rfl) ?_
  refine lv_sipush (v := (-4000)) hx hb dX9_firstMiss_1 (by decide +kernel) ?_
  refine lv_sipush (v := 4000) hx hb dX9_firstMiss_4 (by decide +kernel) ?_
  refine zSI (As := [.int tg, .int (-4000), .int 4000]) (rest := []) (wc := []) (wr := [(m0, oB 9 [.ref m1, .ref m2, .ref m3, .ref m4, .int ps, .int rn, .ref m5, .int ty, .ref m6, .ref m7, .int la, .int mn, .int ma, .int sn, .int so, .int ca, .int cm, .int kd, .ref m8]), (m1, aI g 63 S), (m4, aI g 63 tf), (m6, aI g 201 fi), (m7, aI g 201 fq)]) (wc' := []) ⟨hx, hb, hml, hown, hts⟩ (r_in l g tg (-4000) 4000) (va_cwS 3 hts gX9_firstMiss_X9_in rfl rfl rfl (by decide +kernel) ⟨Nat.le_of_ble_eq_true rfl, Nat.le_of_ble_eq_true rfl⟩) hE hK hP hD hS hA [] [0, 1, 2, 3, 4] rfl rfl rfl rfl (by decide) rfl hl.1 rfl (lv_room (Nat.le_of_ble_eq_true rfl)) ⟨Nat.zero_le _, Nat.zero_le _⟩ dX9_firstMiss_7 (fun H locs hP hD hS => ?_)
  have hP : va_P g.1 vwCl [(m0, oB 9 [.ref m1, .ref m2, .ref m3, .ref m4, .int ps, .int rn, .ref m5, .int ty, .ref m6, .ref m7, .int la, .int mn, .int ma, .int sn, .int so, .int ca, .int cm, .int kd, .ref m8]), (m1, aI g 63 S), (m4, aI g 63 tf), (m6, aI g 201 fi), (m7, aI g 201 fq)] H := hP
  have hD : va_D A [(m0, oB 9 [.ref m1, .ref m2, .ref m3, .ref m4, .int ps, .int rn, .ref m5, .int ty, .ref m6, .ref m7, .int la, .int mn, .int ma, .int sn, .int so, .int ca, .int cm, .int kd, .ref m8]), (m1, aI g 63 S), (m4, aI g 63 tf), (m6, aI g 201 fi), (m7, aI g 201 fq)] := hD
  refine lv_if_ne (tgt := 16) hx hb dX9_firstMiss_10 (by decide) (fun c10 => ?_) (fun c10 => ?_)
  · have c10 := b01_t c10
    refine lv_aload_n hx hb dX9_firstMiss_16 rfl (lv_at hl 0 rfl) ?_
    refine lv_iload_n hx hb dX9_firstMiss_17 rfl (lv_at hl 1 rfl) ?_
    refine zVI (As := [.int tg]) (rest := []) (wc := [(m0, oB 9 [.ref m1, .ref m2, .ref m3, .ref m4, .int ps, .int rn, .ref m5, .int ty, .ref m6, .ref m7, .int la, .int mn, .int ma, .int sn, .int so, .int ca, .int cm, .int kd, .ref m8]), (m1, aI g 63 S)]) (wr := [(m4, aI g 63 tf), (m6, aI g 201 fi), (m7, aI g 201 fq)]) (wc' := [(m0, oB 9 [.ref m1, .ref m2, .ref m3, .ref m4, .int ps, .int rn, .ref m5, .int ty, .ref m6, .ref m7, .int la, .int mn, .int ma, .int sn, .int so, .int ca, .int cm, .int kd, .ref m8]), (m1, aI g 63 S)]) ⟨hx, hb, hml, hown, hts⟩ (r_canMove l g m0 m1 m2 m3 m4 m5 m6 m7 m8 ps rn ty la mn ma sn so ca cm kd S tg) (cwV 1 hts gX9_firstMiss_X9_canMove rfl rfl rfl (by decide +kernel) ⟨Nat.le_of_ble_eq_true rfl, Nat.le_of_ble_eq_true rfl⟩) hE hK hP hD hS hA 0 9 rfl rfl rfl [0, 1] [2, 3, 4] rfl rfl rfl rfl (by decide) rfl hl.1 rfl (lv_room (Nat.le_of_ble_eq_true rfl)) ⟨Nat.zero_le _, Nat.zero_le _⟩ dX9_firstMiss_18 (fun H locs hP hD hS => ?_)
    have hP : va_P g.1 vwCl [(m4, aI g 63 tf), (m6, aI g 201 fi), (m7, aI g 201 fq), (m0, oB 9 [.ref m1, .ref m2, .ref m3, .ref m4, .int ps, .int rn, .ref m5, .int ty, .ref m6, .ref m7, .int la, .int mn, .int ma, .int sn, .int so, .int ca, .int cm, .int kd, .ref m8]), (m1, aI g 63 S)] H := hP
    have hD : va_D A [(m4, aI g 63 tf), (m6, aI g 201 fi), (m7, aI g 201 fq), (m0, oB 9 [.ref m1, .ref m2, .ref m3, .ref m4, .int ps, .int rn, .ref m5, .int ty, .ref m6, .ref m7, .int la, .int mn, .int ma, .int sn, .int so, .int ca, .int cm, .int kd, .ref m8]), (m1, aI g 63 S)] := hD
    refine lv_if_ne (tgt := 27) hx hb dX9_firstMiss_21 (by decide) (fun c21 => ?_) (fun c21 => ?_)
    · have c21 := b01_t c21
      refine lv_aload_n hx hb dX9_firstMiss_27 rfl (lv_at hl 0 rfl) ?_
      refine lv_iload_n hx hb dX9_firstMiss_28 rfl (lv_at hl 1 rfl) ?_
      refine lv_aload_n hx hb dX9_firstMiss_29 rfl (lv_at hl 0 rfl) ?_
      refine va_get (D := g.1) (ci := 9) (v := .ref m1) (C := RX9) (T := TX9) (N := 19) hx hb hts iX9 hown hK hP 3 rfl rfl 0 (by decide) (hts (.fieldLink RX9 7 "StepAxisModel" "s" "[I") (List.mem_of_getElem? (i := 3) rfl)) (fun _ h9 => h9) rfl dX9_firstMiss_30 ?_
      refine lv_iconst (v := 2) hx hb dX9_firstMiss_33 (by decide +kernel) ?_
      refine zald (k := 2) hx hb hK hP 4 0 rfl rfl (IX.lit (by decide +kernel)) dX9_firstMiss_34 ?_
      refine zVI (As := [.int tg, .int (S 2)]) (rest := []) (wc := [(m0, oB 9 [.ref m1, .ref m2, .ref m3, .ref m4, .int ps, .int rn, .ref m5, .int ty, .ref m6, .ref m7, .int la, .int mn, .int ma, .int sn, .int so, .int ca, .int cm, .int kd, .ref m8]), (m1, aI g 63 S), (m4, aI g 63 tf), (m6, aI g 201 fi), (m7, aI g 201 fq)]) (wr := []) (wc' := [(m0, oB 9 [.ref m1, .ref m2, .ref m3, .ref m4, .int ps, .int rn, .ref m5, .int ty, .ref m6, .ref m7, .int (nI (topS S)), .int (goM S tg), .int (gaE S tg), .int (goP S tg), .int so, .int ca, .int cm, .int kd, .ref m8]), (m1, aI g 63 S), (m4, aI g 63 (fillT S tf 63)), (m6, aI g 201 (fillT (ivS S) fi (topS S + 1))), (m7, aI g 201 (fillT (rsS S) fq (topS S + 1)))]) ⟨hx, hb, hml, hown, hts⟩ (r_tries l g m0 m1 m2 m3 m4 m5 m6 m7 m8 ps rn ty la mn ma sn so ca cm kd S S tf fi fq tg (S 2) upd_self.symm hok hnl hto (okQ_P.mp c10)) (cwV 2 hts gX9_firstMiss_X9_tries rfl rfl rfl (by decide +kernel) ⟨Nat.le_of_ble_eq_true rfl, Nat.le_of_ble_eq_true rfl⟩) hE hK hP hD hS hA 3 9 rfl rfl rfl [3, 4, 0, 1, 2] [] rfl rfl rfl rfl (by decide) rfl hl.1 rfl (lv_room (Nat.le_of_ble_eq_true rfl)) ⟨Nat.zero_le _, Nat.zero_le _⟩ dX9_firstMiss_35 (fun H locs hP hD hS => ?_)
      have hP : va_P g.1 vwCl [(m0, oB 9 [.ref m1, .ref m2, .ref m3, .ref m4, .int ps, .int rn, .ref m5, .int ty, .ref m6, .ref m7, .int (nI (topS S)), .int (goM S tg), .int (gaE S tg), .int (goP S tg), .int so, .int ca, .int cm, .int kd, .ref m8]), (m1, aI g 63 S), (m4, aI g 63 (fillT S tf 63)), (m6, aI g 201 (fillT (ivS S) fi (topS S + 1))), (m7, aI g 201 (fillT (rsS S) fq (topS S + 1)))] H := hP
      have hD : va_D A [(m0, oB 9 [.ref m1, .ref m2, .ref m3, .ref m4, .int ps, .int rn, .ref m5, .int ty, .ref m6, .ref m7, .int (nI (topS S)), .int (goM S tg), .int (gaE S tg), .int (goP S tg), .int so, .int ca, .int cm, .int kd, .ref m8]), (m1, aI g 63 S), (m4, aI g 63 (fillT S tf 63)), (m6, aI g 201 (fillT (ivS S) fi (topS S + 1))), (m7, aI g 201 (fillT (rsS S) fq (topS S + 1)))] := hD
      refine lv_if_ne (tgt := 46) hx hb dX9_firstMiss_38 (by decide) (fun c38 => ?_) (fun c38 => ?_)
      · refine lv_aload_n hx hb dX9_firstMiss_46 rfl (lv_at hl 0 rfl) ?_
        refine va_get (D := g.1) (ci := 9) (v := .int (gaE S tg)) (C := RX9) (T := TX9) (N := 19) hx hb hts iX9 hown hK hP 0 rfl rfl 12 (by decide) (hts (.fieldLink RX9 83 "StepAxisModel" "missedAt" "I") (List.mem_of_getElem? (i := 5) rfl)) (fun _ h9 => h9) rfl dX9_firstMiss_47 ?_
        exact zEi (v := gaE S tg) (ws' := [(m0, oB 9 [.ref m1, .ref m2, .ref m3, .ref m4, .int ps, .int rn, .ref m5, .int ty, .ref m6, .ref m7, .int (nI (topS S)), .int (goM S tg), .int (gaE S tg), .int (goP S tg), .int so, .int ca, .int cm, .int kd, .ref m8]), (m1, aI g 63 S), (m4, aI g 63 (fillT S tf 63)), (m6, aI g 201 (fillT (ivS S) fi (topS S + 1))), (m7, aI g 201 (fillT (rsS S) fq (topS S + 1)))]) hx hb hlocks hr rfl hK hP hD hS [0, 1, 2, 3, 4] rfl rfl (by unfold fmR; rw [if_pos c21, if_neg c38]) (by simp only [if_pos c21]) dX9_firstMiss_50
      · refine lv_ldc hx hb hown (hts (.constant RX9 59 (-1000004)) (List.mem_of_getElem? (i := 4) rfl)) dX9_firstMiss_41 ?_
        refine lv_goto (tgt := 50) hx hb dX9_firstMiss_43 (by decide) ?_
        exact zEi (v := (-1000004)) (ws' := [(m0, oB 9 [.ref m1, .ref m2, .ref m3, .ref m4, .int ps, .int rn, .ref m5, .int ty, .ref m6, .ref m7, .int (nI (topS S)), .int (goM S tg), .int (gaE S tg), .int (goP S tg), .int so, .int ca, .int cm, .int kd, .ref m8]), (m1, aI g 63 S), (m4, aI g 63 (fillT S tf 63)), (m6, aI g 201 (fillT (ivS S) fi (topS S + 1))), (m7, aI g 201 (fillT (rsS S) fq (topS S + 1)))]) hx hb hlocks hr rfl hK hP hD hS [0, 1, 2, 3, 4] rfl rfl (by unfold fmR; rw [if_pos c21, if_pos c38]) (by simp only [if_pos c21]) dX9_firstMiss_50
    · have c21 := b01_f c21
      refine lv_ldc hx hb hown (hts (.constant RX9 58 (-1000002)) (List.mem_of_getElem? (i := 2) rfl)) dX9_firstMiss_24 ?_
      exact zEi (v := (-1000002)) (ws' := [(m0, oB 9 [.ref m1, .ref m2, .ref m3, .ref m4, .int ps, .int rn, .ref m5, .int ty, .ref m6, .ref m7, .int la, .int mn, .int ma, .int sn, .int so, .int ca, .int cm, .int kd, .ref m8]), (m1, aI g 63 S), (m4, aI g 63 tf), (m6, aI g 201 fi), (m7, aI g 201 fq)]) hx hb hlocks hr rfl hK hP hD hS [3, 4, 0, 1, 2] rfl rfl (by unfold fmR; rw [if_neg c21]; exact (rf_np c10 c21).symm) (by simp only [if_neg c21]) dX9_firstMiss_26
  · have c10 := b01_f c10
    refine lv_ldc hx hb hown (hts (.constant RX9 53 (-1000001)) (List.mem_of_getElem? (i := 1) rfl)) dX9_firstMiss_13 ?_
    exact zEi (v := (-1000001)) (ws' := [(m0, oB 9 [.ref m1, .ref m2, .ref m3, .ref m4, .int ps, .int rn, .ref m5, .int ty, .ref m6, .ref m7, .int la, .int mn, .int ma, .int sn, .int so, .int ca, .int cm, .int kd, .ref m8]), (m1, aI g 63 S), (m4, aI g 63 tf), (m6, aI g 201 fi), (m7, aI g 201 fq)]) hx hb hlocks hr rfl hK hP hD hS [0, 1, 2, 3, 4] rfl rfl (by unfold fmR; rw [if_neg (rf_n1 c10)]; exact (if_neg c10).symm) (by simp only [if_neg (rf_n1 c10)]) dX9_firstMiss_15
set_option maxHeartbeats 4000000 in
set_option maxRecDepth 100000 in
theorem r_timeOf (l : Launch) (g : G3) (m0 m1 m2 m3 m4 m5 m6 m7 m8 : Nat) (ps rn ty la mn ma sn so ca cm kd : Int32) (S fi fq : Nat → Int32) (d : Int32) (hok : setOk S) : MI l yX9_timeOf wsX9_timeOf (rk 1 23) g [.ref m0, .int d] [(m0, oB 9 [.ref m1, .ref m2, .ref m3, .ref m4, .int ps, .int rn, .ref m5, .int ty, .ref m6, .ref m7, .int la, .int mn, .int ma, .int sn, .int so, .int ca, .int cm, .int kd, .ref m8]), (m1, aI g 63 S), (m6, aI g 201 fi), (m7, aI g 201 fq)] (tmR S d) [(m0, oB 9 [.ref m1, .ref m2, .ref m3, .ref m4, .int ps, .int rn, .ref m5, .int ty, .ref m6, .ref m7, .int (if 0 ≤ d ∧ d ≤ 6000 then nI (topS S) else la), .int mn, .int ma, .int sn, .int so, .int ca, .int cm, .int kd, .ref m8]), (m1, aI g 63 S), (m6, aI g 201 (if 0 ≤ d ∧ d ≤ 6000 then fillT (ivS S) fi (topS S + 1) else fi)), (m7, aI g 201 (if 0 ≤ d ∧ d ≤ 6000 then fillT (rsS S) fq (topS S + 1) else fq))] := by
  refine zWalk.met (Qc := fun A => zQi g (tmR S d) [(m0, oB 9 [.ref m1, .ref m2, .ref m3, .ref m4, .int ps, .int rn, .ref m5, .int ty, .ref m6, .ref m7, .int (if 0 ≤ d ∧ d ≤ 6000 then nI (topS S) else la), .int mn, .int ma, .int sn, .int so, .int ca, .int cm, .int kd, .ref m8]), (m1, aI g 63 S), (m6, aI g 201 (if 0 ≤ d ∧ d ≤ 6000 then fillT (ivS S) fi (topS S + 1) else fi)), (m7, aI g 201 (if 0 ≤ d ∧ d ≤ 6000 then fillT (rsS S) fq (topS S + 1) else fq))] A) (cc := cX9_timeOf) (maxL := 4) (ret := (some .int)) ?_ (by decide) rfl (Nat.le_of_ble_eq_true rfl)
  intro pg ev sx mi args below meth cd A H locs ls hx hb hr hml hown hts hlocks hA hE hK hP hD hS hl
  have iX9 : ∀ w ∈ u_ws RX9 TX9 19, w ∈ wsX9_timeOf := (fun _ h => (List.mem_cons_of_mem _ (List.mem_append_right _ h)))
  have hl : lv_has ls 4 [(0, .ref m0), (1, .int d)] := hl
  have h200 : topS S ≤ 200 := topS_le hok
  refine lv_iload_n hx hb dX9_timeOf_0 rfl (lv_at hl 1 rfl) ?_
  refine lv_iconst (v := 0) hx hb dX9_timeOf_1 (by decide +kernel) ?_
  refine lv_sipush (v := 6000) hx hb dX9_timeOf_2 (by decide +kernel) ?_
  refine zSI (As := [.int d, .int 0, .int 6000]) (rest := []) (wc := []) (wr := [(m0, oB 9 [.ref m1, .ref m2, .ref m3, .ref m4, .int ps, .int rn, .ref m5, .int ty, .ref m6, .ref m7, .int la, .int mn, .int ma, .int sn, .int so, .int ca, .int cm, .int kd, .ref m8]), (m1, aI g 63 S), (m6, aI g 201 fi), (m7, aI g 201 fq)]) (wc' := []) ⟨hx, hb, hml, hown, hts⟩ (r_in l g d 0 6000) (va_cwS 3 hts gX9_timeOf_X9_in rfl rfl rfl (by decide +kernel) ⟨Nat.le_of_ble_eq_true rfl, Nat.le_of_ble_eq_true rfl⟩) hE hK hP hD hS hA [] [0, 1, 2, 3] rfl rfl rfl rfl (by decide) rfl hl.1 rfl (lv_room (Nat.le_of_ble_eq_true rfl)) ⟨Nat.zero_le _, Nat.zero_le _⟩ dX9_timeOf_5 (fun H locs hP hD hS => ?_)
  have hP : va_P g.1 vwCl [(m0, oB 9 [.ref m1, .ref m2, .ref m3, .ref m4, .int ps, .int rn, .ref m5, .int ty, .ref m6, .ref m7, .int la, .int mn, .int ma, .int sn, .int so, .int ca, .int cm, .int kd, .ref m8]), (m1, aI g 63 S), (m6, aI g 201 fi), (m7, aI g 201 fq)] H := hP
  have hD : va_D A [(m0, oB 9 [.ref m1, .ref m2, .ref m3, .ref m4, .int ps, .int rn, .ref m5, .int ty, .ref m6, .ref m7, .int la, .int mn, .int ma, .int sn, .int so, .int ca, .int cm, .int kd, .ref m8]), (m1, aI g 63 S), (m6, aI g 201 fi), (m7, aI g 201 fq)] := hD
  refine lv_if_ne (tgt := 14) hx hb dX9_timeOf_8 (by decide) (fun c8 => ?_) (fun c8 => ?_)
  · have c8 := b01_t c8
    obtain ⟨D, hD0⟩ : ∃ D, D = d.toInt.toNat := ⟨_, rfl⟩
    have hd0 := zp0 c8.1
    have hd6 := (zle _ _).mp c8.2
    rw [show (6000 : Int32).toInt = 6000 from by decide +kernel] at hd6
    have ed : d = nI D := by rw [hD0]; exact zof hd0
    have hDD : D ≤ 8000 := by omega
    refine lv_aload_n hx hb dX9_timeOf_14 rfl (lv_at hl 0 rfl) ?_
    refine zVV (As := []) (rest := []) (wc := [(m0, oB 9 [.ref m1, .ref m2, .ref m3, .ref m4, .int ps, .int rn, .ref m5, .int ty, .ref m6, .ref m7, .int la, .int mn, .int ma, .int sn, .int so, .int ca, .int cm, .int kd, .ref m8]), (m1, aI g 63 S), (m6, aI g 201 fi), (m7, aI g 201 fq)]) (wr := []) (wc' := [(m0, oB 9 [.ref m1, .ref m2, .ref m3, .ref m4, .int ps, .int rn, .ref m5, .int ty, .ref m6, .ref m7, .int (nI (topS S)), .int mn, .int ma, .int sn, .int so, .int ca, .int cm, .int kd, .ref m8]), (m1, aI g 63 S), (m6, aI g 201 (fillT (ivS S) fi (topS S + 1))), (m7, aI g 201 (fillT (rsS S) fq (topS S + 1)))]) ⟨hx, hb, hml, hown, hts⟩ (r_lays l g m0 m1 m2 m3 m4 m5 m6 m7 m8 ps rn ty la mn ma sn so ca cm kd S fi fq hok) (cwV 0 hts gX9_timeOf_X9_lays rfl rfl rfl (by decide +kernel) ⟨Nat.le_of_ble_eq_true rfl, Nat.le_of_ble_eq_true rfl⟩) hE hK hP hD hS hA 0 9 rfl rfl rfl [0, 1, 2, 3] [] rfl rfl rfl rfl (by decide) rfl hl.1 rfl (lv_room (Nat.le_of_ble_eq_true rfl)) ⟨Nat.zero_le _, Nat.zero_le _⟩ dX9_timeOf_15 (fun H locs hP hD hS => ?_)
    have hP : va_P g.1 vwCl [(m0, oB 9 [.ref m1, .ref m2, .ref m3, .ref m4, .int ps, .int rn, .ref m5, .int ty, .ref m6, .ref m7, .int (nI (topS S)), .int mn, .int ma, .int sn, .int so, .int ca, .int cm, .int kd, .ref m8]), (m1, aI g 63 S), (m6, aI g 201 (fillT (ivS S) fi (topS S + 1))), (m7, aI g 201 (fillT (rsS S) fq (topS S + 1)))] H := hP
    have hD : va_D A [(m0, oB 9 [.ref m1, .ref m2, .ref m3, .ref m4, .int ps, .int rn, .ref m5, .int ty, .ref m6, .ref m7, .int (nI (topS S)), .int mn, .int ma, .int sn, .int so, .int ca, .int cm, .int kd, .ref m8]), (m1, aI g 63 S), (m6, aI g 201 (fillT (ivS S) fi (topS S + 1))), (m7, aI g 201 (fillT (rsS S) fq (topS S + 1)))] := hD
    refine lv_iconst (v := 0) hx hb dX9_timeOf_18 (by decide +kernel) ?_
    refine lv_istore_n (lv' := [(2, .int 0), (0, .ref m0), (1, .int d)]) hx hb dX9_timeOf_19 rfl hl (by decide) rfl (fun ls hl => ?_)
    refine lv_iconst (v := 0) hx hb dX9_timeOf_20 (by decide +kernel) ?_
    refine lv_istore_n (lv' := [(3, .int 0), (2, .int 0), (0, .ref m0), (1, .int d)]) hx hb dX9_timeOf_21 rfl hl (by decide) rfl (fun ls hl => ?_)
    have lp22 : ∀ (fu : Nat) (k : Nat) (i : Int32) (v : Int32), (k ≤ D) → (i = nI k) → (v = dnS (ivS S) (topS S) D k) → (D - k) < fu → ∀ (H : Heap) (locs : List Loc), va_P g.1 vwCl [(m0, oB 9 [.ref m1, .ref m2, .ref m3, .ref m4, .int ps, .int rn, .ref m5, .int ty, .ref m6, .ref m7, .int (nI (topS S)), .int mn, .int ma, .int sn, .int so, .int ca, .int cm, .int kd, .ref m8]), (m1, aI g 63 S), (m6, aI g 201 (fillT (ivS S) fi (topS S + 1))), (m7, aI g 201 (fillT (rsS S) fq (topS S + 1)))] H → va_D A [(m0, oB 9 [.ref m1, .ref m2, .ref m3, .ref m4, .int ps, .int rn, .ref m5, .int ty, .ref m6, .ref m7, .int (nI (topS S)), .int mn, .int ma, .int sn, .int so, .int ca, .int cm, .int kd, .ref m8]), (m1, aI g 63 S), (m6, aI g 201 (fillT (ivS S) fi (topS S + 1))), (m7, aI g 201 (fillT (rsS S) fq (topS S + 1)))] → va_S A sx.heap H locs → ∀ (ls : Array Slot), lv_has ls 4 [(3, .int i), (2, .int v), (0, .ref m0), (1, .int d)] → W pg l ev (rk 1 23) sx mi args below meth cd H locs 0 0 (MQ below (zQi g (tmR S d) [(m0, oB 9 [.ref m1, .ref m2, .ref m3, .ref m4, .int ps, .int rn, .ref m5, .int ty, .ref m6, .ref m7, .int (if 0 ≤ d ∧ d ≤ 6000 then nI (topS S) else la), .int mn, .int ma, .int sn, .int so, .int ca, .int cm, .int kd, .ref m8]), (m1, aI g 63 S), (m6, aI g 201 (if 0 ≤ d ∧ d ≤ 6000 then fillT (ivS S) fi (topS S + 1) else fi)), (m7, aI g 201 (if 0 ≤ d ∧ d ≤ 6000 then fillT (rsS S) fq (topS S + 1) else fq))] A) args sx 0 0 A) (F0 mi 22 ls []) := by
      intro fu
      induction fu with
      | zero =>
        intro k i v hk ei ev hmu
        exact absurd hmu (Nat.not_lt_zero _)
      | succ fu ih =>
        intro k i v hk ei ev hmu H locs hP hD hS ls hl
        refine lv_iload_n hx hb dX9_timeOf_22 rfl (lv_at hl 0 rfl) ?_
        refine lv_iload_n hx hb dX9_timeOf_23 rfl (lv_at hl 3 rfl) ?_
        refine lv_icmp_ge (tgt := 47) hx hb dX9_timeOf_24 (by decide) (fun c24 => ?_) (fun c24 => ?_)
        · have hkn : k = D := Nat.le_antisymm hk (nle_of (by omega) (by omega) (by rw [ei, ed] at c24; exact c24))
          refine lv_iload_n hx hb dX9_timeOf_47 rfl (lv_at hl 1 rfl) ?_
          exact zEi (v := v) (ws' := [(m0, oB 9 [.ref m1, .ref m2, .ref m3, .ref m4, .int ps, .int rn, .ref m5, .int ty, .ref m6, .ref m7, .int (nI (topS S)), .int mn, .int ma, .int sn, .int so, .int ca, .int cm, .int kd, .ref m8]), (m1, aI g 63 S), (m6, aI g 201 (fillT (ivS S) fi (topS S + 1))), (m7, aI g 201 (fillT (rsS S) fq (topS S + 1)))]) hx hb hlocks hr rfl hK hP hD hS [0, 1, 2, 3] rfl rfl (by unfold tmR; rw [if_pos c8, ← hD0, ev, hkn]) (by simp only [if_pos c8]) dX9_timeOf_48
        · have hlt : k < D := nlt_of (by omega) (by rw [ei, ed] at c24; exact c24)
          refine lv_iload_n hx hb dX9_timeOf_27 rfl (lv_at hl 1 rfl) ?_
          refine lv_aload_n hx hb dX9_timeOf_28 rfl (lv_at hl 2 rfl) ?_
          refine va_get (D := g.1) (ci := 9) (v := .ref m6) (C := RX9) (T := TX9) (N := 19) hx hb hts iX9 hown hK hP 0 rfl rfl 8 (by decide) (hts (.fieldLink RX9 25 "StepAxisModel" "intervals" "[I") (List.mem_of_getElem? (i := 2) rfl)) (fun _ h9 => h9) rfl dX9_timeOf_29 ?_
          refine lv_aload_n hx hb dX9_timeOf_32 rfl (lv_at hl 2 rfl) ?_
          refine lv_iload_n hx hb dX9_timeOf_33 rfl (lv_at hl 0 rfl) ?_
          refine lv_iload_n hx hb dX9_timeOf_34 rfl (lv_at hl 3 rfl) ?_
          refine zVI (As := [.int i, .int d]) (rest := [.ref m6, .int v]) (wc := [(m0, oB 9 [.ref m1, .ref m2, .ref m3, .ref m4, .int ps, .int rn, .ref m5, .int ty, .ref m6, .ref m7, .int (nI (topS S)), .int mn, .int ma, .int sn, .int so, .int ca, .int cm, .int kd, .ref m8])]) (wr := [(m1, aI g 63 S), (m6, aI g 201 (fillT (ivS S) fi (topS S + 1))), (m7, aI g 201 (fillT (rsS S) fq (topS S + 1)))]) (wc' := [(m0, oB 9 [.ref m1, .ref m2, .ref m3, .ref m4, .int ps, .int rn, .ref m5, .int ty, .ref m6, .ref m7, .int (nI (topS S)), .int mn, .int ma, .int sn, .int so, .int ca, .int cm, .int kd, .ref m8])]) ⟨hx, hb, hml, hown, hts⟩ (r_indexOf l g m0 m1 m2 m3 m4 m5 m6 m7 m8 ps rn ty (nI (topS S)) mn ma sn so ca cm kd i d) (cwV 2 hts gX9_timeOf_X9_indexOf rfl rfl rfl (by decide +kernel) ⟨Nat.le_of_ble_eq_true rfl, Nat.le_of_ble_eq_true rfl⟩) hE hK hP hD hS hA 0 9 rfl rfl rfl [0] [1, 2, 3] rfl rfl rfl rfl (by decide) rfl hl.1 rfl (lv_room (Nat.le_of_ble_eq_true rfl)) ⟨Nat.zero_le _, Nat.zero_le _⟩ dX9_timeOf_35 (fun H locs hP hD hS => ?_)
          have hP : va_P g.1 vwCl [(m1, aI g 63 S), (m6, aI g 201 (fillT (ivS S) fi (topS S + 1))), (m7, aI g 201 (fillT (rsS S) fq (topS S + 1))), (m0, oB 9 [.ref m1, .ref m2, .ref m3, .ref m4, .int ps, .int rn, .ref m5, .int ty, .ref m6, .ref m7, .int (nI (topS S)), .int mn, .int ma, .int sn, .int so, .int ca, .int cm, .int kd, .ref m8])] H := hP
          have hD : va_D A [(m1, aI g 63 S), (m6, aI g 201 (fillT (ivS S) fi (topS S + 1))), (m7, aI g 201 (fillT (rsS S) fq (topS S + 1))), (m0, oB 9 [.ref m1, .ref m2, .ref m3, .ref m4, .int ps, .int rn, .ref m5, .int ty, .ref m6, .ref m7, .int (nI (topS S)), .int mn, .int ma, .int sn, .int so, .int ca, .int cm, .int kd, .ref m8])] := hD
          refine zTop (y := nI (ix (topS S) k D)) (by rw [ei, ed]; exact idxR_eq h200 hlt hDD) ?_
          refine zald (k := (ix (topS S) k D)) hx hb hK hP 1 0 rfl rfl (IX.of rfl (by have := ix_le (topS S) k D; omega) (by decide)) dX9_timeOf_38 ?_
          refine zTop (y := ivS S (ix (topS S) k D)) (fillT_in (Nat.lt_succ_of_le (ix_le _ _ _))) ?_
          refine lv_iadd hx hb dX9_timeOf_39 ?_
          refine lv_istore_n (lv' := [(2, .int (v + (ivS S (ix (topS S) k D)))), (3, .int i), (0, .ref m0), (1, .int d)]) hx hb dX9_timeOf_40 rfl hl (by decide) rfl (fun ls hl => ?_)
          refine lv_iinc (v := i + 1) (lv' := [(3, .int (i + 1)), (2, .int (v + (ivS S (ix (topS S) k D)))), (0, .ref m0), (1, .int d)]) hx hb dX9_timeOf_41 hl (k := 1) rfl (by rfl) (by decide) rfl (fun ls hl => ?_)
          refine lv_goto (tgt := 22) hx hb dX9_timeOf_44 (by decide) ?_
          exact ih (k + 1) (i + 1) (v + (ivS S (ix (topS S) k D))) hlt (by rw [ei]; exact nI_1 k) (by rw [dnS, ev]) (by omega) _ _ (zP_sub hP [3, 0, 1, 2] rfl) (hD.sub [3, 0, 1, 2] rfl rfl) hS ls (lv_sub hl [0, 1, 2, 3] rfl)
    exact lp22 ((D - 0) + 1) 0 0 0 (Nat.zero_le D) rfl (by rw [dnS]) (Nat.lt_succ_self _) _ _ (zP_sub hP [0, 1, 2, 3] rfl) (hD.sub [0, 1, 2, 3] rfl rfl) hS ls (lv_sub hl [0, 1, 2, 3] rfl)
  · have c8 := b01_f c8
    refine lv_ldc hx hb hown (hts (.constant RX9 53 (-1000001)) (List.mem_of_getElem? (i := 1) rfl)) dX9_timeOf_11 ?_
    exact zEi (v := (-1000001)) (ws' := [(m0, oB 9 [.ref m1, .ref m2, .ref m3, .ref m4, .int ps, .int rn, .ref m5, .int ty, .ref m6, .ref m7, .int la, .int mn, .int ma, .int sn, .int so, .int ca, .int cm, .int kd, .ref m8]), (m1, aI g 63 S), (m6, aI g 201 fi), (m7, aI g 201 fq)]) hx hb hlocks hr rfl hK hP hD hS [0, 1, 2, 3] rfl rfl (if_neg c8).symm (by simp only [if_neg c8]) dX9_timeOf_13
