/-! the law: its loop -/
set_option maxHeartbeats 8000000 in
set_option maxRecDepth 100000 in
theorem law_loop (l : Launch) (g : G3) (pg : Program) (ev : Env) (sx : State) (mi : MethodId) (args : Array Value) (below : List Frame) (meth : Method) (cd : Code) (A : Nat → Prop) (Q : State → Prop) (bz L : Nat) (xs : Nat → Int32) (x0 e0 f0 g0 a0 a1 a2 a3 a4 a5 a6 a7 t0 t1 t2 t3 t4 t5 t6 t7 h0 h1 f1 b0 b1 b2 b3 b4 m0 m1 m2 m3 m4 m5 m6 m7 m8 : Nat) (CC : LC pg sx mi args cd A g bz L xs) (hQ : ∀ (H : Heap) (locs : List Loc) (ls : Array Slot), va_S A sx.heap H locs → W pg l ev room_1 sx mi args below meth cd H locs 600000 7302250 Q (F0 mi 740 ls [.int 1])) : ∀ fu, LH l g pg ev sx mi args below meth cd A Q bz L xs x0 e0 f0 g0 a0 a1 a2 a3 a4 a5 a6 a7 t0 t1 t2 t3 t4 t5 t6 t7 h0 h1 f1 b0 b1 b2 b3 b4 m0 m1 m2 m3 m4 m5 m6 m7 m8 fu := by
  intro fu
  induction fu with
  | zero =>
    intro j ad R ps S T n p kd se nu tx dn po rs ca la fi fq fp fs yla ymn yma ysn yso yca ycm ykd pf yhf ytf yfi yfq ynf HI hmu
    exact absurd hmu (Nat.not_lt_zero _)
  | succ fu ih =>
    intro j ad R ps S T n p kd se nu tx dn po rs ca la fi fq fp fs yla ymn yma ysn yso yca ycm ykd pf yhf ytf yfi yfq ynf HI hmu H locs hP hD hS ls hl
    have CC2 := CC
    obtain ⟨hx, hb, hml, hown, hts, hA, hE, hK, hX, hbl, hbA, hL⟩ := CC2
    have HI2 := HI
    obtain ⟨hj, hps, hn, hJ, hR, hpf⟩ := HI2
    refine lv_iload_n hx hb dL_law_18 rfl (lv_at hl 0 rfl) ?_
    refine lv_aload_n hx hb dL_law_19 rfl (lv_at hl 3 rfl) ?_
    refine va_slen hx hb hX hbl hbA hS dL_law_20 ?_
    refine lv_iconst (v := 4) hx hb dL_law_21 (by decide +kernel) ?_
    refine lv_isub hx hb dL_law_22 ?_
    refine lv_icmp_gt (tgt := 739) hx hb dL_law_23 (by decide) (fun c23 => ?_) (fun c23 => ?_)
    · refine lv_iconst (v := 1) hx hb dL_law_739 (by decide +kernel) ?_
      exact hQ _ _ _ hS
    · have hj4 := lp_4 hL hj c23
      refine lv_aload_n hx hb dL_law_26 rfl (lv_at hl 3 rfl) ?_
      refine lv_iload_n hx hb dL_law_27 rfl (lv_at hl 0 rfl) ?_
      refine zsld (j) hx hb hX hbl hbA hS (IX.of rfl (by omega) (by omega)) dL_law_28 ?_
      refine lv_bipush (v := 31) hx hb dL_law_29 (by decide +kernel) ?_
      refine lv_iand hx hb dL_law_31 ?_
      by_cases sw0 : (xs j) &&& 31 = 0
      · refine lv_tableIn (off := 116) (tgt := 148) hx hb dL_law_32 (by rw [sw0]; decide +kernel) (by rw [sw0]; decide +kernel) (by rw [sw0]; rfl) (by decide) ?_
        exact law_0 l g pg ev sx mi args below meth cd A Q bz L xs x0 e0 f0 g0 a0 a1 a2 a3 a4 a5 a6 a7 t0 t1 t2 t3 t4 t5 t6 t7 h0 h1 f1 b0 b1 b2 b3 b4 m0 m1 m2 m3 m4 m5 m6 m7 m8 CC fu ih j ad R ps S T n p kd se nu tx dn po rs ca la fi fq fp fs yla ymn yma ysn yso yca ycm ykd pf yhf ytf yfi yfq ynf HI hmu hj4 H locs hP hD hS ls hl
      by_cases sw1 : (xs j) &&& 31 = 1
      · refine lv_tableIn (off := 149) (tgt := 181) hx hb dL_law_32 (by rw [sw1]; decide +kernel) (by rw [sw1]; decide +kernel) (by rw [sw1]; rfl) (by decide) ?_
        exact law_1 l g pg ev sx mi args below meth cd A Q bz L xs x0 e0 f0 g0 a0 a1 a2 a3 a4 a5 a6 a7 t0 t1 t2 t3 t4 t5 t6 t7 h0 h1 f1 b0 b1 b2 b3 b4 m0 m1 m2 m3 m4 m5 m6 m7 m8 CC fu ih j ad R ps S T n p kd se nu tx dn po rs ca la fi fq fp fs yla ymn yma ysn yso yca ycm ykd pf yhf ytf yfi yfq ynf HI hmu hj4 H locs hP hD hS ls hl
      by_cases sw2 : (xs j) &&& 31 = 2
      · refine lv_tableIn (off := 182) (tgt := 214) hx hb dL_law_32 (by rw [sw2]; decide +kernel) (by rw [sw2]; decide +kernel) (by rw [sw2]; rfl) (by decide) ?_
        exact law_2 l g pg ev sx mi args below meth cd A Q bz L xs x0 e0 f0 g0 a0 a1 a2 a3 a4 a5 a6 a7 t0 t1 t2 t3 t4 t5 t6 t7 h0 h1 f1 b0 b1 b2 b3 b4 m0 m1 m2 m3 m4 m5 m6 m7 m8 CC fu ih j ad R ps S T n p kd se nu tx dn po rs ca la fi fq fp fs yla ymn yma ysn yso yca ycm ykd pf yhf ytf yfi yfq ynf HI hmu hj4 H locs hP hD hS ls hl
      by_cases sw3 : (xs j) &&& 31 = 3
      · refine lv_tableIn (off := 225) (tgt := 257) hx hb dL_law_32 (by rw [sw3]; decide +kernel) (by rw [sw3]; decide +kernel) (by rw [sw3]; rfl) (by decide) ?_
        exact law_3 l g pg ev sx mi args below meth cd A Q bz L xs x0 e0 f0 g0 a0 a1 a2 a3 a4 a5 a6 a7 t0 t1 t2 t3 t4 t5 t6 t7 h0 h1 f1 b0 b1 b2 b3 b4 m0 m1 m2 m3 m4 m5 m6 m7 m8 CC fu ih j ad R ps S T n p kd se nu tx dn po rs ca la fi fq fp fs yla ymn yma ysn yso yca ycm ykd pf yhf ytf yfi yfq ynf HI hmu hj4 H locs hP hD hS ls hl
      by_cases sw4 : (xs j) &&& 31 = 4
      · refine lv_tableIn (off := 248) (tgt := 280) hx hb dL_law_32 (by rw [sw4]; decide +kernel) (by rw [sw4]; decide +kernel) (by rw [sw4]; rfl) (by decide) ?_
        exact law_4 l g pg ev sx mi args below meth cd A Q bz L xs x0 e0 f0 g0 a0 a1 a2 a3 a4 a5 a6 a7 t0 t1 t2 t3 t4 t5 t6 t7 h0 h1 f1 b0 b1 b2 b3 b4 m0 m1 m2 m3 m4 m5 m6 m7 m8 CC fu ih j ad R ps S T n p kd se nu tx dn po rs ca la fi fq fp fs yla ymn yma ysn yso yca ycm ykd pf yhf ytf yfi yfq ynf HI hmu hj4 H locs hP hD hS ls hl
      by_cases sw5 : (xs j) &&& 31 = 5
      · refine lv_tableIn (off := 281) (tgt := 313) hx hb dL_law_32 (by rw [sw5]; decide +kernel) (by rw [sw5]; decide +kernel) (by rw [sw5]; rfl) (by decide) ?_
        exact law_5 l g pg ev sx mi args below meth cd A Q bz L xs x0 e0 f0 g0 a0 a1 a2 a3 a4 a5 a6 a7 t0 t1 t2 t3 t4 t5 t6 t7 h0 h1 f1 b0 b1 b2 b3 b4 m0 m1 m2 m3 m4 m5 m6 m7 m8 CC fu ih j ad R ps S T n p kd se nu tx dn po rs ca la fi fq fp fs yla ymn yma ysn yso yca ycm ykd pf yhf ytf yfi yfq ynf HI hmu hj4 H locs hP hD hS ls hl
      by_cases sw6 : (xs j) &&& 31 = 6
      · refine lv_tableIn (off := 304) (tgt := 336) hx hb dL_law_32 (by rw [sw6]; decide +kernel) (by rw [sw6]; decide +kernel) (by rw [sw6]; rfl) (by decide) ?_
        exact law_6 l g pg ev sx mi args below meth cd A Q bz L xs x0 e0 f0 g0 a0 a1 a2 a3 a4 a5 a6 a7 t0 t1 t2 t3 t4 t5 t6 t7 h0 h1 f1 b0 b1 b2 b3 b4 m0 m1 m2 m3 m4 m5 m6 m7 m8 CC fu ih j ad R ps S T n p kd se nu tx dn po rs ca la fi fq fp fs yla ymn yma ysn yso yca ycm ykd pf yhf ytf yfi yfq ynf HI hmu hj4 H locs hP hD hS ls hl
      by_cases sw7 : (xs j) &&& 31 = 7
      · refine lv_tableIn (off := 337) (tgt := 369) hx hb dL_law_32 (by rw [sw7]; decide +kernel) (by rw [sw7]; decide +kernel) (by rw [sw7]; rfl) (by decide) ?_
        exact law_7 l g pg ev sx mi args below meth cd A Q bz L xs x0 e0 f0 g0 a0 a1 a2 a3 a4 a5 a6 a7 t0 t1 t2 t3 t4 t5 t6 t7 h0 h1 f1 b0 b1 b2 b3 b4 m0 m1 m2 m3 m4 m5 m6 m7 m8 CC fu ih j ad R ps S T n p kd se nu tx dn po rs ca la fi fq fp fs yla ymn yma ysn yso yca ycm ykd pf yhf ytf yfi yfq ynf HI hmu hj4 H locs hP hD hS ls hl
      by_cases sw8 : (xs j) &&& 31 = 8
      · refine lv_tableIn (off := 350) (tgt := 382) hx hb dL_law_32 (by rw [sw8]; decide +kernel) (by rw [sw8]; decide +kernel) (by rw [sw8]; rfl) (by decide) ?_
        exact law_8 l g pg ev sx mi args below meth cd A Q bz L xs x0 e0 f0 g0 a0 a1 a2 a3 a4 a5 a6 a7 t0 t1 t2 t3 t4 t5 t6 t7 h0 h1 f1 b0 b1 b2 b3 b4 m0 m1 m2 m3 m4 m5 m6 m7 m8 CC fu ih j ad R ps S T n p kd se nu tx dn po rs ca la fi fq fp fs yla ymn yma ysn yso yca ycm ykd pf yhf ytf yfi yfq ynf HI hmu hj4 H locs hP hD hS ls hl
      by_cases sw9 : (xs j) &&& 31 = 9
      · refine lv_tableIn (off := 373) (tgt := 405) hx hb dL_law_32 (by rw [sw9]; decide +kernel) (by rw [sw9]; decide +kernel) (by rw [sw9]; rfl) (by decide) ?_
        exact law_9 l g pg ev sx mi args below meth cd A Q bz L xs x0 e0 f0 g0 a0 a1 a2 a3 a4 a5 a6 a7 t0 t1 t2 t3 t4 t5 t6 t7 h0 h1 f1 b0 b1 b2 b3 b4 m0 m1 m2 m3 m4 m5 m6 m7 m8 CC fu ih j ad R ps S T n p kd se nu tx dn po rs ca la fi fq fp fs yla ymn yma ysn yso yca ycm ykd pf yhf ytf yfi yfq ynf HI hmu hj4 H locs hP hD hS ls hl
      by_cases sw10 : (xs j) &&& 31 = 10
      · refine lv_tableIn (off := 396) (tgt := 428) hx hb dL_law_32 (by rw [sw10]; decide +kernel) (by rw [sw10]; decide +kernel) (by rw [sw10]; rfl) (by decide) ?_
        exact law_10 l g pg ev sx mi args below meth cd A Q bz L xs x0 e0 f0 g0 a0 a1 a2 a3 a4 a5 a6 a7 t0 t1 t2 t3 t4 t5 t6 t7 h0 h1 f1 b0 b1 b2 b3 b4 m0 m1 m2 m3 m4 m5 m6 m7 m8 CC fu ih j ad R ps S T n p kd se nu tx dn po rs ca la fi fq fp fs yla ymn yma ysn yso yca ycm ykd pf yhf ytf yfi yfq ynf HI hmu hj4 H locs hP hD hS ls hl
      by_cases sw11 : (xs j) &&& 31 = 11
      · refine lv_tableIn (off := 419) (tgt := 451) hx hb dL_law_32 (by rw [sw11]; decide +kernel) (by rw [sw11]; decide +kernel) (by rw [sw11]; rfl) (by decide) ?_
        exact law_11 l g pg ev sx mi args below meth cd A Q bz L xs x0 e0 f0 g0 a0 a1 a2 a3 a4 a5 a6 a7 t0 t1 t2 t3 t4 t5 t6 t7 h0 h1 f1 b0 b1 b2 b3 b4 m0 m1 m2 m3 m4 m5 m6 m7 m8 CC fu ih j ad R ps S T n p kd se nu tx dn po rs ca la fi fq fp fs yla ymn yma ysn yso yca ycm ykd pf yhf ytf yfi yfq ynf HI hmu hj4 H locs hP hD hS ls hl
      by_cases sw12 : (xs j) &&& 31 = 12
      · refine lv_tableIn (off := 432) (tgt := 464) hx hb dL_law_32 (by rw [sw12]; decide +kernel) (by rw [sw12]; decide +kernel) (by rw [sw12]; rfl) (by decide) ?_
        exact law_12 l g pg ev sx mi args below meth cd A Q bz L xs x0 e0 f0 g0 a0 a1 a2 a3 a4 a5 a6 a7 t0 t1 t2 t3 t4 t5 t6 t7 h0 h1 f1 b0 b1 b2 b3 b4 m0 m1 m2 m3 m4 m5 m6 m7 m8 CC fu ih j ad R ps S T n p kd se nu tx dn po rs ca la fi fq fp fs yla ymn yma ysn yso yca ycm ykd pf yhf ytf yfi yfq ynf HI hmu hj4 H locs hP hD hS ls hl
      by_cases sw13 : (xs j) &&& 31 = 13
      · refine lv_tableIn (off := 445) (tgt := 477) hx hb dL_law_32 (by rw [sw13]; decide +kernel) (by rw [sw13]; decide +kernel) (by rw [sw13]; rfl) (by decide) ?_
        exact law_13 l g pg ev sx mi args below meth cd A Q bz L xs x0 e0 f0 g0 a0 a1 a2 a3 a4 a5 a6 a7 t0 t1 t2 t3 t4 t5 t6 t7 h0 h1 f1 b0 b1 b2 b3 b4 m0 m1 m2 m3 m4 m5 m6 m7 m8 CC fu ih j ad R ps S T n p kd se nu tx dn po rs ca la fi fq fp fs yla ymn yma ysn yso yca ycm ykd pf yhf ytf yfi yfq ynf HI hmu hj4 H locs hP hD hS ls hl
      by_cases sw14 : (xs j) &&& 31 = 14
      · refine lv_tableIn (off := 468) (tgt := 500) hx hb dL_law_32 (by rw [sw14]; decide +kernel) (by rw [sw14]; decide +kernel) (by rw [sw14]; rfl) (by decide) ?_
        exact law_14 l g pg ev sx mi args below meth cd A Q bz L xs x0 e0 f0 g0 a0 a1 a2 a3 a4 a5 a6 a7 t0 t1 t2 t3 t4 t5 t6 t7 h0 h1 f1 b0 b1 b2 b3 b4 m0 m1 m2 m3 m4 m5 m6 m7 m8 CC fu ih j ad R ps S T n p kd se nu tx dn po rs ca la fi fq fp fs yla ymn yma ysn yso yca ycm ykd pf yhf ytf yfi yfq ynf HI hmu hj4 H locs hP hD hS ls hl
      by_cases sw15 : (xs j) &&& 31 = 15
      · refine lv_tableIn (off := 501) (tgt := 533) hx hb dL_law_32 (by rw [sw15]; decide +kernel) (by rw [sw15]; decide +kernel) (by rw [sw15]; rfl) (by decide) ?_
        exact law_15 l g pg ev sx mi args below meth cd A Q bz L xs x0 e0 f0 g0 a0 a1 a2 a3 a4 a5 a6 a7 t0 t1 t2 t3 t4 t5 t6 t7 h0 h1 f1 b0 b1 b2 b3 b4 m0 m1 m2 m3 m4 m5 m6 m7 m8 CC fu ih j ad R ps S T n p kd se nu tx dn po rs ca la fi fq fp fs yla ymn yma ysn yso yca ycm ykd pf yhf ytf yfi yfq ynf HI hmu hj4 H locs hP hD hS ls hl
      by_cases sw16 : (xs j) &&& 31 = 16
      · refine lv_tableIn (off := 524) (tgt := 556) hx hb dL_law_32 (by rw [sw16]; decide +kernel) (by rw [sw16]; decide +kernel) (by rw [sw16]; rfl) (by decide) ?_
        exact law_16 l g pg ev sx mi args below meth cd A Q bz L xs x0 e0 f0 g0 a0 a1 a2 a3 a4 a5 a6 a7 t0 t1 t2 t3 t4 t5 t6 t7 h0 h1 f1 b0 b1 b2 b3 b4 m0 m1 m2 m3 m4 m5 m6 m7 m8 CC fu ih j ad R ps S T n p kd se nu tx dn po rs ca la fi fq fp fs yla ymn yma ysn yso yca ycm ykd pf yhf ytf yfi yfq ynf HI hmu hj4 H locs hP hD hS ls hl
      by_cases sw17 : (xs j) &&& 31 = 17
      · refine lv_tableIn (off := 547) (tgt := 579) hx hb dL_law_32 (by rw [sw17]; decide +kernel) (by rw [sw17]; decide +kernel) (by rw [sw17]; rfl) (by decide) ?_
        exact law_17 l g pg ev sx mi args below meth cd A Q bz L xs x0 e0 f0 g0 a0 a1 a2 a3 a4 a5 a6 a7 t0 t1 t2 t3 t4 t5 t6 t7 h0 h1 f1 b0 b1 b2 b3 b4 m0 m1 m2 m3 m4 m5 m6 m7 m8 CC fu ih j ad R ps S T n p kd se nu tx dn po rs ca la fi fq fp fs yla ymn yma ysn yso yca ycm ykd pf yhf ytf yfi yfq ynf HI hmu hj4 H locs hP hD hS ls hl
      by_cases sw18 : (xs j) &&& 31 = 18
      · refine lv_tableIn (off := 570) (tgt := 602) hx hb dL_law_32 (by rw [sw18]; decide +kernel) (by rw [sw18]; decide +kernel) (by rw [sw18]; rfl) (by decide) ?_
        exact law_18 l g pg ev sx mi args below meth cd A Q bz L xs x0 e0 f0 g0 a0 a1 a2 a3 a4 a5 a6 a7 t0 t1 t2 t3 t4 t5 t6 t7 h0 h1 f1 b0 b1 b2 b3 b4 m0 m1 m2 m3 m4 m5 m6 m7 m8 CC fu ih j ad R ps S T n p kd se nu tx dn po rs ca la fi fq fp fs yla ymn yma ysn yso yca ycm ykd pf yhf ytf yfi yfq ynf HI hmu hj4 H locs hP hD hS ls hl
      by_cases sw19 : (xs j) &&& 31 = 19
      · refine lv_tableIn (off := 593) (tgt := 625) hx hb dL_law_32 (by rw [sw19]; decide +kernel) (by rw [sw19]; decide +kernel) (by rw [sw19]; rfl) (by decide) ?_
        exact law_19 l g pg ev sx mi args below meth cd A Q bz L xs x0 e0 f0 g0 a0 a1 a2 a3 a4 a5 a6 a7 t0 t1 t2 t3 t4 t5 t6 t7 h0 h1 f1 b0 b1 b2 b3 b4 m0 m1 m2 m3 m4 m5 m6 m7 m8 CC fu ih j ad R ps S T n p kd se nu tx dn po rs ca la fi fq fp fs yla ymn yma ysn yso yca ycm ykd pf yhf ytf yfi yfq ynf HI hmu hj4 H locs hP hD hS ls hl
      by_cases sw20 : (xs j) &&& 31 = 20
      · refine lv_tableIn (off := 616) (tgt := 648) hx hb dL_law_32 (by rw [sw20]; decide +kernel) (by rw [sw20]; decide +kernel) (by rw [sw20]; rfl) (by decide) ?_
        exact law_20 l g pg ev sx mi args below meth cd A Q bz L xs x0 e0 f0 g0 a0 a1 a2 a3 a4 a5 a6 a7 t0 t1 t2 t3 t4 t5 t6 t7 h0 h1 f1 b0 b1 b2 b3 b4 m0 m1 m2 m3 m4 m5 m6 m7 m8 CC fu ih j ad R ps S T n p kd se nu tx dn po rs ca la fi fq fp fs yla ymn yma ysn yso yca ycm ykd pf yhf ytf yfi yfq ynf HI hmu hj4 H locs hP hD hS ls hl
      by_cases sw21 : (xs j) &&& 31 = 21
      · refine lv_tableIn (off := 629) (tgt := 661) hx hb dL_law_32 (by rw [sw21]; decide +kernel) (by rw [sw21]; decide +kernel) (by rw [sw21]; rfl) (by decide) ?_
        exact law_21 l g pg ev sx mi args below meth cd A Q bz L xs x0 e0 f0 g0 a0 a1 a2 a3 a4 a5 a6 a7 t0 t1 t2 t3 t4 t5 t6 t7 h0 h1 f1 b0 b1 b2 b3 b4 m0 m1 m2 m3 m4 m5 m6 m7 m8 CC fu ih j ad R ps S T n p kd se nu tx dn po rs ca la fi fq fp fs yla ymn yma ysn yso yca ycm ykd pf yhf ytf yfi yfq ynf HI hmu hj4 H locs hP hD hS ls hl
      by_cases sw22 : (xs j) &&& 31 = 22
      · refine lv_tableIn (off := 652) (tgt := 684) hx hb dL_law_32 (by rw [sw22]; decide +kernel) (by rw [sw22]; decide +kernel) (by rw [sw22]; rfl) (by decide) ?_
        exact law_22 l g pg ev sx mi args below meth cd A Q bz L xs x0 e0 f0 g0 a0 a1 a2 a3 a4 a5 a6 a7 t0 t1 t2 t3 t4 t5 t6 t7 h0 h1 f1 b0 b1 b2 b3 b4 m0 m1 m2 m3 m4 m5 m6 m7 m8 CC fu ih j ad R ps S T n p kd se nu tx dn po rs ca la fi fq fp fs yla ymn yma ysn yso yca ycm ykd pf yhf ytf yfi yfq ynf HI hmu hj4 H locs hP hD hS ls hl
      by_cases sw23 : (xs j) &&& 31 = 23
      · refine lv_tableIn (off := 665) (tgt := 697) hx hb dL_law_32 (by rw [sw23]; decide +kernel) (by rw [sw23]; decide +kernel) (by rw [sw23]; rfl) (by decide) ?_
        exact law_23 l g pg ev sx mi args below meth cd A Q bz L xs x0 e0 f0 g0 a0 a1 a2 a3 a4 a5 a6 a7 t0 t1 t2 t3 t4 t5 t6 t7 h0 h1 f1 b0 b1 b2 b3 b4 m0 m1 m2 m3 m4 m5 m6 m7 m8 CC fu ih j ad R ps S T n p kd se nu tx dn po rs ca la fi fq fp fs yla ymn yma ysn yso yca ycm ykd pf yhf ytf yfi yfq ynf HI hmu hj4 H locs hP hD hS ls hl
      by_cases sw24 : (xs j) &&& 31 = 24
      · refine lv_tableIn (off := 688) (tgt := 720) hx hb dL_law_32 (by rw [sw24]; decide +kernel) (by rw [sw24]; decide +kernel) (by rw [sw24]; rfl) (by decide) ?_
        exact law_24 l g pg ev sx mi args below meth cd A Q bz L xs x0 e0 f0 g0 a0 a1 a2 a3 a4 a5 a6 a7 t0 t1 t2 t3 t4 t5 t6 t7 h0 h1 f1 b0 b1 b2 b3 b4 m0 m1 m2 m3 m4 m5 m6 m7 m8 CC fu ih j ad R ps S T n p kd se nu tx dn po rs ca la fi fq fp fs yla ymn yma ysn yso yca ycm ykd pf yhf ytf yfi yfq ynf HI hmu hj4 H locs hP hD hS ls hl
      refine lv_tableOut (tgt := 733) hx hb dL_law_32 (by have := sw_out (x := (xs j) &&& 31) (n := 25) (by decide) (by intro k hk; match k, hk with | 0, _ => exact sw0 | 1, _ => exact sw1 | 2, _ => exact sw2 | 3, _ => exact sw3 | 4, _ => exact sw4 | 5, _ => exact sw5 | 6, _ => exact sw6 | 7, _ => exact sw7 | 8, _ => exact sw8 | 9, _ => exact sw9 | 10, _ => exact sw10 | 11, _ => exact sw11 | 12, _ => exact sw12 | 13, _ => exact sw13 | 14, _ => exact sw14 | 15, _ => exact sw15 | 16, _ => exact sw16 | 17, _ => exact sw17 | 18, _ => exact sw18 | 19, _ => exact sw19 | 20, _ => exact sw20 | 21, _ => exact sw21 | 22, _ => exact sw22 | 23, _ => exact sw23 | 24, _ => exact sw24 | k + 25, hk => exact absurd hk (by omega)); omega) (by decide) ?_
      refine lv_iinc (v := (nI j) + 4) (lv' := [(3, .int ((nI j) + 4)), (2, .ref m0), (1, .ref x0), (0, .ref bz)]) hx hb dL_law_733 hl (k := 0) rfl (by rfl) (by decide) rfl (fun ls hl => ?_)
      have hl : lv_has ls 4 [(3, .int (nI (j + 4))), (2, .ref m0), (1, .ref x0), (0, .ref bz)] := by rw [← nI_add j 4]; exact hl
      refine lv_goto (tgt := 18) hx hb dL_law_736 (by decide) ?_
      exact ih (j + 4) ad R ps S T n p kd se nu tx dn po rs ca la fi fq fp fs yla ymn yma ysn yso yca ycm ykd pf yhf ytf yfi yfq ynf ⟨(by omega), hps, hn, hJ, hR, hpf⟩ (by omega) _ _ hP hD hS ls hl
