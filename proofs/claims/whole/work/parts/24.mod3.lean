set_option maxHeartbeats 4000000 in
set_option maxRecDepth 100000 in
theorem r_changes (l : Launch) (g : G3) (m0 m1 m2 m3 m4 m5 m6 m7 m8 : Nat) (ps rn ty la mn ma sn so ca cm kd : Int32) (S pf : Nat → Int32) (hps : 0 ≤ ps.toInt ∧ ps.toInt ≤ 4) : MV l yX9_changes wsX9_changes (rk 0 0) g [.ref m0] [(m0, oB 9 [.ref m1, .ref m2, .ref m3, .ref m4, .int ps, .int rn, .ref m5, .int ty, .ref m6, .ref m7, .int la, .int mn, .int ma, .int sn, .int so, .int ca, .int cm, .int kd, .ref m8]), (m1, aI g 63 S), (m2, aI g 252 pf)] [(m0, oB 9 [.ref m1, .ref m2, .ref m3, .ref m4, .int (psF rn ps), .int rn, .ref m5, .int ty, .ref m6, .ref m7, .int la, .int mn, .int ma, .int sn, .int so, .int ca, .int cm, .int kd, .ref m8]), (m1, aI g 63 S), (m2, aI g 252 (pfF rn ps pf S))] := by
  refine zWalk.met (Qc := fun A => zQv g [(m0, oB 9 [.ref m1, .ref m2, .ref m3, .ref m4, .int (psF rn ps), .int rn, .ref m5, .int ty, .ref m6, .ref m7, .int la, .int mn, .int ma, .int sn, .int so, .int ca, .int cm, .int kd, .ref m8]), (m1, aI g 63 S), (m2, aI g 252 (pfF rn ps pf S))] A) (cc := cX9_changes) (maxL := 2) (ret := none) ?_ (by decide) rfl (Nat.le_of_ble_eq_true rfl)
  intro pg ev sx mi args below meth cd A H locs ls hx hb hr hml hown hts hlocks hA hE hK hP hD hS hl
  have iX9 : ∀ w ∈ u_ws RX9 TX9 19, w ∈ wsX9_changes := (fun _ h => (List.mem_cons_of_mem _ (List.mem_append_right _ h)))
  have hl : lv_has ls 2 [(0, .ref m0)] := hl
  refine lv_aload_n hx hb dX9_changes_0 rfl (lv_at hl 0 rfl) ?_
  refine va_get (D := g.1) (ci := 9) (v := .int rn) (C := RX9) (T := TX9) (N := 19) hx hb hts iX9 hown hK hP 0 rfl rfl 5 (by decide) (hts (.fieldLink RX9 34 "StepAxisModel" "runs" "Z") (List.mem_of_getElem? (i := 1) rfl)) (fun _ h9 => h9) rfl dX9_changes_1 ?_
  refine lv_if_eq (tgt := 8) hx hb dX9_changes_4 (by decide) (fun c4 => ?_) (fun c4 => ?_)
  · refine lv_aload_n hx hb dX9_changes_8 rfl (lv_at hl 0 rfl) ?_
    refine va_get (D := g.1) (ci := 9) (v := .int ps) (C := RX9) (T := TX9) (N := 19) hx hb hts iX9 hown hK hP 0 rfl rfl 4 (by decide) (hts (.fieldLink RX9 38 "StepAxisModel" "pasts" "I") (List.mem_of_getElem? (i := 2) rfl)) (fun _ h9 => h9) rfl dX9_changes_9 ?_
    refine lv_iconst (v := 4) hx hb dX9_changes_12 (by decide +kernel) ?_
    refine lv_icmp_ne (tgt := 56) hx hb dX9_changes_13 (by decide) (fun c13 => ?_) (fun c13 => ?_)
    · refine lv_iconst (v := 0) hx hb dX9_changes_56 (by decide +kernel) ?_
      refine lv_istore_n (lv' := [(1, .int 0), (0, .ref m0)]) hx hb dX9_changes_57 rfl hl (by decide) rfl (fun ls hl => ?_)
      obtain ⟨qf, hqf⟩ : ∃ qf, qf = pf := ⟨_, rfl⟩
      obtain ⟨q, hq⟩ : ∃ q : Nat, q = ps.toInt.toNat := ⟨_, rfl⟩
      have hq3 : q ≤ 3 := by rw [hq]; have e := i4; have h : ps.toInt ≠ 4 := fun h => c13 ((zeq _ _).mpr (h.trans e.symm)); omega
      have eq0 : ps = nI q := by rw [hq]; exact zof hps.1
      have hqq : (if ps = 4 then puF (shF pf 189) S 3 63 else puF pf S ps.toInt.toNat 63) = puF qf S q 63 := by rw [if_neg c13, hqf, hq]
      have hps1 : (if ps = 4 then (4 : Int32) else ps + 1) = nI (q + 1) := by rw [if_neg c13, eq0, nI_1]
      rw [show pf = qf from hqf.symm] at hP hD
      have eF : ps = nI q := eq0
      rw [eF] at hP hD
      have hP : va_P g.1 vwCl [(m0, oB 9 [.ref m1, .ref m2, .ref m3, .ref m4, .int (nI q), .int rn, .ref m5, .int ty, .ref m6, .ref m7, .int la, .int mn, .int ma, .int sn, .int so, .int ca, .int cm, .int kd, .ref m8]), (m1, aI g 63 S), (m2, aI g 252 qf)] H := hP
      have hD : va_D A [(m0, oB 9 [.ref m1, .ref m2, .ref m3, .ref m4, .int (nI q), .int rn, .ref m5, .int ty, .ref m6, .ref m7, .int la, .int mn, .int ma, .int sn, .int so, .int ca, .int cm, .int kd, .ref m8]), (m1, aI g 63 S), (m2, aI g 252 qf)] := hD
      rw [show qf = puF qf S q 0 from (puF_0 qf S q).symm] at hP hD
      have lp58 : ∀ (fu : Nat) (z : Nat) (i : Int32), (z ≤ 63) → (i = nI z) → (63 - z) < fu → ∀ (H : Heap) (locs : List Loc), va_P g.1 vwCl [(m0, oB 9 [.ref m1, .ref m2, .ref m3, .ref m4, .int (nI q), .int rn, .ref m5, .int ty, .ref m6, .ref m7, .int la, .int mn, .int ma, .int sn, .int so, .int ca, .int cm, .int kd, .ref m8]), (m1, aI g 63 S), (m2, aI g 252 (puF qf S q z))] H → va_D A [(m0, oB 9 [.ref m1, .ref m2, .ref m3, .ref m4, .int (nI q), .int rn, .ref m5, .int ty, .ref m6, .ref m7, .int la, .int mn, .int ma, .int sn, .int so, .int ca, .int cm, .int kd, .ref m8]), (m1, aI g 63 S), (m2, aI g 252 (puF qf S q z))] → va_S A sx.heap H locs → ∀ (ls : Array Slot), lv_has ls 2 [(1, .int i), (0, .ref m0)] → W pg l ev (rk 0 0) sx mi args below meth cd H locs 0 0 (MQ below (zQv g [(m0, oB 9 [.ref m1, .ref m2, .ref m3, .ref m4, .int (psF rn ps), .int rn, .ref m5, .int ty, .ref m6, .ref m7, .int la, .int mn, .int ma, .int sn, .int so, .int ca, .int cm, .int kd, .ref m8]), (m1, aI g 63 S), (m2, aI g 252 (pfF rn ps pf S))] A) args sx 0 0 A) (F0 mi 58 ls []) := by
        intro fu
        induction fu with
        | zero =>
          intro z i hz ei hmu
          exact absurd hmu (Nat.not_lt_zero _)
        | succ fu ih =>
          intro z i hz ei hmu H locs hP hD hS ls hl
          refine lv_iload_n hx hb dX9_changes_58 rfl (lv_at hl 0 rfl) ?_
          refine lv_bipush (v := 63) hx hb dX9_changes_59 (by decide +kernel) ?_
          refine lv_icmp_ge (tgt := 90) hx hb dX9_changes_61 (by decide) (fun c61 => ?_) (fun c61 => ?_)
          · have hzn : z = 63 := Nat.le_antisymm hz (nle_of (by decide) (by omega) (by rw [ei] at c61; exact c61))
            rw [hzn] at hP hD
            refine lv_aload_n hx hb dX9_changes_90 rfl (lv_at hl 1 rfl) ?_
            refine lv_dup hx hb dX9_changes_91 rfl ?_
            refine va_get (D := g.1) (ci := 9) (v := .int (nI q)) (C := RX9) (T := TX9) (N := 19) hx hb hts iX9 hown hK hP 0 rfl rfl 4 (by decide) (hts (.fieldLink RX9 38 "StepAxisModel" "pasts" "I") (List.mem_of_getElem? (i := 2) rfl)) (fun _ h9 => h9) rfl dX9_changes_92 ?_
            refine lv_iconst (v := 1) hx hb dX9_changes_95 (by decide +kernel) ?_
            refine lv_iadd hx hb dX9_changes_96 ?_
            refine va_put (D := g.1) (ci := 9) (v := .int ((nI q) + 1)) (ty := .int) (C := RX9) (T := TX9) (N := 19) hx hb hts iX9 tyX9 tyX9_ok nmX9 hown hK hP hD hS 0 rfl rfl 4 (by decide) (hts (.fieldLink RX9 38 "StepAxisModel" "pasts" "I") (List.mem_of_getElem? (i := 2) rfl)) (fun _ h9 => h9) rfl (by decide +kernel) rfl rfl (Nat.le_of_ble_eq_true rfl) dX9_changes_97 (fun H locs hP hD hS => ?_)
            have hP : va_P g.1 vwCl [(m0, oB 9 [.ref m1, .ref m2, .ref m3, .ref m4, .int ((nI q) + 1), .int rn, .ref m5, .int ty, .ref m6, .ref m7, .int la, .int mn, .int ma, .int sn, .int so, .int ca, .int cm, .int kd, .ref m8]), (m1, aI g 63 S), (m2, aI g 252 (puF qf S q 63))] H := hP
            have hD : va_D A [(m0, oB 9 [.ref m1, .ref m2, .ref m3, .ref m4, .int ((nI q) + 1), .int rn, .ref m5, .int ty, .ref m6, .ref m7, .int la, .int mn, .int ma, .int sn, .int so, .int ca, .int cm, .int kd, .ref m8]), (m1, aI g 63 S), (m2, aI g 252 (puF qf S q 63))] := hD
            exact zEv (ws' := [(m0, oB 9 [.ref m1, .ref m2, .ref m3, .ref m4, .int ((nI q) + 1), .int rn, .ref m5, .int ty, .ref m6, .ref m7, .int la, .int mn, .int ma, .int sn, .int so, .int ca, .int cm, .int kd, .ref m8]), (m1, aI g 63 S), (m2, aI g 252 (puF qf S q 63))]) hx hb hlocks hr hK hP hD hS [0, 1, 2] rfl rfl (by rw [show psF rn ps = nI (q + 1) from (if_pos c4).trans hps1, show pfF rn ps pf S = puF qf S q 63 from (if_pos c4).trans hqq, ← nI_1]) dX9_changes_100
          · have hlt : z < 63 := nlt_of (by decide) (by rw [ei] at c61; exact c61)
            refine lv_aload_n hx hb dX9_changes_64 rfl (lv_at hl 1 rfl) ?_
            refine va_get (D := g.1) (ci := 9) (v := .ref m2) (C := RX9) (T := TX9) (N := 19) hx hb hts iX9 hown hK hP 0 rfl rfl 1 (by decide) (hts (.fieldLink RX9 13 "StepAxisModel" "past" "[I") (List.mem_of_getElem? (i := 3) rfl)) (fun _ h9 => h9) rfl dX9_changes_65 ?_
            refine lv_bipush (v := 63) hx hb dX9_changes_68 (by decide +kernel) ?_
            refine lv_aload_n hx hb dX9_changes_70 rfl (lv_at hl 1 rfl) ?_
            refine va_get (D := g.1) (ci := 9) (v := .int (nI q)) (C := RX9) (T := TX9) (N := 19) hx hb hts iX9 hown hK hP 0 rfl rfl 4 (by decide) (hts (.fieldLink RX9 38 "StepAxisModel" "pasts" "I") (List.mem_of_getElem? (i := 2) rfl)) (fun _ h9 => h9) rfl dX9_changes_71 ?_
            refine lv_imul hx hb dX9_changes_74 ?_
            refine lv_iload_n hx hb dX9_changes_75 rfl (lv_at hl 0 rfl) ?_
            refine lv_iadd hx hb dX9_changes_76 ?_
            refine lv_aload_n hx hb dX9_changes_77 rfl (lv_at hl 1 rfl) ?_
            refine va_get (D := g.1) (ci := 9) (v := .ref m1) (C := RX9) (T := TX9) (N := 19) hx hb hts iX9 hown hK hP 0 rfl rfl 0 (by decide) (hts (.fieldLink RX9 7 "StepAxisModel" "s" "[I") (List.mem_of_getElem? (i := 4) rfl)) (fun _ h9 => h9) rfl dX9_changes_78 ?_
            refine lv_iload_n hx hb dX9_changes_81 rfl (lv_at hl 0 rfl) ?_
            refine zald (k := z) hx hb hK hP 1 0 rfl rfl (IX.of ei (by omega) (by decide)) dX9_changes_82 ?_
            refine zast (k := (63 * q + z)) hx hb hK hP hD hS 2 0 rfl rfl (IX.of (by rw [ei, show (63 : Int32) = nI 63 from rfl, pk_mul, nI_add]) (by omega) (by decide)) dX9_changes_83 (fun H locs hP hD hS => ?_)
            have hP : va_P g.1 vwCl [(m0, oB 9 [.ref m1, .ref m2, .ref m3, .ref m4, .int (nI q), .int rn, .ref m5, .int ty, .ref m6, .ref m7, .int la, .int mn, .int ma, .int sn, .int so, .int ca, .int cm, .int kd, .ref m8]), (m1, aI g 63 S), (m2, aI g 252 (upd (puF qf S q z) (63 * q + z) (S z)))] H := hP
            have hD : va_D A [(m0, oB 9 [.ref m1, .ref m2, .ref m3, .ref m4, .int (nI q), .int rn, .ref m5, .int ty, .ref m6, .ref m7, .int la, .int mn, .int ma, .int sn, .int so, .int ca, .int cm, .int kd, .ref m8]), (m1, aI g 63 S), (m2, aI g 252 (upd (puF qf S q z) (63 * q + z) (S z)))] := hD
            rw [show upd (puF qf S q z) (63 * q + z) (S z) = puF qf S q (z + 1) from puF_s qf S q z] at hP hD
            refine lv_iinc (v := i + 1) (lv' := [(1, .int (i + 1)), (0, .ref m0)]) hx hb dX9_changes_84 hl (k := 0) rfl (by rfl) (by decide) rfl (fun ls hl => ?_)
            refine lv_goto (tgt := 58) hx hb dX9_changes_87 (by decide) ?_
            exact ih (z + 1) (i + 1) hlt (by rw [ei]; exact nI_1 z) (by omega) _ _ (zP_sub hP [0, 1, 2] rfl) (hD.sub [0, 1, 2] rfl rfl) hS ls (lv_sub hl [0, 1] rfl)
      exact lp58 ((63 - 0) + 1) 0 0 (by decide) rfl (Nat.lt_succ_self _) _ _ (zP_sub hP [0, 1, 2] rfl) (hD.sub [0, 1, 2] rfl rfl) hS ls (lv_sub hl [0, 1] rfl)
    · refine lv_iconst (v := 0) hx hb dX9_changes_16 (by decide +kernel) ?_
      refine lv_istore_n (lv' := [(1, .int 0), (0, .ref m0)]) hx hb dX9_changes_17 rfl hl (by decide) rfl (fun ls hl => ?_)
      rw [show pf = shF pf 0 from (shF_0 pf).symm] at hP hD
      have lp18 : ∀ (fu : Nat) (k : Nat) (i : Int32), (k ≤ 189) → (i = nI k) → (189 - k) < fu → ∀ (H : Heap) (locs : List Loc), va_P g.1 vwCl [(m0, oB 9 [.ref m1, .ref m2, .ref m3, .ref m4, .int ps, .int rn, .ref m5, .int ty, .ref m6, .ref m7, .int la, .int mn, .int ma, .int sn, .int so, .int ca, .int cm, .int kd, .ref m8]), (m1, aI g 63 S), (m2, aI g 252 (shF pf k))] H → va_D A [(m0, oB 9 [.ref m1, .ref m2, .ref m3, .ref m4, .int ps, .int rn, .ref m5, .int ty, .ref m6, .ref m7, .int la, .int mn, .int ma, .int sn, .int so, .int ca, .int cm, .int kd, .ref m8]), (m1, aI g 63 S), (m2, aI g 252 (shF pf k))] → va_S A sx.heap H locs → ∀ (ls : Array Slot), lv_has ls 2 [(1, .int i), (0, .ref m0)] → W pg l ev (rk 0 0) sx mi args below meth cd H locs 0 0 (MQ below (zQv g [(m0, oB 9 [.ref m1, .ref m2, .ref m3, .ref m4, .int (psF rn ps), .int rn, .ref m5, .int ty, .ref m6, .ref m7, .int la, .int mn, .int ma, .int sn, .int so, .int ca, .int cm, .int kd, .ref m8]), (m1, aI g 63 S), (m2, aI g 252 (pfF rn ps pf S))] A) args sx 0 0 A) (F0 mi 18 ls []) := by
        intro fu
        induction fu with
        | zero =>
          intro k i hk ei hmu
          exact absurd hmu (Nat.not_lt_zero _)
        | succ fu ih =>
          intro k i hk ei hmu H locs hP hD hS ls hl
          refine lv_iload_n hx hb dX9_changes_18 rfl (lv_at hl 0 rfl) ?_
          refine lv_sipush (v := 189) hx hb dX9_changes_19 (by decide +kernel) ?_
          refine lv_icmp_ge (tgt := 46) hx hb dX9_changes_22 (by decide) (fun c22 => ?_) (fun c22 => ?_)
          · have hkn : k = 189 := Nat.le_antisymm hk (nle_of (by decide) (by omega) (by rw [ei] at c22; exact c22))
            rw [hkn] at hP hD
            refine lv_aload_n hx hb dX9_changes_46 rfl (lv_at hl 1 rfl) ?_
            refine lv_dup hx hb dX9_changes_47 rfl ?_
            refine va_get (D := g.1) (ci := 9) (v := .int ps) (C := RX9) (T := TX9) (N := 19) hx hb hts iX9 hown hK hP 0 rfl rfl 4 (by decide) (hts (.fieldLink RX9 38 "StepAxisModel" "pasts" "I") (List.mem_of_getElem? (i := 2) rfl)) (fun _ h9 => h9) rfl dX9_changes_48 ?_
            refine lv_iconst (v := 1) hx hb dX9_changes_51 (by decide +kernel) ?_
            refine lv_isub hx hb dX9_changes_52 ?_
            refine va_put (D := g.1) (ci := 9) (v := .int (ps - 1)) (ty := .int) (C := RX9) (T := TX9) (N := 19) hx hb hts iX9 tyX9 tyX9_ok nmX9 hown hK hP hD hS 0 rfl rfl 4 (by decide) (hts (.fieldLink RX9 38 "StepAxisModel" "pasts" "I") (List.mem_of_getElem? (i := 2) rfl)) (fun _ h9 => h9) rfl (by decide +kernel) rfl rfl (Nat.le_of_ble_eq_true rfl) dX9_changes_53 (fun H locs hP hD hS => ?_)
            have hP : va_P g.1 vwCl [(m0, oB 9 [.ref m1, .ref m2, .ref m3, .ref m4, .int (ps - 1), .int rn, .ref m5, .int ty, .ref m6, .ref m7, .int la, .int mn, .int ma, .int sn, .int so, .int ca, .int cm, .int kd, .ref m8]), (m1, aI g 63 S), (m2, aI g 252 (shF pf 189))] H := hP
            have hD : va_D A [(m0, oB 9 [.ref m1, .ref m2, .ref m3, .ref m4, .int (ps - 1), .int rn, .ref m5, .int ty, .ref m6, .ref m7, .int la, .int mn, .int ma, .int sn, .int so, .int ca, .int cm, .int kd, .ref m8]), (m1, aI g 63 S), (m2, aI g 252 (shF pf 189))] := hD
            refine lv_iconst (v := 0) hx hb dX9_changes_56 (by decide +kernel) ?_
            refine lv_istore_n (lv' := [(1, .int 0), (0, .ref m0)]) hx hb dX9_changes_57 rfl hl (by decide) rfl (fun ls hl => ?_)
            obtain ⟨qf, hqf⟩ : ∃ qf, qf = shF pf 189 := ⟨_, rfl⟩
            obtain ⟨q, hq⟩ : ∃ q : Nat, q = 3 := ⟨_, rfl⟩
            have hq3 : q ≤ 3 := by omega
            have e4 : ps = 4 := c13
            have eq0 : ps - 1 = nI q := by rw [e4, hq]; rfl
            have hqq : (if ps = 4 then puF (shF pf 189) S 3 63 else puF pf S ps.toInt.toNat 63) = puF qf S q 63 := by rw [if_pos e4, hqf, hq]
            have hps1 : (if ps = 4 then (4 : Int32) else ps + 1) = nI (q + 1) := by rw [if_pos e4, hq]; rfl
            rw [show shF pf 189 = qf from hqf.symm] at hP hD
            have eF : ps - 1 = nI q := eq0
            rw [eF] at hP hD
            have hP : va_P g.1 vwCl [(m0, oB 9 [.ref m1, .ref m2, .ref m3, .ref m4, .int (nI q), .int rn, .ref m5, .int ty, .ref m6, .ref m7, .int la, .int mn, .int ma, .int sn, .int so, .int ca, .int cm, .int kd, .ref m8]), (m1, aI g 63 S), (m2, aI g 252 qf)] H := hP
            have hD : va_D A [(m0, oB 9 [.ref m1, .ref m2, .ref m3, .ref m4, .int (nI q), .int rn, .ref m5, .int ty, .ref m6, .ref m7, .int la, .int mn, .int ma, .int sn, .int so, .int ca, .int cm, .int kd, .ref m8]), (m1, aI g 63 S), (m2, aI g 252 qf)] := hD
            rw [show qf = puF qf S q 0 from (puF_0 qf S q).symm] at hP hD
            have lp58 : ∀ (fu : Nat) (z : Nat) (i : Int32), (z ≤ 63) → (i = nI z) → (63 - z) < fu → ∀ (H : Heap) (locs : List Loc), va_P g.1 vwCl [(m0, oB 9 [.ref m1, .ref m2, .ref m3, .ref m4, .int (nI q), .int rn, .ref m5, .int ty, .ref m6, .ref m7, .int la, .int mn, .int ma, .int sn, .int so, .int ca, .int cm, .int kd, .ref m8]), (m1, aI g 63 S), (m2, aI g 252 (puF qf S q z))] H → va_D A [(m0, oB 9 [.ref m1, .ref m2, .ref m3, .ref m4, .int (nI q), .int rn, .ref m5, .int ty, .ref m6, .ref m7, .int la, .int mn, .int ma, .int sn, .int so, .int ca, .int cm, .int kd, .ref m8]), (m1, aI g 63 S), (m2, aI g 252 (puF qf S q z))] → va_S A sx.heap H locs → ∀ (ls : Array Slot), lv_has ls 2 [(1, .int i), (0, .ref m0)] → W pg l ev (rk 0 0) sx mi args below meth cd H locs 0 0 (MQ below (zQv g [(m0, oB 9 [.ref m1, .ref m2, .ref m3, .ref m4, .int (psF rn ps), .int rn, .ref m5, .int ty, .ref m6, .ref m7, .int la, .int mn, .int ma, .int sn, .int so, .int ca, .int cm, .int kd, .ref m8]), (m1, aI g 63 S), (m2, aI g 252 (pfF rn ps pf S))] A) args sx 0 0 A) (F0 mi 58 ls []) := by
              intro fu
              induction fu with
              | zero =>
                intro z i hz ei hmu
                exact absurd hmu (Nat.not_lt_zero _)
              | succ fu ih =>
                intro z i hz ei hmu H locs hP hD hS ls hl
                refine lv_iload_n hx hb dX9_changes_58 rfl (lv_at hl 0 rfl) ?_
                refine lv_bipush (v := 63) hx hb dX9_changes_59 (by decide +kernel) ?_
                refine lv_icmp_ge (tgt := 90) hx hb dX9_changes_61 (by decide) (fun c61 => ?_) (fun c61 => ?_)
                · have hzn : z = 63 := Nat.le_antisymm hz (nle_of (by decide) (by omega) (by rw [ei] at c61; exact c61))
                  rw [hzn] at hP hD
                  refine lv_aload_n hx hb dX9_changes_90 rfl (lv_at hl 1 rfl) ?_
                  refine lv_dup hx hb dX9_changes_91 rfl ?_
                  refine va_get (D := g.1) (ci := 9) (v := .int (nI q)) (C := RX9) (T := TX9) (N := 19) hx hb hts iX9 hown hK hP 0 rfl rfl 4 (by decide) (hts (.fieldLink RX9 38 "StepAxisModel" "pasts" "I") (List.mem_of_getElem? (i := 2) rfl)) (fun _ h9 => h9) rfl dX9_changes_92 ?_
                  refine lv_iconst (v := 1) hx hb dX9_changes_95 (by decide +kernel) ?_
                  refine lv_iadd hx hb dX9_changes_96 ?_
                  refine va_put (D := g.1) (ci := 9) (v := .int ((nI q) + 1)) (ty := .int) (C := RX9) (T := TX9) (N := 19) hx hb hts iX9 tyX9 tyX9_ok nmX9 hown hK hP hD hS 0 rfl rfl 4 (by decide) (hts (.fieldLink RX9 38 "StepAxisModel" "pasts" "I") (List.mem_of_getElem? (i := 2) rfl)) (fun _ h9 => h9) rfl (by decide +kernel) rfl rfl (Nat.le_of_ble_eq_true rfl) dX9_changes_97 (fun H locs hP hD hS => ?_)
                  have hP : va_P g.1 vwCl [(m0, oB 9 [.ref m1, .ref m2, .ref m3, .ref m4, .int ((nI q) + 1), .int rn, .ref m5, .int ty, .ref m6, .ref m7, .int la, .int mn, .int ma, .int sn, .int so, .int ca, .int cm, .int kd, .ref m8]), (m1, aI g 63 S), (m2, aI g 252 (puF qf S q 63))] H := hP
                  have hD : va_D A [(m0, oB 9 [.ref m1, .ref m2, .ref m3, .ref m4, .int ((nI q) + 1), .int rn, .ref m5, .int ty, .ref m6, .ref m7, .int la, .int mn, .int ma, .int sn, .int so, .int ca, .int cm, .int kd, .ref m8]), (m1, aI g 63 S), (m2, aI g 252 (puF qf S q 63))] := hD
                  exact zEv (ws' := [(m0, oB 9 [.ref m1, .ref m2, .ref m3, .ref m4, .int ((nI q) + 1), .int rn, .ref m5, .int ty, .ref m6, .ref m7, .int la, .int mn, .int ma, .int sn, .int so, .int ca, .int cm, .int kd, .ref m8]), (m1, aI g 63 S), (m2, aI g 252 (puF qf S q 63))]) hx hb hlocks hr hK hP hD hS [0, 1, 2] rfl rfl (by rw [show psF rn ps = nI (q + 1) from (if_pos c4).trans hps1, show pfF rn ps pf S = puF qf S q 63 from (if_pos c4).trans hqq, ← nI_1]) dX9_changes_100
                · have hlt : z < 63 := nlt_of (by decide) (by rw [ei] at c61; exact c61)
                  refine lv_aload_n hx hb dX9_changes_64 rfl (lv_at hl 1 rfl) ?_
                  refine va_get (D := g.1) (ci := 9) (v := .ref m2) (C := RX9) (T := TX9) (N := 19) hx hb hts iX9 hown hK hP 0 rfl rfl 1 (by decide) (hts (.fieldLink RX9 13 "StepAxisModel" "past" "[I") (List.mem_of_getElem? (i := 3) rfl)) (fun _ h9 => h9) rfl dX9_changes_65 ?_
                  refine lv_bipush (v := 63) hx hb dX9_changes_68 (by decide +kernel) ?_
                  refine lv_aload_n hx hb dX9_changes_70 rfl (lv_at hl 1 rfl) ?_
                  refine va_get (D := g.1) (ci := 9) (v := .int (nI q)) (C := RX9) (T := TX9) (N := 19) hx hb hts iX9 hown hK hP 0 rfl rfl 4 (by decide) (hts (.fieldLink RX9 38 "StepAxisModel" "pasts" "I") (List.mem_of_getElem? (i := 2) rfl)) (fun _ h9 => h9) rfl dX9_changes_71 ?_
                  refine lv_imul hx hb dX9_changes_74 ?_
                  refine lv_iload_n hx hb dX9_changes_75 rfl (lv_at hl 0 rfl) ?_
                  refine lv_iadd hx hb dX9_changes_76 ?_
                  refine lv_aload_n hx hb dX9_changes_77 rfl (lv_at hl 1 rfl) ?_
                  refine va_get (D := g.1) (ci := 9) (v := .ref m1) (C := RX9) (T := TX9) (N := 19) hx hb hts iX9 hown hK hP 0 rfl rfl 0 (by decide) (hts (.fieldLink RX9 7 "StepAxisModel" "s" "[I") (List.mem_of_getElem? (i := 4) rfl)) (fun _ h9 => h9) rfl dX9_changes_78 ?_
                  refine lv_iload_n hx hb dX9_changes_81 rfl (lv_at hl 0 rfl) ?_
                  refine zald (k := z) hx hb hK hP 1 0 rfl rfl (IX.of ei (by omega) (by decide)) dX9_changes_82 ?_
                  refine zast (k := (63 * q + z)) hx hb hK hP hD hS 2 0 rfl rfl (IX.of (by rw [ei, show (63 : Int32) = nI 63 from rfl, pk_mul, nI_add]) (by omega) (by decide)) dX9_changes_83 (fun H locs hP hD hS => ?_)
                  have hP : va_P g.1 vwCl [(m0, oB 9 [.ref m1, .ref m2, .ref m3, .ref m4, .int (nI q), .int rn, .ref m5, .int ty, .ref m6, .ref m7, .int la, .int mn, .int ma, .int sn, .int so, .int ca, .int cm, .int kd, .ref m8]), (m1, aI g 63 S), (m2, aI g 252 (upd (puF qf S q z) (63 * q + z) (S z)))] H := hP
                  have hD : va_D A [(m0, oB 9 [.ref m1, .ref m2, .ref m3, .ref m4, .int (nI q), .int rn, .ref m5, .int ty, .ref m6, .ref m7, .int la, .int mn, .int ma, .int sn, .int so, .int ca, .int cm, .int kd, .ref m8]), (m1, aI g 63 S), (m2, aI g 252 (upd (puF qf S q z) (63 * q + z) (S z)))] := hD
                  rw [show upd (puF qf S q z) (63 * q + z) (S z) = puF qf S q (z + 1) from puF_s qf S q z] at hP hD
                  refine lv_iinc (v := i + 1) (lv' := [(1, .int (i + 1)), (0, .ref m0)]) hx hb dX9_changes_84 hl (k := 0) rfl (by rfl) (by decide) rfl (fun ls hl => ?_)
                  refine lv_goto (tgt := 58) hx hb dX9_changes_87 (by decide) ?_
                  exact ih (z + 1) (i + 1) hlt (by rw [ei]; exact nI_1 z) (by omega) _ _ (zP_sub hP [0, 1, 2] rfl) (hD.sub [0, 1, 2] rfl rfl) hS ls (lv_sub hl [0, 1] rfl)
            exact lp58 ((63 - 0) + 1) 0 0 (by decide) rfl (Nat.lt_succ_self _) _ _ (zP_sub hP [0, 1, 2] rfl) (hD.sub [0, 1, 2] rfl rfl) hS ls (lv_sub hl [0, 1] rfl)
          · have hlt : k < 189 := nlt_of (by decide) (by rw [ei] at c22; exact c22)
            refine lv_aload_n hx hb dX9_changes_25 rfl (lv_at hl 1 rfl) ?_
            refine va_get (D := g.1) (ci := 9) (v := .ref m2) (C := RX9) (T := TX9) (N := 19) hx hb hts iX9 hown hK hP 0 rfl rfl 1 (by decide) (hts (.fieldLink RX9 13 "StepAxisModel" "past" "[I") (List.mem_of_getElem? (i := 3) rfl)) (fun _ h9 => h9) rfl dX9_changes_26 ?_
            refine lv_iload_n hx hb dX9_changes_29 rfl (lv_at hl 0 rfl) ?_
            refine lv_aload_n hx hb dX9_changes_30 rfl (lv_at hl 1 rfl) ?_
            refine va_get (D := g.1) (ci := 9) (v := .ref m2) (C := RX9) (T := TX9) (N := 19) hx hb hts iX9 hown hK hP 0 rfl rfl 1 (by decide) (hts (.fieldLink RX9 13 "StepAxisModel" "past" "[I") (List.mem_of_getElem? (i := 3) rfl)) (fun _ h9 => h9) rfl dX9_changes_31 ?_
            refine lv_iload_n hx hb dX9_changes_34 rfl (lv_at hl 0 rfl) ?_
            refine lv_bipush (v := 63) hx hb dX9_changes_35 (by decide +kernel) ?_
            refine lv_iadd hx hb dX9_changes_37 ?_
            refine zald (k := (k + 63)) hx hb hK hP 2 0 rfl rfl (IX.of (by rw [ei]; exact nI_add k 63) (by omega) (by decide)) dX9_changes_38 ?_
            refine zTop (y := pf (k + 63)) (shF_r pf k) ?_
            refine zast (k := k) hx hb hK hP hD hS 2 0 rfl rfl (IX.of ei (by omega) (by decide)) dX9_changes_39 (fun H locs hP hD hS => ?_)
            have hP : va_P g.1 vwCl [(m0, oB 9 [.ref m1, .ref m2, .ref m3, .ref m4, .int ps, .int rn, .ref m5, .int ty, .ref m6, .ref m7, .int la, .int mn, .int ma, .int sn, .int so, .int ca, .int cm, .int kd, .ref m8]), (m1, aI g 63 S), (m2, aI g 252 (upd (shF pf k) k (pf (k + 63))))] H := hP
            have hD : va_D A [(m0, oB 9 [.ref m1, .ref m2, .ref m3, .ref m4, .int ps, .int rn, .ref m5, .int ty, .ref m6, .ref m7, .int la, .int mn, .int ma, .int sn, .int so, .int ca, .int cm, .int kd, .ref m8]), (m1, aI g 63 S), (m2, aI g 252 (upd (shF pf k) k (pf (k + 63))))] := hD
            rw [show upd (shF pf k) k (pf (k + 63)) = shF pf (k + 1) from shF_s pf k] at hP hD
            refine lv_iinc (v := i + 1) (lv' := [(1, .int (i + 1)), (0, .ref m0)]) hx hb dX9_changes_40 hl (k := 0) rfl (by rfl) (by decide) rfl (fun ls hl => ?_)
            refine lv_goto (tgt := 18) hx hb dX9_changes_43 (by decide) ?_
            exact ih (k + 1) (i + 1) hlt (by rw [ei]; exact nI_1 k) (by omega) _ _ (zP_sub hP [0, 1, 2] rfl) (hD.sub [0, 1, 2] rfl rfl) hS ls (lv_sub hl [0, 1] rfl)
      exact lp18 ((189 - 0) + 1) 0 0 (by decide) rfl (Nat.lt_succ_self _) _ _ (zP_sub hP [0, 1, 2] rfl) (hD.sub [0, 1, 2] rfl rfl) hS ls (lv_sub hl [0, 1] rfl)
  · exact zEv (ws' := [(m0, oB 9 [.ref m1, .ref m2, .ref m3, .ref m4, .int ps, .int rn, .ref m5, .int ty, .ref m6, .ref m7, .int la, .int mn, .int ma, .int sn, .int so, .int ca, .int cm, .int kd, .ref m8]), (m1, aI g 63 S), (m2, aI g 252 pf)]) hx hb hlocks hr hK hP hD hS [0, 1, 2] rfl rfl (by rw [show psF rn ps = ps from if_neg c4, show pfF rn ps pf S = pf from if_neg c4]) dX9_changes_7
set_option maxHeartbeats 4000000 in
set_option maxRecDepth 100000 in
theorem r_set (l : Launch) (g : G3) (m0 m1 m2 m3 m4 m5 m6 m7 m8 : Nat) (ps rn ty la mn ma sn so ca cm kd : Int32) (S pf : Nat → Int32) (w v : Int32) (hps : 0 ≤ ps.toInt ∧ ps.toInt ≤ 4) : MI l yX9_set wsX9_set (rk 1 22) g [.ref m0, .int w, .int v] [(m0, oB 9 [.ref m1, .ref m2, .ref m3, .ref m4, .int ps, .int rn, .ref m5, .int ty, .ref m6, .ref m7, .int la, .int mn, .int ma, .int sn, .int so, .int ca, .int cm, .int kd, .ref m8]), (m1, aI g 63 S), (m2, aI g 252 pf)] (stR S w v) [(m0, oB 9 [.ref m1, .ref m2, .ref m3, .ref m4, .int (if stP w v then psF rn ps else ps), .int rn, .ref m5, .int ty, .ref m6, .ref m7, .int la, .int mn, .int ma, .int sn, .int so, .int ca, .int cm, .int kd, .ref m8]), (m1, aI g 63 (if stP w v then upd S w.toInt.toNat v else S)), (m2, aI g 252 (if stP w v then pfF rn ps pf S else pf))] := by
  refine zWalk.met (Qc := fun A => zQi g (stR S w v) [(m0, oB 9 [.ref m1, .ref m2, .ref m3, .ref m4, .int (if stP w v then psF rn ps else ps), .int rn, .ref m5, .int ty, .ref m6, .ref m7, .int la, .int mn, .int ma, .int sn, .int so, .int ca, .int cm, .int kd, .ref m8]), (m1, aI g 63 (if stP w v then upd S w.toInt.toNat v else S)), (m2, aI g 252 (if stP w v then pfF rn ps pf S else pf))] A) (cc := cX9_set) (maxL := 4) (ret := (some .int)) ?_ (by decide) rfl (Nat.le_of_ble_eq_true rfl)
  intro pg ev sx mi args below meth cd A H locs ls hx hb hr hml hown hts hlocks hA hE hK hP hD hS hl
  have iX9 : ∀ w ∈ u_ws RX9 TX9 19, w ∈ wsX9_set := (fun _ h => (List.mem_cons_of_mem _ (List.mem_append_right _ h)))
  have hl : lv_has ls 4 [(0, .ref m0), (1, .int w), (2, .int v)] := hl
  refine lv_iload_n hx hb dX9_set_0 rfl (lv_at hl 1 rfl) ?_
  refine lv_iconst (v := 0) hx hb dX9_set_1 (by decide +kernel) ?_
  refine lv_bipush (v := 7) hx hb dX9_set_2 (by decide +kernel) ?_
  refine zSI (As := [.int w, .int 0, .int 7]) (rest := []) (wc := []) (wr := [(m0, oB 9 [.ref m1, .ref m2, .ref m3, .ref m4, .int ps, .int rn, .ref m5, .int ty, .ref m6, .ref m7, .int la, .int mn, .int ma, .int sn, .int so, .int ca, .int cm, .int kd, .ref m8]), (m1, aI g 63 S), (m2, aI g 252 pf)]) (wc' := []) ⟨hx, hb, hml, hown, hts⟩ (r_in l g w 0 7) (va_cwS 3 hts gX9_set_X9_in rfl rfl rfl (by decide +kernel) ⟨Nat.le_of_ble_eq_true rfl, Nat.le_of_ble_eq_true rfl⟩) hE hK hP hD hS hA [] [0, 1, 2] rfl rfl rfl rfl (by decide) rfl hl.1 rfl (lv_room (Nat.le_of_ble_eq_true rfl)) ⟨Nat.zero_le _, Nat.zero_le _⟩ dX9_set_4 (fun H locs hP hD hS => ?_)
  have hP : va_P g.1 vwCl [(m0, oB 9 [.ref m1, .ref m2, .ref m3, .ref m4, .int ps, .int rn, .ref m5, .int ty, .ref m6, .ref m7, .int la, .int mn, .int ma, .int sn, .int so, .int ca, .int cm, .int kd, .ref m8]), (m1, aI g 63 S), (m2, aI g 252 pf)] H := hP
  have hD : va_D A [(m0, oB 9 [.ref m1, .ref m2, .ref m3, .ref m4, .int ps, .int rn, .ref m5, .int ty, .ref m6, .ref m7, .int la, .int mn, .int ma, .int sn, .int so, .int ca, .int cm, .int kd, .ref m8]), (m1, aI g 63 S), (m2, aI g 252 pf)] := hD
  refine lv_if_eq (tgt := 25) hx hb dX9_set_7 (by decide) (fun c7 => ?_) (fun c7 => ?_)
  · have c7 := b01_f c7
    refine lv_ldc hx hb hown (hts (.constant RX9 53 (-1000001)) (List.mem_of_getElem? (i := 1) rfl)) dX9_set_25 ?_
    exact zEi (v := (-1000001)) (ws' := [(m0, oB 9 [.ref m1, .ref m2, .ref m3, .ref m4, .int ps, .int rn, .ref m5, .int ty, .ref m6, .ref m7, .int la, .int mn, .int ma, .int sn, .int so, .int ca, .int cm, .int kd, .ref m8]), (m1, aI g 63 S), (m2, aI g 252 pf)]) hx hb hlocks hr rfl hK hP hD hS [0, 1, 2] rfl rfl (by unfold stR; rw [if_neg (fun h => c7 h.1)]) (by simp only [if_neg (show ¬ stP w v from fun h => c7 h.1)]) dX9_set_27
  · have c7 := b01_t c7
    refine lv_iload_n hx hb dX9_set_10 rfl (lv_at hl 2 rfl) ?_
    refine lv_iload_n hx hb dX9_set_11 rfl (lv_at hl 1 rfl) ?_
    refine zSI (As := [.int w]) (rest := [.int v]) (wc := []) (wr := [(m0, oB 9 [.ref m1, .ref m2, .ref m3, .ref m4, .int ps, .int rn, .ref m5, .int ty, .ref m6, .ref m7, .int la, .int mn, .int ma, .int sn, .int so, .int ca, .int cm, .int kd, .ref m8]), (m1, aI g 63 S), (m2, aI g 252 pf)]) (wc' := []) ⟨hx, hb, hml, hown, hts⟩ (r_leastOf l g w) (va_cwS 1 hts gX9_set_X9_leastOf rfl rfl rfl (by decide +kernel) ⟨Nat.le_of_ble_eq_true rfl, Nat.le_of_ble_eq_true rfl⟩) hE hK hP hD hS hA [] [0, 1, 2] rfl rfl rfl rfl (by decide) rfl hl.1 rfl (lv_room (Nat.le_of_ble_eq_true rfl)) ⟨Nat.zero_le _, Nat.zero_le _⟩ dX9_set_12 (fun H locs hP hD hS => ?_)
    have hP : va_P g.1 vwCl [(m0, oB 9 [.ref m1, .ref m2, .ref m3, .ref m4, .int ps, .int rn, .ref m5, .int ty, .ref m6, .ref m7, .int la, .int mn, .int ma, .int sn, .int so, .int ca, .int cm, .int kd, .ref m8]), (m1, aI g 63 S), (m2, aI g 252 pf)] H := hP
    have hD : va_D A [(m0, oB 9 [.ref m1, .ref m2, .ref m3, .ref m4, .int ps, .int rn, .ref m5, .int ty, .ref m6, .ref m7, .int la, .int mn, .int ma, .int sn, .int so, .int ca, .int cm, .int kd, .ref m8]), (m1, aI g 63 S), (m2, aI g 252 pf)] := hD
    refine lv_iload_n hx hb dX9_set_15 rfl (lv_at hl 1 rfl) ?_
    refine zSI (As := [.int w]) (rest := [.int (leT w), .int v]) (wc := []) (wr := [(m0, oB 9 [.ref m1, .ref m2, .ref m3, .ref m4, .int ps, .int rn, .ref m5, .int ty, .ref m6, .ref m7, .int la, .int mn, .int ma, .int sn, .int so, .int ca, .int cm, .int kd, .ref m8]), (m1, aI g 63 S), (m2, aI g 252 pf)]) (wc' := []) ⟨hx, hb, hml, hown, hts⟩ (r_mostOf l g w) (va_cwS 1 hts gX9_set_X9_mostOf rfl rfl rfl (by decide +kernel) ⟨Nat.le_of_ble_eq_true rfl, Nat.le_of_ble_eq_true rfl⟩) hE hK hP hD hS hA [] [0, 1, 2] rfl rfl rfl rfl (by decide) rfl hl.1 rfl (lv_room (Nat.le_of_ble_eq_true rfl)) ⟨Nat.zero_le _, Nat.zero_le _⟩ dX9_set_16 (fun H locs hP hD hS => ?_)
    have hP : va_P g.1 vwCl [(m0, oB 9 [.ref m1, .ref m2, .ref m3, .ref m4, .int ps, .int rn, .ref m5, .int ty, .ref m6, .ref m7, .int la, .int mn, .int ma, .int sn, .int so, .int ca, .int cm, .int kd, .ref m8]), (m1, aI g 63 S), (m2, aI g 252 pf)] H := hP
    have hD : va_D A [(m0, oB 9 [.ref m1, .ref m2, .ref m3, .ref m4, .int ps, .int rn, .ref m5, .int ty, .ref m6, .ref m7, .int la, .int mn, .int ma, .int sn, .int so, .int ca, .int cm, .int kd, .ref m8]), (m1, aI g 63 S), (m2, aI g 252 pf)] := hD
    refine zSI (As := [.int v, .int (leT w), .int (moT w)]) (rest := []) (wc := []) (wr := [(m0, oB 9 [.ref m1, .ref m2, .ref m3, .ref m4, .int ps, .int rn, .ref m5, .int ty, .ref m6, .ref m7, .int la, .int mn, .int ma, .int sn, .int so, .int ca, .int cm, .int kd, .ref m8]), (m1, aI g 63 S), (m2, aI g 252 pf)]) (wc' := []) ⟨hx, hb, hml, hown, hts⟩ (r_in l g v (leT w) (moT w)) (va_cwS 3 hts gX9_set_X9_in rfl rfl rfl (by decide +kernel) ⟨Nat.le_of_ble_eq_true rfl, Nat.le_of_ble_eq_true rfl⟩) hE hK hP hD hS hA [] [0, 1, 2] rfl rfl rfl rfl (by decide) rfl hl.1 rfl (lv_room (Nat.le_of_ble_eq_true rfl)) ⟨Nat.zero_le _, Nat.zero_le _⟩ dX9_set_19 (fun H locs hP hD hS => ?_)
    have hP : va_P g.1 vwCl [(m0, oB 9 [.ref m1, .ref m2, .ref m3, .ref m4, .int ps, .int rn, .ref m5, .int ty, .ref m6, .ref m7, .int la, .int mn, .int ma, .int sn, .int so, .int ca, .int cm, .int kd, .ref m8]), (m1, aI g 63 S), (m2, aI g 252 pf)] H := hP
    have hD : va_D A [(m0, oB 9 [.ref m1, .ref m2, .ref m3, .ref m4, .int ps, .int rn, .ref m5, .int ty, .ref m6, .ref m7, .int la, .int mn, .int ma, .int sn, .int so, .int ca, .int cm, .int kd, .ref m8]), (m1, aI g 63 S), (m2, aI g 252 pf)] := hD
    refine lv_if_ne (tgt := 28) hx hb dX9_set_22 (by decide) (fun c22 => ?_) (fun c22 => ?_)
    · have c22 := b01_t c22
      refine lv_aload_n hx hb dX9_set_28 rfl (lv_at hl 0 rfl) ?_
      refine zVV (As := []) (rest := []) (wc := [(m0, oB 9 [.ref m1, .ref m2, .ref m3, .ref m4, .int ps, .int rn, .ref m5, .int ty, .ref m6, .ref m7, .int la, .int mn, .int ma, .int sn, .int so, .int ca, .int cm, .int kd, .ref m8]), (m1, aI g 63 S), (m2, aI g 252 pf)]) (wr := []) (wc' := [(m0, oB 9 [.ref m1, .ref m2, .ref m3, .ref m4, .int (psF rn ps), .int rn, .ref m5, .int ty, .ref m6, .ref m7, .int la, .int mn, .int ma, .int sn, .int so, .int ca, .int cm, .int kd, .ref m8]), (m1, aI g 63 S), (m2, aI g 252 (pfF rn ps pf S))]) ⟨hx, hb, hml, hown, hts⟩ (r_changes l g m0 m1 m2 m3 m4 m5 m6 m7 m8 ps rn ty la mn ma sn so ca cm kd S pf hps) (cwV 0 hts gX9_set_X9_changes rfl rfl rfl (by decide +kernel) ⟨Nat.le_of_ble_eq_true rfl, Nat.le_of_ble_eq_true rfl⟩) hE hK hP hD hS hA 0 9 rfl rfl rfl [0, 1, 2] [] rfl rfl rfl rfl (by decide) rfl hl.1 rfl (lv_room (Nat.le_of_ble_eq_true rfl)) ⟨Nat.zero_le _, Nat.zero_le _⟩ dX9_set_29 (fun H locs hP hD hS => ?_)
      have hP : va_P g.1 vwCl [(m0, oB 9 [.ref m1, .ref m2, .ref m3, .ref m4, .int (psF rn ps), .int rn, .ref m5, .int ty, .ref m6, .ref m7, .int la, .int mn, .int ma, .int sn, .int so, .int ca, .int cm, .int kd, .ref m8]), (m1, aI g 63 S), (m2, aI g 252 (pfF rn ps pf S))] H := hP
      have hD : va_D A [(m0, oB 9 [.ref m1, .ref m2, .ref m3, .ref m4, .int (psF rn ps), .int rn, .ref m5, .int ty, .ref m6, .ref m7, .int la, .int mn, .int ma, .int sn, .int so, .int ca, .int cm, .int kd, .ref m8]), (m1, aI g 63 S), (m2, aI g 252 (pfF rn ps pf S))] := hD
      refine lv_aload_n hx hb dX9_set_32 rfl (lv_at hl 0 rfl) ?_
      refine va_get (D := g.1) (ci := 9) (v := .ref m1) (C := RX9) (T := TX9) (N := 19) hx hb hts iX9 hown hK hP 0 rfl rfl 0 (by decide) (hts (.fieldLink RX9 7 "StepAxisModel" "s" "[I") (List.mem_of_getElem? (i := 2) rfl)) (fun _ h9 => h9) rfl dX9_set_33 ?_
      refine lv_iload_n hx hb dX9_set_36 rfl (lv_at hl 1 rfl) ?_
      refine zald (k := w.toInt.toNat) hx hb hK hP 1 0 rfl rfl (IX.z (zp0 c7.1) (by have := (zle _ _).mp c7.2; have e := i7; omega)) dX9_set_37 ?_
      refine lv_istore_n (lv' := [(3, .int (S w.toInt.toNat)), (0, .ref m0), (1, .int w), (2, .int v)]) hx hb dX9_set_38 rfl hl (by decide) rfl (fun ls hl => ?_)
      refine lv_aload_n hx hb dX9_set_39 rfl (lv_at hl 1 rfl) ?_
      refine va_get (D := g.1) (ci := 9) (v := .ref m1) (C := RX9) (T := TX9) (N := 19) hx hb hts iX9 hown hK hP 0 rfl rfl 0 (by decide) (hts (.fieldLink RX9 7 "StepAxisModel" "s" "[I") (List.mem_of_getElem? (i := 2) rfl)) (fun _ h9 => h9) rfl dX9_set_40 ?_
      refine lv_iload_n hx hb dX9_set_43 rfl (lv_at hl 2 rfl) ?_
      refine lv_iload_n hx hb dX9_set_44 rfl (lv_at hl 3 rfl) ?_
      refine zast (k := w.toInt.toNat) hx hb hK hP hD hS 1 0 rfl rfl (IX.z (zp0 c7.1) (by have := (zle _ _).mp c7.2; have e := i7; omega)) dX9_set_45 (fun H locs hP hD hS => ?_)
      have hP : va_P g.1 vwCl [(m0, oB 9 [.ref m1, .ref m2, .ref m3, .ref m4, .int (psF rn ps), .int rn, .ref m5, .int ty, .ref m6, .ref m7, .int la, .int mn, .int ma, .int sn, .int so, .int ca, .int cm, .int kd, .ref m8]), (m1, aI g 63 (upd S w.toInt.toNat v)), (m2, aI g 252 (pfF rn ps pf S))] H := hP
      have hD : va_D A [(m0, oB 9 [.ref m1, .ref m2, .ref m3, .ref m4, .int (psF rn ps), .int rn, .ref m5, .int ty, .ref m6, .ref m7, .int la, .int mn, .int ma, .int sn, .int so, .int ca, .int cm, .int kd, .ref m8]), (m1, aI g 63 (upd S w.toInt.toNat v)), (m2, aI g 252 (pfF rn ps pf S))] := hD
      refine lv_iload_n hx hb dX9_set_46 rfl (lv_at hl 0 rfl) ?_
      exact zEi (v := S w.toInt.toNat) (ws' := [(m0, oB 9 [.ref m1, .ref m2, .ref m3, .ref m4, .int (psF rn ps), .int rn, .ref m5, .int ty, .ref m6, .ref m7, .int la, .int mn, .int ma, .int sn, .int so, .int ca, .int cm, .int kd, .ref m8]), (m1, aI g 63 (upd S w.toInt.toNat v)), (m2, aI g 252 (pfF rn ps pf S))]) hx hb hlocks hr rfl hK hP hD hS [0, 1, 2] rfl rfl (by unfold stR; rw [if_pos ⟨c7, c22⟩]) (by simp only [if_pos (show stP w v from ⟨c7, c22⟩)]) dX9_set_47
    · have c22 := b01_f c22
      refine lv_ldc hx hb hown (hts (.constant RX9 53 (-1000001)) (List.mem_of_getElem? (i := 1) rfl)) dX9_set_25 ?_
      exact zEi (v := (-1000001)) (ws' := [(m0, oB 9 [.ref m1, .ref m2, .ref m3, .ref m4, .int ps, .int rn, .ref m5, .int ty, .ref m6, .ref m7, .int la, .int mn, .int ma, .int sn, .int so, .int ca, .int cm, .int kd, .ref m8]), (m1, aI g 63 S), (m2, aI g 252 pf)]) hx hb hlocks hr rfl hK hP hD hS [0, 1, 2] rfl rfl (by unfold stR; rw [if_neg (fun h => c22 h.2)]) (by simp only [if_neg (show ¬ stP w v from fun h => c22 h.2)]) dX9_set_27
set_option maxHeartbeats 4000000 in
set_option maxRecDepth 100000 in
theorem r_limits (l : Launch) (g : G3) (m0 m1 m2 m3 m4 m5 m6 m7 m8 : Nat) (ps rn ty la mn ma sn so ca cm kd : Int32) (S pf : Nat → Int32) (p q : Int32) (hps : 0 ≤ ps.toInt ∧ ps.toInt ≤ 4) : MI l yX9_limits wsX9_limits (rk 1 22) g [.ref m0, .int p, .int q] [(m0, oB 9 [.ref m1, .ref m2, .ref m3, .ref m4, .int ps, .int rn, .ref m5, .int ty, .ref m6, .ref m7, .int la, .int mn, .int ma, .int sn, .int so, .int ca, .int cm, .int kd, .ref m8]), (m1, aI g 63 S), (m2, aI g 252 pf)] (lmR (S 10) p q) [(m0, oB 9 [.ref m1, .ref m2, .ref m3, .ref m4, .int (if lmP p q then psF rn ps else ps), .int rn, .ref m5, .int ty, .ref m6, .ref m7, .int la, .int mn, .int ma, .int sn, .int so, .int ca, .int cm, .int kd, .ref m8]), (m1, aI g 63 (if lmP p q then upd (upd S 8 p) 9 q else S)), (m2, aI g 252 (if lmP p q then pfF rn ps pf S else pf))] := by
  refine zWalk.met (Qc := fun A => zQi g (lmR (S 10) p q) [(m0, oB 9 [.ref m1, .ref m2, .ref m3, .ref m4, .int (if lmP p q then psF rn ps else ps), .int rn, .ref m5, .int ty, .ref m6, .ref m7, .int la, .int mn, .int ma, .int sn, .int so, .int ca, .int cm, .int kd, .ref m8]), (m1, aI g 63 (if lmP p q then upd (upd S 8 p) 9 q else S)), (m2, aI g 252 (if lmP p q then pfF rn ps pf S else pf))] A) (cc := cX9_limits) (maxL := 3) (ret := (some .int)) ?_ (by decide) rfl (Nat.le_of_ble_eq_true rfl)
  intro pg ev sx mi args below meth cd A H locs ls hx hb hr hml hown hts hlocks hA hE hK hP hD hS hl
  have iX9 : ∀ w ∈ u_ws RX9 TX9 19, w ∈ wsX9_limits := (fun _ h => (List.mem_cons_of_mem _ (List.mem_append_right _ h)))
  have hl : lv_has ls 3 [(0, .ref m0), (1, .int p), (2, .int q)] := hl
  refine lv_iload_n hx hb dX9_limits_0 rfl (lv_at hl 1 rfl) ?_
  refine lv_sipush (v := (-2000)) hx hb dX9_limits_1 (by decide +kernel) ?_
  refine lv_sipush (v := 2000) hx hb dX9_limits_4 (by decide +kernel) ?_
  refine zSI (As := [.int p, .int (-2000), .int 2000]) (rest := []) (wc := []) (wr := [(m0, oB 9 [.ref m1, .ref m2, .ref m3, .ref m4, .int ps, .int rn, .ref m5, .int ty, .ref m6, .ref m7, .int la, .int mn, .int ma, .int sn, .int so, .int ca, .int cm, .int kd, .ref m8]), (m1, aI g 63 S), (m2, aI g 252 pf)]) (wc' := []) ⟨hx, hb, hml, hown, hts⟩ (r_in l g p (-2000) 2000) (va_cwS 3 hts gX9_limits_X9_in rfl rfl rfl (by decide +kernel) ⟨Nat.le_of_ble_eq_true rfl, Nat.le_of_ble_eq_true rfl⟩) hE hK hP hD hS hA [] [0, 1, 2] rfl rfl rfl rfl (by decide) rfl hl.1 rfl (lv_room (Nat.le_of_ble_eq_true rfl)) ⟨Nat.zero_le _, Nat.zero_le _⟩ dX9_limits_7 (fun H locs hP hD hS => ?_)
  have hP : va_P g.1 vwCl [(m0, oB 9 [.ref m1, .ref m2, .ref m3, .ref m4, .int ps, .int rn, .ref m5, .int ty, .ref m6, .ref m7, .int la, .int mn, .int ma, .int sn, .int so, .int ca, .int cm, .int kd, .ref m8]), (m1, aI g 63 S), (m2, aI g 252 pf)] H := hP
  have hD : va_D A [(m0, oB 9 [.ref m1, .ref m2, .ref m3, .ref m4, .int ps, .int rn, .ref m5, .int ty, .ref m6, .ref m7, .int la, .int mn, .int ma, .int sn, .int so, .int ca, .int cm, .int kd, .ref m8]), (m1, aI g 63 S), (m2, aI g 252 pf)] := hD
  refine lv_if_eq (tgt := 24) hx hb dX9_limits_10 (by decide) (fun c10 => ?_) (fun c10 => ?_)
  · have c10 := b01_f c10
    refine lv_ldc hx hb hown (hts (.constant RX9 53 (-1000001)) (List.mem_of_getElem? (i := 1) rfl)) dX9_limits_24 ?_
    exact zEi (v := (-1000001)) (ws' := [(m0, oB 9 [.ref m1, .ref m2, .ref m3, .ref m4, .int ps, .int rn, .ref m5, .int ty, .ref m6, .ref m7, .int la, .int mn, .int ma, .int sn, .int so, .int ca, .int cm, .int kd, .ref m8]), (m1, aI g 63 S), (m2, aI g 252 pf)]) hx hb hlocks hr rfl hK hP hD hS [0, 1, 2] rfl rfl (by unfold lmR; rw [if_neg (fun h => c10 h.1)]) (by simp only [if_neg (show ¬ lmP p q from fun h => c10 h.1)]) dX9_limits_26
  · have c10 := b01_t c10
    refine lv_iload_n hx hb dX9_limits_13 rfl (lv_at hl 2 rfl) ?_
    refine lv_iload_n hx hb dX9_limits_14 rfl (lv_at hl 1 rfl) ?_
    refine lv_sipush (v := 2000) hx hb dX9_limits_15 (by decide +kernel) ?_
    refine zSI (As := [.int q, .int p, .int 2000]) (rest := []) (wc := []) (wr := [(m0, oB 9 [.ref m1, .ref m2, .ref m3, .ref m4, .int ps, .int rn, .ref m5, .int ty, .ref m6, .ref m7, .int la, .int mn, .int ma, .int sn, .int so, .int ca, .int cm, .int kd, .ref m8]), (m1, aI g 63 S), (m2, aI g 252 pf)]) (wc' := []) ⟨hx, hb, hml, hown, hts⟩ (r_in l g q p 2000) (va_cwS 3 hts gX9_limits_X9_in rfl rfl rfl (by decide +kernel) ⟨Nat.le_of_ble_eq_true rfl, Nat.le_of_ble_eq_true rfl⟩) hE hK hP hD hS hA [] [0, 1, 2] rfl rfl rfl rfl (by decide) rfl hl.1 rfl (lv_room (Nat.le_of_ble_eq_true rfl)) ⟨Nat.zero_le _, Nat.zero_le _⟩ dX9_limits_18 (fun H locs hP hD hS => ?_)
    have hP : va_P g.1 vwCl [(m0, oB 9 [.ref m1, .ref m2, .ref m3, .ref m4, .int ps, .int rn, .ref m5, .int ty, .ref m6, .ref m7, .int la, .int mn, .int ma, .int sn, .int so, .int ca, .int cm, .int kd, .ref m8]), (m1, aI g 63 S), (m2, aI g 252 pf)] H := hP
    have hD : va_D A [(m0, oB 9 [.ref m1, .ref m2, .ref m3, .ref m4, .int ps, .int rn, .ref m5, .int ty, .ref m6, .ref m7, .int la, .int mn, .int ma, .int sn, .int so, .int ca, .int cm, .int kd, .ref m8]), (m1, aI g 63 S), (m2, aI g 252 pf)] := hD
    refine lv_if_ne (tgt := 27) hx hb dX9_limits_21 (by decide) (fun c21 => ?_) (fun c21 => ?_)
    · have c21 := b01_t c21
      refine lv_aload_n hx hb dX9_limits_27 rfl (lv_at hl 0 rfl) ?_
      refine zVV (As := []) (rest := []) (wc := [(m0, oB 9 [.ref m1, .ref m2, .ref m3, .ref m4, .int ps, .int rn, .ref m5, .int ty, .ref m6, .ref m7, .int la, .int mn, .int ma, .int sn, .int so, .int ca, .int cm, .int kd, .ref m8]), (m1, aI g 63 S), (m2, aI g 252 pf)]) (wr := []) (wc' := [(m0, oB 9 [.ref m1, .ref m2, .ref m3, .ref m4, .int (psF rn ps), .int rn, .ref m5, .int ty, .ref m6, .ref m7, .int la, .int mn, .int ma, .int sn, .int so, .int ca, .int cm, .int kd, .ref m8]), (m1, aI g 63 S), (m2, aI g 252 (pfF rn ps pf S))]) ⟨hx, hb, hml, hown, hts⟩ (r_changes l g m0 m1 m2 m3 m4 m5 m6 m7 m8 ps rn ty la mn ma sn so ca cm kd S pf hps) (cwV 0 hts gX9_limits_X9_changes rfl rfl rfl (by decide +kernel) ⟨Nat.le_of_ble_eq_true rfl, Nat.le_of_ble_eq_true rfl⟩) hE hK hP hD hS hA 0 9 rfl rfl rfl [0, 1, 2] [] rfl rfl rfl rfl (by decide) rfl hl.1 rfl (lv_room (Nat.le_of_ble_eq_true rfl)) ⟨Nat.zero_le _, Nat.zero_le _⟩ dX9_limits_28 (fun H locs hP hD hS => ?_)
      have hP : va_P g.1 vwCl [(m0, oB 9 [.ref m1, .ref m2, .ref m3, .ref m4, .int (psF rn ps), .int rn, .ref m5, .int ty, .ref m6, .ref m7, .int la, .int mn, .int ma, .int sn, .int so, .int ca, .int cm, .int kd, .ref m8]), (m1, aI g 63 S), (m2, aI g 252 (pfF rn ps pf S))] H := hP
      have hD : va_D A [(m0, oB 9 [.ref m1, .ref m2, .ref m3, .ref m4, .int (psF rn ps), .int rn, .ref m5, .int ty, .ref m6, .ref m7, .int la, .int mn, .int ma, .int sn, .int so, .int ca, .int cm, .int kd, .ref m8]), (m1, aI g 63 S), (m2, aI g 252 (pfF rn ps pf S))] := hD
      refine lv_aload_n hx hb dX9_limits_31 rfl (lv_at hl 0 rfl) ?_
      refine va_get (D := g.1) (ci := 9) (v := .ref m1) (C := RX9) (T := TX9) (N := 19) hx hb hts iX9 hown hK hP 0 rfl rfl 0 (by decide) (hts (.fieldLink RX9 7 "StepAxisModel" "s" "[I") (List.mem_of_getElem? (i := 2) rfl)) (fun _ h9 => h9) rfl dX9_limits_32 ?_
      refine lv_bipush (v := 8) hx hb dX9_limits_35 (by decide +kernel) ?_
      refine lv_iload_n hx hb dX9_limits_37 rfl (lv_at hl 1 rfl) ?_
      refine zast (k := 8) hx hb hK hP hD hS 1 0 rfl rfl (IX.lit (by decide +kernel)) dX9_limits_38 (fun H locs hP hD hS => ?_)
      have hP : va_P g.1 vwCl [(m0, oB 9 [.ref m1, .ref m2, .ref m3, .ref m4, .int (psF rn ps), .int rn, .ref m5, .int ty, .ref m6, .ref m7, .int la, .int mn, .int ma, .int sn, .int so, .int ca, .int cm, .int kd, .ref m8]), (m1, aI g 63 (upd S 8 p)), (m2, aI g 252 (pfF rn ps pf S))] H := hP
      have hD : va_D A [(m0, oB 9 [.ref m1, .ref m2, .ref m3, .ref m4, .int (psF rn ps), .int rn, .ref m5, .int ty, .ref m6, .ref m7, .int la, .int mn, .int ma, .int sn, .int so, .int ca, .int cm, .int kd, .ref m8]), (m1, aI g 63 (upd S 8 p)), (m2, aI g 252 (pfF rn ps pf S))] := hD
      refine lv_aload_n hx hb dX9_limits_39 rfl (lv_at hl 0 rfl) ?_
      refine va_get (D := g.1) (ci := 9) (v := .ref m1) (C := RX9) (T := TX9) (N := 19) hx hb hts iX9 hown hK hP 0 rfl rfl 0 (by decide) (hts (.fieldLink RX9 7 "StepAxisModel" "s" "[I") (List.mem_of_getElem? (i := 2) rfl)) (fun _ h9 => h9) rfl dX9_limits_40 ?_
      refine lv_bipush (v := 9) hx hb dX9_limits_43 (by decide +kernel) ?_
      refine lv_iload_n hx hb dX9_limits_45 rfl (lv_at hl 2 rfl) ?_
      refine zast (k := 9) hx hb hK hP hD hS 1 0 rfl rfl (IX.lit (by decide +kernel)) dX9_limits_46 (fun H locs hP hD hS => ?_)
      have hP : va_P g.1 vwCl [(m0, oB 9 [.ref m1, .ref m2, .ref m3, .ref m4, .int (psF rn ps), .int rn, .ref m5, .int ty, .ref m6, .ref m7, .int la, .int mn, .int ma, .int sn, .int so, .int ca, .int cm, .int kd, .ref m8]), (m1, aI g 63 (upd (upd S 8 p) 9 q)), (m2, aI g 252 (pfF rn ps pf S))] H := hP
      have hD : va_D A [(m0, oB 9 [.ref m1, .ref m2, .ref m3, .ref m4, .int (psF rn ps), .int rn, .ref m5, .int ty, .ref m6, .ref m7, .int la, .int mn, .int ma, .int sn, .int so, .int ca, .int cm, .int kd, .ref m8]), (m1, aI g 63 (upd (upd S 8 p) 9 q)), (m2, aI g 252 (pfF rn ps pf S))] := hD
      refine lv_aload_n hx hb dX9_limits_47 rfl (lv_at hl 0 rfl) ?_
      refine va_get (D := g.1) (ci := 9) (v := .ref m1) (C := RX9) (T := TX9) (N := 19) hx hb hts iX9 hown hK hP 0 rfl rfl 0 (by decide) (hts (.fieldLink RX9 7 "StepAxisModel" "s" "[I") (List.mem_of_getElem? (i := 2) rfl)) (fun _ h9 => h9) rfl dX9_limits_48 ?_
      refine lv_bipush (v := 10) hx hb dX9_limits_51 (by decide +kernel) ?_
      refine zald (k := 10) hx hb hK hP 1 0 rfl rfl (IX.lit (by decide +kernel)) dX9_limits_53 ?_
      refine zTop (y := S 10) rfl ?_
      refine lv_iload_n hx hb dX9_limits_54 rfl (lv_at hl 1 rfl) ?_
      refine lv_iload_n hx hb dX9_limits_55 rfl (lv_at hl 2 rfl) ?_
      refine zSI (As := [.int (S 10), .int p, .int q]) (rest := []) (wc := []) (wr := [(m0, oB 9 [.ref m1, .ref m2, .ref m3, .ref m4, .int (psF rn ps), .int rn, .ref m5, .int ty, .ref m6, .ref m7, .int la, .int mn, .int ma, .int sn, .int so, .int ca, .int cm, .int kd, .ref m8]), (m1, aI g 63 (upd (upd S 8 p) 9 q)), (m2, aI g 252 (pfF rn ps pf S))]) (wc' := []) ⟨hx, hb, hml, hown, hts⟩ (r_in l g (S 10) p q) (va_cwS 3 hts gX9_limits_X9_in rfl rfl rfl (by decide +kernel) ⟨Nat.le_of_ble_eq_true rfl, Nat.le_of_ble_eq_true rfl⟩) hE hK hP hD hS hA [] [0, 1, 2] rfl rfl rfl rfl (by decide) rfl hl.1 rfl (lv_room (Nat.le_of_ble_eq_true rfl)) ⟨Nat.zero_le _, Nat.zero_le _⟩ dX9_limits_56 (fun H locs hP hD hS => ?_)
      have hP : va_P g.1 vwCl [(m0, oB 9 [.ref m1, .ref m2, .ref m3, .ref m4, .int (psF rn ps), .int rn, .ref m5, .int ty, .ref m6, .ref m7, .int la, .int mn, .int ma, .int sn, .int so, .int ca, .int cm, .int kd, .ref m8]), (m1, aI g 63 (upd (upd S 8 p) 9 q)), (m2, aI g 252 (pfF rn ps pf S))] H := hP
      have hD : va_D A [(m0, oB 9 [.ref m1, .ref m2, .ref m3, .ref m4, .int (psF rn ps), .int rn, .ref m5, .int ty, .ref m6, .ref m7, .int la, .int mn, .int ma, .int sn, .int so, .int ca, .int cm, .int kd, .ref m8]), (m1, aI g 63 (upd (upd S 8 p) 9 q)), (m2, aI g 252 (pfF rn ps pf S))] := hD
      refine lv_if_eq (tgt := 66) hx hb dX9_limits_59 (by decide) (fun c59 => ?_) (fun c59 => ?_)
      · have c59 := b01_f c59
        refine lv_iconst (v := 0) hx hb dX9_limits_66 (by decide +kernel) ?_
        exact zEi (v := 0) (ws' := [(m0, oB 9 [.ref m1, .ref m2, .ref m3, .ref m4, .int (psF rn ps), .int rn, .ref m5, .int ty, .ref m6, .ref m7, .int la, .int mn, .int ma, .int sn, .int so, .int ca, .int cm, .int kd, .ref m8]), (m1, aI g 63 (upd (upd S 8 p) 9 q)), (m2, aI g 252 (pfF rn ps pf S))]) hx hb hlocks hr rfl hK hP hD hS [0, 1, 2] rfl rfl (by unfold lmR; rw [if_pos ⟨c10, c21⟩]; exact (b01_0 c59).symm) (by simp only [if_pos (show lmP p q from ⟨c10, c21⟩)]) dX9_limits_67
      · have c59 := b01_t c59
        refine lv_iconst (v := 1) hx hb dX9_limits_62 (by decide +kernel) ?_
        refine lv_goto (tgt := 67) hx hb dX9_limits_63 (by decide) ?_
        exact zEi (v := 1) (ws' := [(m0, oB 9 [.ref m1, .ref m2, .ref m3, .ref m4, .int (psF rn ps), .int rn, .ref m5, .int ty, .ref m6, .ref m7, .int la, .int mn, .int ma, .int sn, .int so, .int ca, .int cm, .int kd, .ref m8]), (m1, aI g 63 (upd (upd S 8 p) 9 q)), (m2, aI g 252 (pfF rn ps pf S))]) hx hb hlocks hr rfl hK hP hD hS [0, 1, 2] rfl rfl (by unfold lmR; rw [if_pos ⟨c10, c21⟩]; exact (b01_1 c59).symm) (by simp only [if_pos (show lmP p q from ⟨c10, c21⟩)]) dX9_limits_67
    · have c21 := b01_f c21
      refine lv_ldc hx hb hown (hts (.constant RX9 53 (-1000001)) (List.mem_of_getElem? (i := 1) rfl)) dX9_limits_24 ?_
      exact zEi (v := (-1000001)) (ws' := [(m0, oB 9 [.ref m1, .ref m2, .ref m3, .ref m4, .int ps, .int rn, .ref m5, .int ty, .ref m6, .ref m7, .int la, .int mn, .int ma, .int sn, .int so, .int ca, .int cm, .int kd, .ref m8]), (m1, aI g 63 S), (m2, aI g 252 pf)]) hx hb hlocks hr rfl hK hP hD hS [0, 1, 2] rfl rfl (by unfold lmR; rw [if_neg (fun h => c21 h.2)]) (by simp only [if_neg (show ¬ lmP p q from fun h => c21 h.2)]) dX9_limits_26
set_option maxHeartbeats 4000000 in
set_option maxRecDepth 100000 in
theorem r_load (l : Launch) (g : G3) (m0 m1 m2 m3 m4 m5 m6 m7 m8 : Nat) (ps rn ty la mn ma sn so ca cm kd : Int32) (S pf : Nat → Int32) (p q w : Int32) (hps : 0 ≤ ps.toInt ∧ ps.toInt ≤ 4) (hnl : 0 ≤ (S 18).toInt ∧ (S 18).toInt ≤ 6) : MI l yX9_load wsX9_load (rk 1 22) g [.ref m0, .int p, .int q, .int w] [(m0, oB 9 [.ref m1, .ref m2, .ref m3, .ref m4, .int ps, .int rn, .ref m5, .int ty, .ref m6, .ref m7, .int la, .int mn, .int ma, .int sn, .int so, .int ca, .int cm, .int kd, .ref m8]), (m1, aI g 63 S), (m2, aI g 252 pf)] (adR (S 18) p q w) [(m0, oB 9 [.ref m1, .ref m2, .ref m3, .ref m4, .int (if adP (S 18) p q w then psF rn ps else ps), .int rn, .ref m5, .int ty, .ref m6, .ref m7, .int la, .int mn, .int ma, .int sn, .int so, .int ca, .int cm, .int kd, .ref m8]), (m1, aI g 63 (if adP (S 18) p q w then adS S p q w else S)), (m2, aI g 252 (if adP (S 18) p q w then pfF rn ps pf S else pf))] := by
  refine zWalk.met (Qc := fun A => zQi g (adR (S 18) p q w) [(m0, oB 9 [.ref m1, .ref m2, .ref m3, .ref m4, .int (if adP (S 18) p q w then psF rn ps else ps), .int rn, .ref m5, .int ty, .ref m6, .ref m7, .int la, .int mn, .int ma, .int sn, .int so, .int ca, .int cm, .int kd, .ref m8]), (m1, aI g 63 (if adP (S 18) p q w then adS S p q w else S)), (m2, aI g 252 (if adP (S 18) p q w then pfF rn ps pf S else pf))] A) (cc := cX9_load) (maxL := 5) (ret := (some .int)) ?_ (by decide) rfl (Nat.le_of_ble_eq_true rfl)
  intro pg ev sx mi args below meth cd A H locs ls hx hb hr hml hown hts hlocks hA hE hK hP hD hS hl
  have iX9 : ∀ w ∈ u_ws RX9 TX9 19, w ∈ wsX9_load := (fun _ h => (List.mem_cons_of_mem _ (List.mem_append_right _ h)))
  have hl : lv_has ls 5 [(0, .ref m0), (1, .int p), (2, .int q), (3, .int w)] := hl
  obtain ⟨k, hk⟩ : ∃ k, k = (S 18).toInt.toNat := ⟨_, rfl⟩
  have en : S 18 = nI k := by rw [hk]; exact zof hnl.1
  have hk6 : k ≤ 6 := by omega
  refine lv_iload_n hx hb dX9_load_0 rfl (lv_at hl 1 rfl) ?_
  refine lv_sipush (v := (-3000)) hx hb dX9_load_1 (by decide +kernel) ?_
  refine lv_sipush (v := 3000) hx hb dX9_load_4 (by decide +kernel) ?_
  refine zSI (As := [.int p, .int (-3000), .int 3000]) (rest := []) (wc := []) (wr := [(m0, oB 9 [.ref m1, .ref m2, .ref m3, .ref m4, .int ps, .int rn, .ref m5, .int ty, .ref m6, .ref m7, .int la, .int mn, .int ma, .int sn, .int so, .int ca, .int cm, .int kd, .ref m8]), (m1, aI g 63 S), (m2, aI g 252 pf)]) (wc' := []) ⟨hx, hb, hml, hown, hts⟩ (r_in l g p (-3000) 3000) (va_cwS 3 hts gX9_load_X9_in rfl rfl rfl (by decide +kernel) ⟨Nat.le_of_ble_eq_true rfl, Nat.le_of_ble_eq_true rfl⟩) hE hK hP hD hS hA [] [0, 1, 2] rfl rfl rfl rfl (by decide) rfl hl.1 rfl (lv_room (Nat.le_of_ble_eq_true rfl)) ⟨Nat.zero_le _, Nat.zero_le _⟩ dX9_load_7 (fun H locs hP hD hS => ?_)
  have hP : va_P g.1 vwCl [(m0, oB 9 [.ref m1, .ref m2, .ref m3, .ref m4, .int ps, .int rn, .ref m5, .int ty, .ref m6, .ref m7, .int la, .int mn, .int ma, .int sn, .int so, .int ca, .int cm, .int kd, .ref m8]), (m1, aI g 63 S), (m2, aI g 252 pf)] H := hP
  have hD : va_D A [(m0, oB 9 [.ref m1, .ref m2, .ref m3, .ref m4, .int ps, .int rn, .ref m5, .int ty, .ref m6, .ref m7, .int la, .int mn, .int ma, .int sn, .int so, .int ca, .int cm, .int kd, .ref m8]), (m1, aI g 63 S), (m2, aI g 252 pf)] := hD
  refine lv_if_eq (tgt := 35) hx hb dX9_load_10 (by decide) (fun c10 => ?_) (fun c10 => ?_)
  · have c10 := b01_f c10
    refine lv_ldc hx hb hown (hts (.constant RX9 53 (-1000001)) (List.mem_of_getElem? (i := 1) rfl)) dX9_load_35 ?_
    exact zEi (v := (-1000001)) (ws' := [(m0, oB 9 [.ref m1, .ref m2, .ref m3, .ref m4, .int ps, .int rn, .ref m5, .int ty, .ref m6, .ref m7, .int la, .int mn, .int ma, .int sn, .int so, .int ca, .int cm, .int kd, .ref m8]), (m1, aI g 63 S), (m2, aI g 252 pf)]) hx hb hlocks hr rfl hK hP hD hS [0, 1, 2] rfl rfl (by unfold adR; rw [if_neg (fun h => c10 h.1)]) (by simp only [if_neg (show ¬ adP (S 18) p q w from fun h => c10 h.1.1)]) dX9_load_37
  · have c10 := b01_t c10
    refine lv_iload_n hx hb dX9_load_13 rfl (lv_at hl 2 rfl) ?_
    refine lv_iload_n hx hb dX9_load_14 rfl (lv_at hl 1 rfl) ?_
    refine lv_sipush (v := 3000) hx hb dX9_load_15 (by decide +kernel) ?_
    refine zSI (As := [.int q, .int p, .int 3000]) (rest := []) (wc := []) (wr := [(m0, oB 9 [.ref m1, .ref m2, .ref m3, .ref m4, .int ps, .int rn, .ref m5, .int ty, .ref m6, .ref m7, .int la, .int mn, .int ma, .int sn, .int so, .int ca, .int cm, .int kd, .ref m8]), (m1, aI g 63 S), (m2, aI g 252 pf)]) (wc' := []) ⟨hx, hb, hml, hown, hts⟩ (r_in l g q p 3000) (va_cwS 3 hts gX9_load_X9_in rfl rfl rfl (by decide +kernel) ⟨Nat.le_of_ble_eq_true rfl, Nat.le_of_ble_eq_true rfl⟩) hE hK hP hD hS hA [] [0, 1, 2] rfl rfl rfl rfl (by decide) rfl hl.1 rfl (lv_room (Nat.le_of_ble_eq_true rfl)) ⟨Nat.zero_le _, Nat.zero_le _⟩ dX9_load_18 (fun H locs hP hD hS => ?_)
    have hP : va_P g.1 vwCl [(m0, oB 9 [.ref m1, .ref m2, .ref m3, .ref m4, .int ps, .int rn, .ref m5, .int ty, .ref m6, .ref m7, .int la, .int mn, .int ma, .int sn, .int so, .int ca, .int cm, .int kd, .ref m8]), (m1, aI g 63 S), (m2, aI g 252 pf)] H := hP
    have hD : va_D A [(m0, oB 9 [.ref m1, .ref m2, .ref m3, .ref m4, .int ps, .int rn, .ref m5, .int ty, .ref m6, .ref m7, .int la, .int mn, .int ma, .int sn, .int so, .int ca, .int cm, .int kd, .ref m8]), (m1, aI g 63 S), (m2, aI g 252 pf)] := hD
    refine lv_if_eq (tgt := 35) hx hb dX9_load_21 (by decide) (fun c21 => ?_) (fun c21 => ?_)
    · have c21 := b01_f c21
      refine lv_ldc hx hb hown (hts (.constant RX9 53 (-1000001)) (List.mem_of_getElem? (i := 1) rfl)) dX9_load_35 ?_
      exact zEi (v := (-1000001)) (ws' := [(m0, oB 9 [.ref m1, .ref m2, .ref m3, .ref m4, .int ps, .int rn, .ref m5, .int ty, .ref m6, .ref m7, .int la, .int mn, .int ma, .int sn, .int so, .int ca, .int cm, .int kd, .ref m8]), (m1, aI g 63 S), (m2, aI g 252 pf)]) hx hb hlocks hr rfl hK hP hD hS [0, 1, 2] rfl rfl (by unfold adR; rw [if_neg (fun h => c21 h.2.1)]) (by simp only [if_neg (show ¬ adP (S 18) p q w from fun h => c21 h.1.2.1)]) dX9_load_37
    · have c21 := b01_t c21
      refine lv_iload_n hx hb dX9_load_24 rfl (lv_at hl 3 rfl) ?_
      refine lv_iconst (v := 1) hx hb dX9_load_25 (by decide +kernel) ?_
      refine lv_sipush (v := 300) hx hb dX9_load_26 (by decide +kernel) ?_
      refine zSI (As := [.int w, .int 1, .int 300]) (rest := []) (wc := []) (wr := [(m0, oB 9 [.ref m1, .ref m2, .ref m3, .ref m4, .int ps, .int rn, .ref m5, .int ty, .ref m6, .ref m7, .int la, .int mn, .int ma, .int sn, .int so, .int ca, .int cm, .int kd, .ref m8]), (m1, aI g 63 S), (m2, aI g 252 pf)]) (wc' := []) ⟨hx, hb, hml, hown, hts⟩ (r_in l g w 1 300) (va_cwS 3 hts gX9_load_X9_in rfl rfl rfl (by decide +kernel) ⟨Nat.le_of_ble_eq_true rfl, Nat.le_of_ble_eq_true rfl⟩) hE hK hP hD hS hA [] [0, 1, 2] rfl rfl rfl rfl (by decide) rfl hl.1 rfl (lv_room (Nat.le_of_ble_eq_true rfl)) ⟨Nat.zero_le _, Nat.zero_le _⟩ dX9_load_29 (fun H locs hP hD hS => ?_)
      have hP : va_P g.1 vwCl [(m0, oB 9 [.ref m1, .ref m2, .ref m3, .ref m4, .int ps, .int rn, .ref m5, .int ty, .ref m6, .ref m7, .int la, .int mn, .int ma, .int sn, .int so, .int ca, .int cm, .int kd, .ref m8]), (m1, aI g 63 S), (m2, aI g 252 pf)] H := hP
      have hD : va_D A [(m0, oB 9 [.ref m1, .ref m2, .ref m3, .ref m4, .int ps, .int rn, .ref m5, .int ty, .ref m6, .ref m7, .int la, .int mn, .int ma, .int sn, .int so, .int ca, .int cm, .int kd, .ref m8]), (m1, aI g 63 S), (m2, aI g 252 pf)] := hD
      refine lv_if_ne (tgt := 38) hx hb dX9_load_32 (by decide) (fun c32 => ?_) (fun c32 => ?_)
      · have c32 := b01_t c32
        refine lv_aload_n hx hb dX9_load_38 rfl (lv_at hl 0 rfl) ?_
        refine va_get (D := g.1) (ci := 9) (v := .ref m1) (C := RX9) (T := TX9) (N := 19) hx hb hts iX9 hown hK hP 0 rfl rfl 0 (by decide) (hts (.fieldLink RX9 7 "StepAxisModel" "s" "[I") (List.mem_of_getElem? (i := 2) rfl)) (fun _ h9 => h9) rfl dX9_load_39 ?_
        refine lv_bipush (v := 18) hx hb dX9_load_42 (by decide +kernel) ?_
        refine zald (k := 18) hx hb hK hP 1 0 rfl rfl (IX.lit (by decide +kernel)) dX9_load_44 ?_
        refine lv_istore (lv' := [(4, .int (S 18)), (0, .ref m0), (1, .int p), (2, .int q), (3, .int w)]) hx hb dX9_load_45 hl (by decide) rfl (fun ls hl => ?_)
        refine lv_iload hx hb dX9_load_47 (lv_at hl 0 rfl) ?_
        refine lv_bipush (v := 6) hx hb dX9_load_49 (by decide +kernel) ?_
        refine lv_icmp_ne (tgt := 57) hx hb dX9_load_51 (by decide) (fun c51 => ?_) (fun c51 => ?_)
        · have hk5 : k < 6 := by have e := i6; have h : (S 18).toInt ≠ 6 := fun h => c51 ((zeq _ _).mpr (h.trans e.symm)); omega
          refine lv_aload_n hx hb dX9_load_57 rfl (lv_at hl 1 rfl) ?_
          refine zVV (As := []) (rest := []) (wc := [(m0, oB 9 [.ref m1, .ref m2, .ref m3, .ref m4, .int ps, .int rn, .ref m5, .int ty, .ref m6, .ref m7, .int la, .int mn, .int ma, .int sn, .int so, .int ca, .int cm, .int kd, .ref m8]), (m1, aI g 63 S), (m2, aI g 252 pf)]) (wr := []) (wc' := [(m0, oB 9 [.ref m1, .ref m2, .ref m3, .ref m4, .int (psF rn ps), .int rn, .ref m5, .int ty, .ref m6, .ref m7, .int la, .int mn, .int ma, .int sn, .int so, .int ca, .int cm, .int kd, .ref m8]), (m1, aI g 63 S), (m2, aI g 252 (pfF rn ps pf S))]) ⟨hx, hb, hml, hown, hts⟩ (r_changes l g m0 m1 m2 m3 m4 m5 m6 m7 m8 ps rn ty la mn ma sn so ca cm kd S pf hps) (cwV 0 hts gX9_load_X9_changes rfl rfl rfl (by decide +kernel) ⟨Nat.le_of_ble_eq_true rfl, Nat.le_of_ble_eq_true rfl⟩) hE hK hP hD hS hA 0 9 rfl rfl rfl [0, 1, 2] [] rfl rfl rfl rfl (by decide) rfl hl.1 rfl (lv_room (Nat.le_of_ble_eq_true rfl)) ⟨Nat.zero_le _, Nat.zero_le _⟩ dX9_load_58 (fun H locs hP hD hS => ?_)
          have hP : va_P g.1 vwCl [(m0, oB 9 [.ref m1, .ref m2, .ref m3, .ref m4, .int (psF rn ps), .int rn, .ref m5, .int ty, .ref m6, .ref m7, .int la, .int mn, .int ma, .int sn, .int so, .int ca, .int cm, .int kd, .ref m8]), (m1, aI g 63 S), (m2, aI g 252 (pfF rn ps pf S))] H := hP
          have hD : va_D A [(m0, oB 9 [.ref m1, .ref m2, .ref m3, .ref m4, .int (psF rn ps), .int rn, .ref m5, .int ty, .ref m6, .ref m7, .int la, .int mn, .int ma, .int sn, .int so, .int ca, .int cm, .int kd, .ref m8]), (m1, aI g 63 S), (m2, aI g 252 (pfF rn ps pf S))] := hD
          refine lv_aload_n hx hb dX9_load_61 rfl (lv_at hl 1 rfl) ?_
          refine va_get (D := g.1) (ci := 9) (v := .ref m1) (C := RX9) (T := TX9) (N := 19) hx hb hts iX9 hown hK hP 0 rfl rfl 0 (by decide) (hts (.fieldLink RX9 7 "StepAxisModel" "s" "[I") (List.mem_of_getElem? (i := 2) rfl)) (fun _ h9 => h9) rfl dX9_load_62 ?_
          refine lv_bipush (v := 19) hx hb dX9_load_65 (by decide +kernel) ?_
          refine lv_iconst (v := 3) hx hb dX9_load_67 (by decide +kernel) ?_
          refine lv_iload hx hb dX9_load_68 (lv_at hl 0 rfl) ?_
          refine lv_imul hx hb dX9_load_70 ?_
          refine lv_iadd hx hb dX9_load_71 ?_
          refine lv_iload_n hx hb dX9_load_72 rfl (lv_at hl 2 rfl) ?_
          refine zast (k := (19 + 3 * k)) hx hb hK hP hD hS 1 0 rfl rfl (IX.of (by rw [en]; exact ldx k) (by omega) (by decide)) dX9_load_73 (fun H locs hP hD hS => ?_)
          have hP : va_P g.1 vwCl [(m0, oB 9 [.ref m1, .ref m2, .ref m3, .ref m4, .int (psF rn ps), .int rn, .ref m5, .int ty, .ref m6, .ref m7, .int la, .int mn, .int ma, .int sn, .int so, .int ca, .int cm, .int kd, .ref m8]), (m1, aI g 63 (upd S (19 + 3 * k) p)), (m2, aI g 252 (pfF rn ps pf S))] H := hP
          have hD : va_D A [(m0, oB 9 [.ref m1, .ref m2, .ref m3, .ref m4, .int (psF rn ps), .int rn, .ref m5, .int ty, .ref m6, .ref m7, .int la, .int mn, .int ma, .int sn, .int so, .int ca, .int cm, .int kd, .ref m8]), (m1, aI g 63 (upd S (19 + 3 * k) p)), (m2, aI g 252 (pfF rn ps pf S))] := hD
          refine lv_aload_n hx hb dX9_load_74 rfl (lv_at hl 1 rfl) ?_
          refine va_get (D := g.1) (ci := 9) (v := .ref m1) (C := RX9) (T := TX9) (N := 19) hx hb hts iX9 hown hK hP 0 rfl rfl 0 (by decide) (hts (.fieldLink RX9 7 "StepAxisModel" "s" "[I") (List.mem_of_getElem? (i := 2) rfl)) (fun _ h9 => h9) rfl dX9_load_75 ?_
          refine lv_bipush (v := 19) hx hb dX9_load_78 (by decide +kernel) ?_
          refine lv_iconst (v := 3) hx hb dX9_load_80 (by decide +kernel) ?_
          refine lv_iload hx hb dX9_load_81 (lv_at hl 0 rfl) ?_
          refine lv_imul hx hb dX9_load_83 ?_
          refine lv_iadd hx hb dX9_load_84 ?_
          refine lv_iconst (v := 1) hx hb dX9_load_85 (by decide +kernel) ?_
          refine lv_iadd hx hb dX9_load_86 ?_
          refine lv_iload_n hx hb dX9_load_87 rfl (lv_at hl 3 rfl) ?_
          refine zast (k := (19 + 3 * k + 1)) hx hb hK hP hD hS 1 0 rfl rfl (IX.of (by rw [en]; exact ldx1 k) (by omega) (by decide)) dX9_load_88 (fun H locs hP hD hS => ?_)
          have hP : va_P g.1 vwCl [(m0, oB 9 [.ref m1, .ref m2, .ref m3, .ref m4, .int (psF rn ps), .int rn, .ref m5, .int ty, .ref m6, .ref m7, .int la, .int mn, .int ma, .int sn, .int so, .int ca, .int cm, .int kd, .ref m8]), (m1, aI g 63 (upd (upd S (19 + 3 * k) p) (19 + 3 * k + 1) q)), (m2, aI g 252 (pfF rn ps pf S))] H := hP
          have hD : va_D A [(m0, oB 9 [.ref m1, .ref m2, .ref m3, .ref m4, .int (psF rn ps), .int rn, .ref m5, .int ty, .ref m6, .ref m7, .int la, .int mn, .int ma, .int sn, .int so, .int ca, .int cm, .int kd, .ref m8]), (m1, aI g 63 (upd (upd S (19 + 3 * k) p) (19 + 3 * k + 1) q)), (m2, aI g 252 (pfF rn ps pf S))] := hD
          refine lv_aload_n hx hb dX9_load_89 rfl (lv_at hl 1 rfl) ?_
          refine va_get (D := g.1) (ci := 9) (v := .ref m1) (C := RX9) (T := TX9) (N := 19) hx hb hts iX9 hown hK hP 0 rfl rfl 0 (by decide) (hts (.fieldLink RX9 7 "StepAxisModel" "s" "[I") (List.mem_of_getElem? (i := 2) rfl)) (fun _ h9 => h9) rfl dX9_load_90 ?_
          refine lv_bipush (v := 19) hx hb dX9_load_93 (by decide +kernel) ?_
          refine lv_iconst (v := 3) hx hb dX9_load_95 (by decide +kernel) ?_
          refine lv_iload hx hb dX9_load_96 (lv_at hl 0 rfl) ?_
          refine lv_imul hx hb dX9_load_98 ?_
          refine lv_iadd hx hb dX9_load_99 ?_
          refine lv_iconst (v := 2) hx hb dX9_load_100 (by decide +kernel) ?_
          refine lv_iadd hx hb dX9_load_101 ?_
          refine lv_iload_n hx hb dX9_load_102 rfl (lv_at hl 4 rfl) ?_
          refine zast (k := (19 + 3 * k + 2)) hx hb hK hP hD hS 1 0 rfl rfl (IX.of (by rw [en]; exact ldx2 k) (by omega) (by decide)) dX9_load_103 (fun H locs hP hD hS => ?_)
          have hP : va_P g.1 vwCl [(m0, oB 9 [.ref m1, .ref m2, .ref m3, .ref m4, .int (psF rn ps), .int rn, .ref m5, .int ty, .ref m6, .ref m7, .int la, .int mn, .int ma, .int sn, .int so, .int ca, .int cm, .int kd, .ref m8]), (m1, aI g 63 (upd (upd (upd S (19 + 3 * k) p) (19 + 3 * k + 1) q) (19 + 3 * k + 2) w)), (m2, aI g 252 (pfF rn ps pf S))] H := hP
          have hD : va_D A [(m0, oB 9 [.ref m1, .ref m2, .ref m3, .ref m4, .int (psF rn ps), .int rn, .ref m5, .int ty, .ref m6, .ref m7, .int la, .int mn, .int ma, .int sn, .int so, .int ca, .int cm, .int kd, .ref m8]), (m1, aI g 63 (upd (upd (upd S (19 + 3 * k) p) (19 + 3 * k + 1) q) (19 + 3 * k + 2) w)), (m2, aI g 252 (pfF rn ps pf S))] := hD
          refine lv_aload_n hx hb dX9_load_104 rfl (lv_at hl 1 rfl) ?_
          refine va_get (D := g.1) (ci := 9) (v := .ref m1) (C := RX9) (T := TX9) (N := 19) hx hb hts iX9 hown hK hP 0 rfl rfl 0 (by decide) (hts (.fieldLink RX9 7 "StepAxisModel" "s" "[I") (List.mem_of_getElem? (i := 2) rfl)) (fun _ h9 => h9) rfl dX9_load_105 ?_
          refine lv_bipush (v := 18) hx hb dX9_load_108 (by decide +kernel) ?_
          refine lv_dup2_11 hx hb dX9_load_110 rfl rfl ?_
          refine zald (k := 18) hx hb hK hP 1 0 rfl rfl (IX.lit (by decide +kernel)) dX9_load_111 ?_
          refine zTop (y := S 18) (adS_18 S p q w k) ?_
          refine lv_iconst (v := 1) hx hb dX9_load_112 (by decide +kernel) ?_
          refine lv_iadd hx hb dX9_load_113 ?_
          refine zast (k := 18) hx hb hK hP hD hS 1 0 rfl rfl (IX.lit (by decide +kernel)) dX9_load_114 (fun H locs hP hD hS => ?_)
          have hP : va_P g.1 vwCl [(m0, oB 9 [.ref m1, .ref m2, .ref m3, .ref m4, .int (psF rn ps), .int rn, .ref m5, .int ty, .ref m6, .ref m7, .int la, .int mn, .int ma, .int sn, .int so, .int ca, .int cm, .int kd, .ref m8]), (m1, aI g 63 (upd (upd (upd (upd S (19 + 3 * k) p) (19 + 3 * k + 1) q) (19 + 3 * k + 2) w) 18 ((S 18) + 1))), (m2, aI g 252 (pfF rn ps pf S))] H := hP
          have hD : va_D A [(m0, oB 9 [.ref m1, .ref m2, .ref m3, .ref m4, .int (psF rn ps), .int rn, .ref m5, .int ty, .ref m6, .ref m7, .int la, .int mn, .int ma, .int sn, .int so, .int ca, .int cm, .int kd, .ref m8]), (m1, aI g 63 (upd (upd (upd (upd S (19 + 3 * k) p) (19 + 3 * k + 1) q) (19 + 3 * k + 2) w) 18 ((S 18) + 1))), (m2, aI g 252 (pfF rn ps pf S))] := hD
          rw [show upd (upd (upd (upd S (19 + 3 * k) p) (19 + 3 * k + 1) q) (19 + 3 * k + 2) w) 18 ((S 18) + 1) = adS S p q w from (by rw [hk]; rfl)] at hP hD
          refine lv_iload hx hb dX9_load_115 (lv_at hl 0 rfl) ?_
          exact zEi (v := S 18) (ws' := [(m0, oB 9 [.ref m1, .ref m2, .ref m3, .ref m4, .int (psF rn ps), .int rn, .ref m5, .int ty, .ref m6, .ref m7, .int la, .int mn, .int ma, .int sn, .int so, .int ca, .int cm, .int kd, .ref m8]), (m1, aI g 63 (adS S p q w)), (m2, aI g 252 (pfF rn ps pf S))]) hx hb hlocks hr rfl hK hP hD hS [0, 1, 2] rfl rfl (by unfold adR; rw [if_pos ⟨c10, c21, c32⟩, if_neg c51]) (by simp only [if_pos (show adP (S 18) p q w from ⟨⟨c10, c21, c32⟩, c51⟩)]) dX9_load_117
        · refine lv_ldc hx hb hown (hts (.constant RX9 57 (-1000003)) (List.mem_of_getElem? (i := 3) rfl)) dX9_load_54 ?_
          exact zEi (v := (-1000003)) (ws' := [(m0, oB 9 [.ref m1, .ref m2, .ref m3, .ref m4, .int ps, .int rn, .ref m5, .int ty, .ref m6, .ref m7, .int la, .int mn, .int ma, .int sn, .int so, .int ca, .int cm, .int kd, .ref m8]), (m1, aI g 63 S), (m2, aI g 252 pf)]) hx hb hlocks hr rfl hK hP hD hS [0, 1, 2] rfl rfl (by unfold adR; rw [if_pos ⟨c10, c21, c32⟩, if_pos c51]) (by simp only [if_neg (show ¬ adP (S 18) p q w from fun h => h.2 c51)]) dX9_load_56
      · have c32 := b01_f c32
        refine lv_ldc hx hb hown (hts (.constant RX9 53 (-1000001)) (List.mem_of_getElem? (i := 1) rfl)) dX9_load_35 ?_
        exact zEi (v := (-1000001)) (ws' := [(m0, oB 9 [.ref m1, .ref m2, .ref m3, .ref m4, .int ps, .int rn, .ref m5, .int ty, .ref m6, .ref m7, .int la, .int mn, .int ma, .int sn, .int so, .int ca, .int cm, .int kd, .ref m8]), (m1, aI g 63 S), (m2, aI g 252 pf)]) hx hb hlocks hr rfl hK hP hD hS [0, 1, 2] rfl rfl (by unfold adR; rw [if_neg (fun h => c32 h.2.2)]) (by simp only [if_neg (show ¬ adP (S 18) p q w from fun h => c32 h.1.2.2)]) dX9_load_37
set_option maxHeartbeats 4000000 in
set_option maxRecDepth 100000 in
theorem r_dropLoad (l : Launch) (g : G3) (m0 m1 m2 m3 m4 m5 m6 m7 m8 : Nat) (ps rn ty la mn ma sn so ca cm kd : Int32) (S pf : Nat → Int32) (j : Int32) (hps : 0 ≤ ps.toInt ∧ ps.toInt ≤ 4) (hnl : 0 ≤ (S 18).toInt ∧ (S 18).toInt ≤ 6) : MI l yX9_dropLoad wsX9_dropLoad (rk 1 21) g [.ref m0, .int j] [(m0, oB 9 [.ref m1, .ref m2, .ref m3, .ref m4, .int ps, .int rn, .ref m5, .int ty, .ref m6, .ref m7, .int la, .int mn, .int ma, .int sn, .int so, .int ca, .int cm, .int kd, .ref m8]), (m1, aI g 63 S), (m2, aI g 252 pf)] (drR (wtS S) (S 18) j) [(m0, oB 9 [.ref m1, .ref m2, .ref m3, .ref m4, .int (if drP (S 18) j then psF rn ps else ps), .int rn, .ref m5, .int ty, .ref m6, .ref m7, .int la, .int mn, .int ma, .int sn, .int so, .int ca, .int cm, .int kd, .ref m8]), (m1, aI g 63 (if drP (S 18) j then drS S j.toInt.toNat else S)), (m2, aI g 252 (if drP (S 18) j then pfF rn ps pf S else pf))] := by
  refine zWalk.met (Qc := fun A => zQi g (drR (wtS S) (S 18) j) [(m0, oB 9 [.ref m1, .ref m2, .ref m3, .ref m4, .int (if drP (S 18) j then psF rn ps else ps), .int rn, .ref m5, .int ty, .ref m6, .ref m7, .int la, .int mn, .int ma, .int sn, .int so, .int ca, .int cm, .int kd, .ref m8]), (m1, aI g 63 (if drP (S 18) j then drS S j.toInt.toNat else S)), (m2, aI g 252 (if drP (S 18) j then pfF rn ps pf S else pf))] A) (cc := cX9_dropLoad) (maxL := 4) (ret := (some .int)) ?_ (by decide) rfl (Nat.le_of_ble_eq_true rfl)
  intro pg ev sx mi args below meth cd A H locs ls hx hb hr hml hown hts hlocks hA hE hK hP hD hS hl
  have iX9 : ∀ w ∈ u_ws RX9 TX9 19, w ∈ wsX9_dropLoad := (fun _ h => (List.mem_cons_of_mem _ (List.mem_append_right _ h)))
  have hl : lv_has ls 4 [(0, .ref m0), (1, .int j)] := hl
  refine lv_iload_n hx hb dX9_dropLoad_0 rfl (lv_at hl 1 rfl) ?_
  refine lv_if_ge (tgt := 7) hx hb dX9_dropLoad_1 (by decide) (fun c1 => ?_) (fun c1 => ?_)
  · refine lv_iload_n hx hb dX9_dropLoad_7 rfl (lv_at hl 1 rfl) ?_
    refine lv_aload_n hx hb dX9_dropLoad_8 rfl (lv_at hl 0 rfl) ?_
    refine va_get (D := g.1) (ci := 9) (v := .ref m1) (C := RX9) (T := TX9) (N := 19) hx hb hts iX9 hown hK hP 0 rfl rfl 0 (by decide) (hts (.fieldLink RX9 7 "StepAxisModel" "s" "[I") (List.mem_of_getElem? (i := 2) rfl)) (fun _ h9 => h9) rfl dX9_dropLoad_9 ?_
    refine lv_bipush (v := 18) hx hb dX9_dropLoad_12 (by decide +kernel) ?_
    refine zald (k := 18) hx hb hK hP 1 0 rfl rfl (IX.lit (by decide +kernel)) dX9_dropLoad_14 ?_
    refine lv_icmp_lt (tgt := 21) hx hb dX9_dropLoad_15 (by decide) (fun c15 => ?_) (fun c15 => ?_)
    · have hj := (zlt _ _).mp c15
      have hj0 := zp0 c1
      obtain ⟨J, hJ⟩ : ∃ J, J = j.toInt.toNat := ⟨_, rfl⟩
      obtain ⟨N, hN⟩ : ∃ N, N = (S 18).toInt.toNat := ⟨_, rfl⟩
      have ej : j = nI J := by rw [hJ]; exact zof hj0
      have en : S 18 = nI N := by rw [hN]; exact zof hnl.1
      have hN6 : N ≤ 6 := by omega
      have hJN : J < N := by omega
      have hjn : j.toInt.toNat < (S 18).toInt.toNat := by omega
      refine lv_aload_n hx hb dX9_dropLoad_21 rfl (lv_at hl 0 rfl) ?_
      refine zVV (As := []) (rest := []) (wc := [(m0, oB 9 [.ref m1, .ref m2, .ref m3, .ref m4, .int ps, .int rn, .ref m5, .int ty, .ref m6, .ref m7, .int la, .int mn, .int ma, .int sn, .int so, .int ca, .int cm, .int kd, .ref m8]), (m1, aI g 63 S), (m2, aI g 252 pf)]) (wr := []) (wc' := [(m0, oB 9 [.ref m1, .ref m2, .ref m3, .ref m4, .int (psF rn ps), .int rn, .ref m5, .int ty, .ref m6, .ref m7, .int la, .int mn, .int ma, .int sn, .int so, .int ca, .int cm, .int kd, .ref m8]), (m1, aI g 63 S), (m2, aI g 252 (pfF rn ps pf S))]) ⟨hx, hb, hml, hown, hts⟩ (r_changes l g m0 m1 m2 m3 m4 m5 m6 m7 m8 ps rn ty la mn ma sn so ca cm kd S pf hps) (cwV 0 hts gX9_dropLoad_X9_changes rfl rfl rfl (by decide +kernel) ⟨Nat.le_of_ble_eq_true rfl, Nat.le_of_ble_eq_true rfl⟩) hE hK hP hD hS hA 0 9 rfl rfl rfl [0, 1, 2] [] rfl rfl rfl rfl (by decide) rfl hl.1 rfl (lv_room (Nat.le_of_ble_eq_true rfl)) ⟨Nat.zero_le _, Nat.zero_le _⟩ dX9_dropLoad_22 (fun H locs hP hD hS => ?_)
      have hP : va_P g.1 vwCl [(m0, oB 9 [.ref m1, .ref m2, .ref m3, .ref m4, .int (psF rn ps), .int rn, .ref m5, .int ty, .ref m6, .ref m7, .int la, .int mn, .int ma, .int sn, .int so, .int ca, .int cm, .int kd, .ref m8]), (m1, aI g 63 S), (m2, aI g 252 (pfF rn ps pf S))] H := hP
      have hD : va_D A [(m0, oB 9 [.ref m1, .ref m2, .ref m3, .ref m4, .int (psF rn ps), .int rn, .ref m5, .int ty, .ref m6, .ref m7, .int la, .int mn, .int ma, .int sn, .int so, .int ca, .int cm, .int kd, .ref m8]), (m1, aI g 63 S), (m2, aI g 252 (pfF rn ps pf S))] := hD
      refine lv_aload_n hx hb dX9_dropLoad_25 rfl (lv_at hl 0 rfl) ?_
      refine va_get (D := g.1) (ci := 9) (v := .ref m1) (C := RX9) (T := TX9) (N := 19) hx hb hts iX9 hown hK hP 0 rfl rfl 0 (by decide) (hts (.fieldLink RX9 7 "StepAxisModel" "s" "[I") (List.mem_of_getElem? (i := 2) rfl)) (fun _ h9 => h9) rfl dX9_dropLoad_26 ?_
      refine lv_bipush (v := 19) hx hb dX9_dropLoad_29 (by decide +kernel) ?_
      refine lv_iconst (v := 3) hx hb dX9_dropLoad_31 (by decide +kernel) ?_
      refine lv_iload_n hx hb dX9_dropLoad_32 rfl (lv_at hl 1 rfl) ?_
      refine lv_imul hx hb dX9_dropLoad_33 ?_
      refine lv_iadd hx hb dX9_dropLoad_34 ?_
      refine lv_iconst (v := 2) hx hb dX9_dropLoad_35 (by decide +kernel) ?_
      refine lv_iadd hx hb dX9_dropLoad_36 ?_
      refine zald (k := (19 + 3 * J + 2)) hx hb hK hP 1 0 rfl rfl (IX.of (by rw [ej]; exact ldx2 J) (by omega) (by decide)) dX9_dropLoad_37 ?_
      refine lv_istore_n (lv' := [(2, .int (S (19 + 3 * J + 2))), (0, .ref m0), (1, .int j)]) hx hb dX9_dropLoad_38 rfl hl (by decide) rfl (fun ls hl => ?_)
      refine lv_aload_n hx hb dX9_dropLoad_39 rfl (lv_at hl 1 rfl) ?_
      refine va_get (D := g.1) (ci := 9) (v := .ref m1) (C := RX9) (T := TX9) (N := 19) hx hb hts iX9 hown hK hP 0 rfl rfl 0 (by decide) (hts (.fieldLink RX9 7 "StepAxisModel" "s" "[I") (List.mem_of_getElem? (i := 2) rfl)) (fun _ h9 => h9) rfl dX9_dropLoad_40 ?_
      refine lv_bipush (v := 18) hx hb dX9_dropLoad_43 (by decide +kernel) ?_
      refine lv_dup2_11 hx hb dX9_dropLoad_45 rfl rfl ?_
      refine zald (k := 18) hx hb hK hP 1 0 rfl rfl (IX.lit (by decide +kernel)) dX9_dropLoad_46 ?_
      refine lv_iconst (v := 1) hx hb dX9_dropLoad_47 (by decide +kernel) ?_
      refine lv_isub hx hb dX9_dropLoad_48 ?_
      refine zast (k := 18) hx hb hK hP hD hS 1 0 rfl rfl (IX.lit (by decide +kernel)) dX9_dropLoad_49 (fun H locs hP hD hS => ?_)
      have hP : va_P g.1 vwCl [(m0, oB 9 [.ref m1, .ref m2, .ref m3, .ref m4, .int (psF rn ps), .int rn, .ref m5, .int ty, .ref m6, .ref m7, .int la, .int mn, .int ma, .int sn, .int so, .int ca, .int cm, .int kd, .ref m8]), (m1, aI g 63 (upd S 18 ((S 18) - 1))), (m2, aI g 252 (pfF rn ps pf S))] H := hP
      have hD : va_D A [(m0, oB 9 [.ref m1, .ref m2, .ref m3, .ref m4, .int (psF rn ps), .int rn, .ref m5, .int ty, .ref m6, .ref m7, .int la, .int mn, .int ma, .int sn, .int so, .int ca, .int cm, .int kd, .ref m8]), (m1, aI g 63 (upd S 18 ((S 18) - 1))), (m2, aI g 252 (pfF rn ps pf S))] := hD
      refine lv_bipush (v := 19) hx hb dX9_dropLoad_50 (by decide +kernel) ?_
      refine lv_iconst (v := 3) hx hb dX9_dropLoad_52 (by decide +kernel) ?_
      refine lv_iload_n hx hb dX9_dropLoad_53 rfl (lv_at hl 2 rfl) ?_
      refine lv_imul hx hb dX9_dropLoad_54 ?_
      refine lv_iadd hx hb dX9_dropLoad_55 ?_
      refine lv_istore_n (lv' := [(3, .int (19 + (3 * j))), (2, .int (S (19 + 3 * J + 2))), (0, .ref m0), (1, .int j)]) hx hb dX9_dropLoad_56 rfl hl (by decide) rfl (fun ls hl => ?_)
      rw [show upd S 18 ((S 18) - 1) = drL S J (19 + 3 * J) from (drL_0 S J).symm] at hP hD
      have lp57 : ∀ (fu : Nat) (k : Nat) (i : Int32), (19 + 3 * J ≤ k) → (k ≤ 19 + 3 * (N - 1)) → (i = nI k) → (19 + 3 * (N - 1) - k) < fu → ∀ (H : Heap) (locs : List Loc), va_P g.1 vwCl [(m0, oB 9 [.ref m1, .ref m2, .ref m3, .ref m4, .int (psF rn ps), .int rn, .ref m5, .int ty, .ref m6, .ref m7, .int la, .int mn, .int ma, .int sn, .int so, .int ca, .int cm, .int kd, .ref m8]), (m1, aI g 63 (drL S J k)), (m2, aI g 252 (pfF rn ps pf S))] H → va_D A [(m0, oB 9 [.ref m1, .ref m2, .ref m3, .ref m4, .int (psF rn ps), .int rn, .ref m5, .int ty, .ref m6, .ref m7, .int la, .int mn, .int ma, .int sn, .int so, .int ca, .int cm, .int kd, .ref m8]), (m1, aI g 63 (drL S J k)), (m2, aI g 252 (pfF rn ps pf S))] → va_S A sx.heap H locs → ∀ (ls : Array Slot), lv_has ls 4 [(3, .int i), (2, .int (S (19 + 3 * J + 2))), (0, .ref m0), (1, .int j)] → W pg l ev (rk 1 21) sx mi args below meth cd H locs 0 0 (MQ below (zQi g (drR (wtS S) (S 18) j) [(m0, oB 9 [.ref m1, .ref m2, .ref m3, .ref m4, .int (if drP (S 18) j then psF rn ps else ps), .int rn, .ref m5, .int ty, .ref m6, .ref m7, .int la, .int mn, .int ma, .int sn, .int so, .int ca, .int cm, .int kd, .ref m8]), (m1, aI g 63 (if drP (S 18) j then drS S j.toInt.toNat else S)), (m2, aI g 252 (if drP (S 18) j then pfF rn ps pf S else pf))] A) args sx 0 0 A) (F0 mi 57 ls []) := by
        intro fu
        induction fu with
        | zero =>
          intro k i hk1 hk ei hmu
          exact absurd hmu (Nat.not_lt_zero _)
        | succ fu ih =>
          intro k i hk1 hk ei hmu H locs hP hD hS ls hl
          refine lv_iload_n hx hb dX9_dropLoad_57 rfl (lv_at hl 0 rfl) ?_
          refine lv_bipush (v := 19) hx hb dX9_dropLoad_58 (by decide +kernel) ?_
          refine lv_iconst (v := 3) hx hb dX9_dropLoad_60 (by decide +kernel) ?_
          refine lv_aload_n hx hb dX9_dropLoad_61 rfl (lv_at hl 2 rfl) ?_
          refine va_get (D := g.1) (ci := 9) (v := .ref m1) (C := RX9) (T := TX9) (N := 19) hx hb hts iX9 hown hK hP 0 rfl rfl 0 (by decide) (hts (.fieldLink RX9 7 "StepAxisModel" "s" "[I") (List.mem_of_getElem? (i := 2) rfl)) (fun _ h9 => h9) rfl dX9_dropLoad_62 ?_
          refine lv_bipush (v := 18) hx hb dX9_dropLoad_65 (by decide +kernel) ?_
          refine zald (k := 18) hx hb hK hP 1 0 rfl rfl (IX.lit (by decide +kernel)) dX9_dropLoad_67 ?_
          refine zTop (y := nI (N - 1)) (by rw [drL_18, en]; exact nI_m1 (by omega)) ?_
          refine lv_imul hx hb dX9_dropLoad_68 ?_
          refine lv_iadd hx hb dX9_dropLoad_69 ?_
          refine zTop (y := nI (19 + 3 * (N - 1))) (ldx _) ?_
          refine lv_icmp_ge (tgt := 93) hx hb dX9_dropLoad_70 (by decide) (fun c70 => ?_) (fun c70 => ?_)
          · have hkn : drL S J k = drL S j.toInt.toNat (19 + 3 * ((S 18).toInt.toNat - 1)) := by rw [← hJ, ← hN, show k = 19 + 3 * (N - 1) from Nat.le_antisymm hk (nle_of (by omega) (by omega) (by rw [ei] at c70; exact c70))]
            refine lv_iload_n hx hb dX9_dropLoad_93 rfl (lv_at hl 1 rfl) ?_
            exact zEi (v := S (19 + 3 * J + 2)) (ws' := [(m0, oB 9 [.ref m1, .ref m2, .ref m3, .ref m4, .int (psF rn ps), .int rn, .ref m5, .int ty, .ref m6, .ref m7, .int la, .int mn, .int ma, .int sn, .int so, .int ca, .int cm, .int kd, .ref m8]), (m1, aI g 63 (drL S J k)), (m2, aI g 252 (pfF rn ps pf S))]) hx hb hlocks hr rfl hK hP hD hS [0, 1, 2] rfl rfl (by unfold drR; rw [if_neg (zgt c1), if_pos c15, ← hJ]; rfl) (by simp only [if_pos (show drP (S 18) j from ⟨c1, c15⟩)]; rw [hkn]; rfl) dX9_dropLoad_94
          · have hlt : k + 1 ≤ 19 + 3 * (N - 1) := nlt_of (n := 19 + 3 * (N - 1)) (by omega) (by rw [ei] at c70; exact c70)
            refine lv_aload_n hx hb dX9_dropLoad_73 rfl (lv_at hl 2 rfl) ?_
            refine va_get (D := g.1) (ci := 9) (v := .ref m1) (C := RX9) (T := TX9) (N := 19) hx hb hts iX9 hown hK hP 0 rfl rfl 0 (by decide) (hts (.fieldLink RX9 7 "StepAxisModel" "s" "[I") (List.mem_of_getElem? (i := 2) rfl)) (fun _ h9 => h9) rfl dX9_dropLoad_74 ?_
            refine lv_iload_n hx hb dX9_dropLoad_77 rfl (lv_at hl 0 rfl) ?_
            refine lv_aload_n hx hb dX9_dropLoad_78 rfl (lv_at hl 2 rfl) ?_
            refine va_get (D := g.1) (ci := 9) (v := .ref m1) (C := RX9) (T := TX9) (N := 19) hx hb hts iX9 hown hK hP 0 rfl rfl 0 (by decide) (hts (.fieldLink RX9 7 "StepAxisModel" "s" "[I") (List.mem_of_getElem? (i := 2) rfl)) (fun _ h9 => h9) rfl dX9_dropLoad_79 ?_
            refine lv_iload_n hx hb dX9_dropLoad_82 rfl (lv_at hl 0 rfl) ?_
            refine lv_iconst (v := 3) hx hb dX9_dropLoad_83 (by decide +kernel) ?_
            refine lv_iadd hx hb dX9_dropLoad_84 ?_
            refine zald (k := (k + 3)) hx hb hK hP 1 0 rfl rfl (IX.of (by rw [ei]; exact nI_add k 3) (by omega) (by decide)) dX9_dropLoad_85 ?_
            refine zTop (y := S (k + 3)) (drL_r S hk1) ?_
            refine zast (k := k) hx hb hK hP hD hS 1 0 rfl rfl (IX.of ei (by omega) (by decide)) dX9_dropLoad_86 (fun H locs hP hD hS => ?_)
            have hP : va_P g.1 vwCl [(m0, oB 9 [.ref m1, .ref m2, .ref m3, .ref m4, .int (psF rn ps), .int rn, .ref m5, .int ty, .ref m6, .ref m7, .int la, .int mn, .int ma, .int sn, .int so, .int ca, .int cm, .int kd, .ref m8]), (m1, aI g 63 (upd (drL S J k) k (S (k + 3)))), (m2, aI g 252 (pfF rn ps pf S))] H := hP
            have hD : va_D A [(m0, oB 9 [.ref m1, .ref m2, .ref m3, .ref m4, .int (psF rn ps), .int rn, .ref m5, .int ty, .ref m6, .ref m7, .int la, .int mn, .int ma, .int sn, .int so, .int ca, .int cm, .int kd, .ref m8]), (m1, aI g 63 (upd (drL S J k) k (S (k + 3)))), (m2, aI g 252 (pfF rn ps pf S))] := hD
            rw [show upd (drL S J k) k (S (k + 3)) = drL S J (k + 1) from drL_s S hk1] at hP hD
            refine lv_iinc (v := i + 1) (lv' := [(3, .int (i + 1)), (2, .int (S (19 + 3 * J + 2))), (0, .ref m0), (1, .int j)]) hx hb dX9_dropLoad_87 hl (k := 0) rfl (by rfl) (by decide) rfl (fun ls hl => ?_)
            refine lv_goto (tgt := 57) hx hb dX9_dropLoad_90 (by decide) ?_
            exact ih (k + 1) (i + 1) (by omega) hlt (by rw [ei]; exact nI_1 k) (by omega) _ _ (zP_sub hP [0, 1, 2] rfl) (hD.sub [0, 1, 2] rfl rfl) hS ls (lv_sub hl [0, 1, 2, 3] rfl)
      exact lp57 ((19 + 3 * (N - 1) - (19 + 3 * J)) + 1) (19 + 3 * J) (19 + 3 * j) (Nat.le_refl _) (by omega) ((congrArg (fun z => (19 : Int32) + 3 * z) ej).trans (ldx J)) (Nat.lt_succ_self _) _ _ (zP_sub hP [0, 1, 2] rfl) (hD.sub [0, 1, 2] rfl rfl) hS ls (lv_sub hl [0, 1, 2, 3] rfl)
    · refine lv_ldc hx hb hown (hts (.constant RX9 58 (-1000002)) (List.mem_of_getElem? (i := 3) rfl)) dX9_dropLoad_18 ?_
      exact zEi (v := (-1000002)) (ws' := [(m0, oB 9 [.ref m1, .ref m2, .ref m3, .ref m4, .int ps, .int rn, .ref m5, .int ty, .ref m6, .ref m7, .int la, .int mn, .int ma, .int sn, .int so, .int ca, .int cm, .int kd, .ref m8]), (m1, aI g 63 S), (m2, aI g 252 pf)]) hx hb hlocks hr rfl hK hP hD hS [0, 1, 2] rfl rfl (by unfold drR; rw [if_neg (zgt c1), if_neg c15]) (by simp only [if_neg (show ¬ drP (S 18) j from fun h => c15 h.2)]) dX9_dropLoad_20
  · refine lv_ldc hx hb hown (hts (.constant RX9 53 (-1000001)) (List.mem_of_getElem? (i := 1) rfl)) dX9_dropLoad_4 ?_
    exact zEi (v := (-1000001)) (ws' := [(m0, oB 9 [.ref m1, .ref m2, .ref m3, .ref m4, .int ps, .int rn, .ref m5, .int ty, .ref m6, .ref m7, .int la, .int mn, .int ma, .int sn, .int so, .int ca, .int cm, .int kd, .ref m8]), (m1, aI g 63 S), (m2, aI g 252 pf)]) hx hb hlocks hr rfl hK hP hD hS [0, 1, 2] rfl rfl (by unfold drR; rw [if_pos (by rw [zlt]; rw [zle] at c1; omega)]) (by simp only [if_neg (show ¬ drP (S 18) j from fun h => c1 h.1)]) dX9_dropLoad_6
set_option maxHeartbeats 4000000 in
set_option maxRecDepth 100000 in
theorem r_loadOf (l : Launch) (g : G3) (m0 m1 m2 m3 m4 m5 m6 m7 m8 : Nat) (ps rn ty la mn ma sn so ca cm kd : Int32) (S : Nat → Int32) (j w : Int32) (hnl : 0 ≤ (S 18).toInt ∧ (S 18).toInt ≤ 6) : MI l yX9_loadOf wsX9_loadOf (rk 1 22) g [.ref m0, .int j, .int w] [(m0, oB 9 [.ref m1, .ref m2, .ref m3, .ref m4, .int ps, .int rn, .ref m5, .int ty, .ref m6, .ref m7, .int la, .int mn, .int ma, .int sn, .int so, .int ca, .int cm, .int kd, .ref m8]), (m1, aI g 63 S)] (prR (frS S) (toS S) (wtS S) (S 18) j w) [(m0, oB 9 [.ref m1, .ref m2, .ref m3, .ref m4, .int ps, .int rn, .ref m5, .int ty, .ref m6, .ref m7, .int la, .int mn, .int ma, .int sn, .int so, .int ca, .int cm, .int kd, .ref m8]), (m1, aI g 63 S)] := by
  refine zWalk.met (Qc := fun A => zQi g (prR (frS S) (toS S) (wtS S) (S 18) j w) [(m0, oB 9 [.ref m1, .ref m2, .ref m3, .ref m4, .int ps, .int rn, .ref m5, .int ty, .ref m6, .ref m7, .int la, .int mn, .int ma, .int sn, .int so, .int ca, .int cm, .int kd, .ref m8]), (m1, aI g 63 S)] A) (cc := cX9_loadOf) (maxL := 3) (ret := (some .int)) ?_ (by decide) rfl (Nat.le_of_ble_eq_true rfl)
  intro pg ev sx mi args below meth cd A H locs ls hx hb hr hml hown hts hlocks hA hE hK hP hD hS hl
  have iX9 : ∀ w ∈ u_ws RX9 TX9 19, w ∈ wsX9_loadOf := (fun _ h => (List.mem_cons_of_mem _ (List.mem_append_right _ h)))
  have hl : lv_has ls 3 [(0, .ref m0), (1, .int j), (2, .int w)] := hl
  refine lv_iload_n hx hb dX9_loadOf_0 rfl (lv_at hl 1 rfl) ?_
  refine lv_if_lt (tgt := 13) hx hb dX9_loadOf_1 (by decide) (fun c1 => ?_) (fun c1 => ?_)
  · refine lv_ldc hx hb hown (hts (.constant RX9 53 (-1000001)) (List.mem_of_getElem? (i := 1) rfl)) dX9_loadOf_13 ?_
    exact zEi (v := (-1000001)) (ws' := [(m0, oB 9 [.ref m1, .ref m2, .ref m3, .ref m4, .int ps, .int rn, .ref m5, .int ty, .ref m6, .ref m7, .int la, .int mn, .int ma, .int sn, .int so, .int ca, .int cm, .int kd, .ref m8]), (m1, aI g 63 S)]) hx hb hlocks hr rfl hK hP hD hS [0, 1] rfl rfl (by unfold prR; rw [if_neg (fun h => h.1 c1)]) rfl dX9_loadOf_15
  · refine lv_iload_n hx hb dX9_loadOf_4 rfl (lv_at hl 2 rfl) ?_
    refine lv_iconst (v := 0) hx hb dX9_loadOf_5 (by decide +kernel) ?_
    refine lv_iconst (v := 2) hx hb dX9_loadOf_6 (by decide +kernel) ?_
    refine zSI (As := [.int w, .int 0, .int 2]) (rest := []) (wc := []) (wr := [(m0, oB 9 [.ref m1, .ref m2, .ref m3, .ref m4, .int ps, .int rn, .ref m5, .int ty, .ref m6, .ref m7, .int la, .int mn, .int ma, .int sn, .int so, .int ca, .int cm, .int kd, .ref m8]), (m1, aI g 63 S)]) (wc' := []) ⟨hx, hb, hml, hown, hts⟩ (r_in l g w 0 2) (va_cwS 3 hts gX9_loadOf_X9_in rfl rfl rfl (by decide +kernel) ⟨Nat.le_of_ble_eq_true rfl, Nat.le_of_ble_eq_true rfl⟩) hE hK hP hD hS hA [] [0, 1] rfl rfl rfl rfl (by decide) rfl hl.1 rfl (lv_room (Nat.le_of_ble_eq_true rfl)) ⟨Nat.zero_le _, Nat.zero_le _⟩ dX9_loadOf_7 (fun H locs hP hD hS => ?_)
    have hP : va_P g.1 vwCl [(m0, oB 9 [.ref m1, .ref m2, .ref m3, .ref m4, .int ps, .int rn, .ref m5, .int ty, .ref m6, .ref m7, .int la, .int mn, .int ma, .int sn, .int so, .int ca, .int cm, .int kd, .ref m8]), (m1, aI g 63 S)] H := hP
    have hD : va_D A [(m0, oB 9 [.ref m1, .ref m2, .ref m3, .ref m4, .int ps, .int rn, .ref m5, .int ty, .ref m6, .ref m7, .int la, .int mn, .int ma, .int sn, .int so, .int ca, .int cm, .int kd, .ref m8]), (m1, aI g 63 S)] := hD
    refine lv_if_ne (tgt := 16) hx hb dX9_loadOf_10 (by decide) (fun c10 => ?_) (fun c10 => ?_)
    · have c10 := b01_t c10
      refine lv_iload_n hx hb dX9_loadOf_16 rfl (lv_at hl 1 rfl) ?_
      refine lv_aload_n hx hb dX9_loadOf_17 rfl (lv_at hl 0 rfl) ?_
      refine va_get (D := g.1) (ci := 9) (v := .ref m1) (C := RX9) (T := TX9) (N := 19) hx hb hts iX9 hown hK hP 0 rfl rfl 0 (by decide) (hts (.fieldLink RX9 7 "StepAxisModel" "s" "[I") (List.mem_of_getElem? (i := 2) rfl)) (fun _ h9 => h9) rfl dX9_loadOf_18 ?_
      refine lv_bipush (v := 18) hx hb dX9_loadOf_21 (by decide +kernel) ?_
      refine zald (k := 18) hx hb hK hP 1 0 rfl rfl (IX.lit (by decide +kernel)) dX9_loadOf_23 ?_
      refine lv_icmp_lt (tgt := 32) hx hb dX9_loadOf_24 (by decide) (fun c24 => ?_) (fun c24 => ?_)
      · refine lv_aload_n hx hb dX9_loadOf_32 rfl (lv_at hl 0 rfl) ?_
        refine va_get (D := g.1) (ci := 9) (v := .ref m1) (C := RX9) (T := TX9) (N := 19) hx hb hts iX9 hown hK hP 0 rfl rfl 0 (by decide) (hts (.fieldLink RX9 7 "StepAxisModel" "s" "[I") (List.mem_of_getElem? (i := 2) rfl)) (fun _ h9 => h9) rfl dX9_loadOf_33 ?_
        refine lv_bipush (v := 19) hx hb dX9_loadOf_36 (by decide +kernel) ?_
        refine lv_iconst (v := 3) hx hb dX9_loadOf_38 (by decide +kernel) ?_
        refine lv_iload_n hx hb dX9_loadOf_39 rfl (lv_at hl 1 rfl) ?_
        refine lv_imul hx hb dX9_loadOf_40 ?_
        refine lv_iadd hx hb dX9_loadOf_41 ?_
        refine lv_iload_n hx hb dX9_loadOf_42 rfl (lv_at hl 2 rfl) ?_
        refine lv_iadd hx hb dX9_loadOf_43 ?_
        refine zald (k := (19 + 3 * j.toInt.toNat + w.toInt.toNat)) hx hb hK hP 1 0 rfl rfl (IX.of (ix3 c1 c10 (by have := (zlt _ _).mp c24; omega)).1 (ix3 c1 c10 (by have := (zlt _ _).mp c24; omega)).2 (by decide)) dX9_loadOf_44 ?_
        exact zEi (v := S (19 + 3 * j.toInt.toNat + w.toInt.toNat)) (ws' := [(m0, oB 9 [.ref m1, .ref m2, .ref m3, .ref m4, .int ps, .int rn, .ref m5, .int ty, .ref m6, .ref m7, .int la, .int mn, .int ma, .int sn, .int so, .int ca, .int cm, .int kd, .ref m8]), (m1, aI g 63 S)]) hx hb hlocks hr rfl hK hP hD hS [0, 1] rfl rfl (pr_eq S c1 c10 c24).symm rfl dX9_loadOf_45
      · refine lv_ldc hx hb hown (hts (.constant RX9 59 (-1000004)) (List.mem_of_getElem? (i := 3) rfl)) dX9_loadOf_27 ?_
        refine lv_goto (tgt := 45) hx hb dX9_loadOf_29 (by decide) ?_
        exact zEi (v := (-1000004)) (ws' := [(m0, oB 9 [.ref m1, .ref m2, .ref m3, .ref m4, .int ps, .int rn, .ref m5, .int ty, .ref m6, .ref m7, .int la, .int mn, .int ma, .int sn, .int so, .int ca, .int cm, .int kd, .ref m8]), (m1, aI g 63 S)]) hx hb hlocks hr rfl hK hP hD hS [0, 1] rfl rfl (by unfold prR; rw [if_pos ⟨c1, c10⟩, if_neg c24]) rfl dX9_loadOf_45
    · have c10 := b01_f c10
      refine lv_ldc hx hb hown (hts (.constant RX9 53 (-1000001)) (List.mem_of_getElem? (i := 1) rfl)) dX9_loadOf_13 ?_
      exact zEi (v := (-1000001)) (ws' := [(m0, oB 9 [.ref m1, .ref m2, .ref m3, .ref m4, .int ps, .int rn, .ref m5, .int ty, .ref m6, .ref m7, .int la, .int mn, .int ma, .int sn, .int so, .int ca, .int cm, .int kd, .ref m8]), (m1, aI g 63 S)]) hx hb hlocks hr rfl hK hP hD hS [0, 1] rfl rfl (by unfold prR; rw [if_neg (fun h => c10 h.2)]) rfl dX9_loadOf_15
set_option maxHeartbeats 4000000 in
set_option maxRecDepth 100000 in
theorem r_loadAt (l : Launch) (g : G3) (m0 m1 m2 m3 m4 m5 m6 m7 m8 : Nat) (ps rn ty la mn ma sn so ca cm kd : Int32) (S : Nat → Int32) (p : Int32) (hnl : 0 ≤ (S 18).toInt ∧ (S 18).toInt ≤ 6) : MI l yX9_loadAt wsX9_loadAt (rk 2 45) g [.ref m0, .int p] [(m0, oB 9 [.ref m1, .ref m2, .ref m3, .ref m4, .int ps, .int rn, .ref m5, .int ty, .ref m6, .ref m7, .int la, .int mn, .int ma, .int sn, .int so, .int ca, .int cm, .int kd, .ref m8]), (m1, aI g 63 S)] (laR S p) [(m0, oB 9 [.ref m1, .ref m2, .ref m3, .ref m4, .int ps, .int rn, .ref m5, .int ty, .ref m6, .ref m7, .int la, .int mn, .int ma, .int sn, .int so, .int ca, .int cm, .int kd, .ref m8]), (m1, aI g 63 S)] := by
  refine zWalk.met (Qc := fun A => zQi g (laR S p) [(m0, oB 9 [.ref m1, .ref m2, .ref m3, .ref m4, .int ps, .int rn, .ref m5, .int ty, .ref m6, .ref m7, .int la, .int mn, .int ma, .int sn, .int so, .int ca, .int cm, .int kd, .ref m8]), (m1, aI g 63 S)] A) (cc := cX9_loadAt) (maxL := 2) (ret := (some .int)) ?_ (by decide) rfl (Nat.le_of_ble_eq_true rfl)
  intro pg ev sx mi args below meth cd A H locs ls hx hb hr hml hown hts hlocks hA hE hK hP hD hS hl
  have hl : lv_has ls 2 [(0, .ref m0), (1, .int p)] := hl
  refine lv_iload_n hx hb dX9_loadAt_0 rfl (lv_at hl 1 rfl) ?_
  refine lv_sipush (v := (-3000)) hx hb dX9_loadAt_1 (by decide +kernel) ?_
  refine lv_sipush (v := 3000) hx hb dX9_loadAt_4 (by decide +kernel) ?_
  refine zSI (As := [.int p, .int (-3000), .int 3000]) (rest := []) (wc := []) (wr := [(m0, oB 9 [.ref m1, .ref m2, .ref m3, .ref m4, .int ps, .int rn, .ref m5, .int ty, .ref m6, .ref m7, .int la, .int mn, .int ma, .int sn, .int so, .int ca, .int cm, .int kd, .ref m8]), (m1, aI g 63 S)]) (wc' := []) ⟨hx, hb, hml, hown, hts⟩ (r_in l g p (-3000) 3000) (va_cwS 3 hts gX9_loadAt_X9_in rfl rfl rfl (by decide +kernel) ⟨Nat.le_of_ble_eq_true rfl, Nat.le_of_ble_eq_true rfl⟩) hE hK hP hD hS hA [] [0, 1] rfl rfl rfl rfl (by decide) rfl hl.1 rfl (lv_room (Nat.le_of_ble_eq_true rfl)) ⟨Nat.zero_le _, Nat.zero_le _⟩ dX9_loadAt_7 (fun H locs hP hD hS => ?_)
  have hP : va_P g.1 vwCl [(m0, oB 9 [.ref m1, .ref m2, .ref m3, .ref m4, .int ps, .int rn, .ref m5, .int ty, .ref m6, .ref m7, .int la, .int mn, .int ma, .int sn, .int so, .int ca, .int cm, .int kd, .ref m8]), (m1, aI g 63 S)] H := hP
  have hD : va_D A [(m0, oB 9 [.ref m1, .ref m2, .ref m3, .ref m4, .int ps, .int rn, .ref m5, .int ty, .ref m6, .ref m7, .int la, .int mn, .int ma, .int sn, .int so, .int ca, .int cm, .int kd, .ref m8]), (m1, aI g 63 S)] := hD
  refine lv_if_eq (tgt := 21) hx hb dX9_loadAt_10 (by decide) (fun c10 => ?_) (fun c10 => ?_)
  · have c10 := b01_f c10
    refine lv_ldc hx hb hown (hts (.constant RX9 53 (-1000001)) (List.mem_of_getElem? (i := 1) rfl)) dX9_loadAt_21 ?_
    exact zEi (v := (-1000001)) (ws' := [(m0, oB 9 [.ref m1, .ref m2, .ref m3, .ref m4, .int ps, .int rn, .ref m5, .int ty, .ref m6, .ref m7, .int la, .int mn, .int ma, .int sn, .int so, .int ca, .int cm, .int kd, .ref m8]), (m1, aI g 63 S)]) hx hb hlocks hr rfl hK hP hD hS [0, 1] rfl rfl (if_neg c10).symm rfl dX9_loadAt_23
  · have c10 := b01_t c10
    refine lv_aload_n hx hb dX9_loadAt_13 rfl (lv_at hl 0 rfl) ?_
    refine lv_iload_n hx hb dX9_loadAt_14 rfl (lv_at hl 1 rfl) ?_
    refine zVI (As := [.int p]) (rest := []) (wc := [(m0, oB 9 [.ref m1, .ref m2, .ref m3, .ref m4, .int ps, .int rn, .ref m5, .int ty, .ref m6, .ref m7, .int la, .int mn, .int ma, .int sn, .int so, .int ca, .int cm, .int kd, .ref m8]), (m1, aI g 63 S)]) (wr := []) (wc' := [(m0, oB 9 [.ref m1, .ref m2, .ref m3, .ref m4, .int ps, .int rn, .ref m5, .int ty, .ref m6, .ref m7, .int la, .int mn, .int ma, .int sn, .int so, .int ca, .int cm, .int kd, .ref m8]), (m1, aI g 63 S)]) ⟨hx, hb, hml, hown, hts⟩ (r_loadsAt l g m0 m1 m2 m3 m4 m5 m6 m7 m8 ps rn ty la mn ma sn so ca cm kd S p hnl) (cwV 1 hts gX9_loadAt_X9_loadsAt rfl rfl rfl (by decide +kernel) ⟨Nat.le_of_ble_eq_true rfl, Nat.le_of_ble_eq_true rfl⟩) hE hK hP hD hS hA 0 9 rfl rfl rfl [0, 1] [] rfl rfl rfl rfl (by decide) rfl hl.1 rfl (lv_room (Nat.le_of_ble_eq_true rfl)) ⟨Nat.zero_le _, Nat.zero_le _⟩ dX9_loadAt_15 (fun H locs hP hD hS => ?_)
    have hP : va_P g.1 vwCl [(m0, oB 9 [.ref m1, .ref m2, .ref m3, .ref m4, .int ps, .int rn, .ref m5, .int ty, .ref m6, .ref m7, .int la, .int mn, .int ma, .int sn, .int so, .int ca, .int cm, .int kd, .ref m8]), (m1, aI g 63 S)] H := hP
    have hD : va_D A [(m0, oB 9 [.ref m1, .ref m2, .ref m3, .ref m4, .int ps, .int rn, .ref m5, .int ty, .ref m6, .ref m7, .int la, .int mn, .int ma, .int sn, .int so, .int ca, .int cm, .int kd, .ref m8]), (m1, aI g 63 S)] := hD
    refine lv_goto (tgt := 23) hx hb dX9_loadAt_18 (by decide) ?_
    exact zEi (v := ldS S p) (ws' := [(m0, oB 9 [.ref m1, .ref m2, .ref m3, .ref m4, .int ps, .int rn, .ref m5, .int ty, .ref m6, .ref m7, .int la, .int mn, .int ma, .int sn, .int so, .int ca, .int cm, .int kd, .ref m8]), (m1, aI g 63 S)]) hx hb hlocks hr rfl hK hP hD hS [0, 1] rfl rfl (if_pos c10).symm rfl dX9_loadAt_23
set_option maxHeartbeats 4000000 in
set_option maxRecDepth 100000 in
theorem r_canMove (l : Launch) (g : G3) (m0 m1 m2 m3 m4 m5 m6 m7 m8 : Nat) (ps rn ty la mn ma sn so ca cm kd : Int32) (S : Nat → Int32) (tg : Int32) : MI l yX9_canMove wsX9_canMove (rk 1 22) g [.ref m0, .int tg] [(m0, oB 9 [.ref m1, .ref m2, .ref m3, .ref m4, .int ps, .int rn, .ref m5, .int ty, .ref m6, .ref m7, .int la, .int mn, .int ma, .int sn, .int so, .int ca, .int cm, .int kd, .ref m8]), (m1, aI g 63 S)] (b01 (rfR S tg = 0)) [(m0, oB 9 [.ref m1, .ref m2, .ref m3, .ref m4, .int ps, .int rn, .ref m5, .int ty, .ref m6, .ref m7, .int la, .int mn, .int ma, .int sn, .int so, .int ca, .int cm, .int kd, .ref m8]), (m1, aI g 63 S)] := by
  refine zWalk.met (Qc := fun A => zQi g (b01 (rfR S tg = 0)) [(m0, oB 9 [.ref m1, .ref m2, .ref m3, .ref m4, .int ps, .int rn, .ref m5, .int ty, .ref m6, .ref m7, .int la, .int mn, .int ma, .int sn, .int so, .int ca, .int cm, .int kd, .ref m8]), (m1, aI g 63 S)] A) (cc := cX9_canMove) (maxL := 2) (ret := (some .boolean)) ?_ (by decide) rfl (Nat.le_of_ble_eq_true rfl)
  intro pg ev sx mi args below meth cd A H locs ls hx hb hr hml hown hts hlocks hA hE hK hP hD hS hl
  have iX9 : ∀ w ∈ u_ws RX9 TX9 19, w ∈ wsX9_canMove := (fun _ h => (List.mem_cons_of_mem _ (List.mem_append_right _ h)))
  have hl : lv_has ls 2 [(0, .ref m0), (1, .int tg)] := hl
  refine lv_iload_n hx hb dX9_canMove_0 rfl (lv_at hl 1 rfl) ?_
  refine lv_sipush (v := (-4000)) hx hb dX9_canMove_1 (by decide +kernel) ?_
  refine lv_sipush (v := 4000) hx hb dX9_canMove_4 (by decide +kernel) ?_
  refine zSI (As := [.int tg, .int (-4000), .int 4000]) (rest := []) (wc := []) (wr := [(m0, oB 9 [.ref m1, .ref m2, .ref m3, .ref m4, .int ps, .int rn, .ref m5, .int ty, .ref m6, .ref m7, .int la, .int mn, .int ma, .int sn, .int so, .int ca, .int cm, .int kd, .ref m8]), (m1, aI g 63 S)]) (wc' := []) ⟨hx, hb, hml, hown, hts⟩ (r_in l g tg (-4000) 4000) (va_cwS 3 hts gX9_canMove_X9_in rfl rfl rfl (by decide +kernel) ⟨Nat.le_of_ble_eq_true rfl, Nat.le_of_ble_eq_true rfl⟩) hE hK hP hD hS hA [] [0, 1] rfl rfl rfl rfl (by decide) rfl hl.1 rfl (lv_room (Nat.le_of_ble_eq_true rfl)) ⟨Nat.zero_le _, Nat.zero_le _⟩ dX9_canMove_7 (fun H locs hP hD hS => ?_)
  have hP : va_P g.1 vwCl [(m0, oB 9 [.ref m1, .ref m2, .ref m3, .ref m4, .int ps, .int rn, .ref m5, .int ty, .ref m6, .ref m7, .int la, .int mn, .int ma, .int sn, .int so, .int ca, .int cm, .int kd, .ref m8]), (m1, aI g 63 S)] H := hP
  have hD : va_D A [(m0, oB 9 [.ref m1, .ref m2, .ref m3, .ref m4, .int ps, .int rn, .ref m5, .int ty, .ref m6, .ref m7, .int la, .int mn, .int ma, .int sn, .int so, .int ca, .int cm, .int kd, .ref m8]), (m1, aI g 63 S)] := hD
  refine lv_if_eq (tgt := 48) hx hb dX9_canMove_10 (by decide) (fun c10 => ?_) (fun c10 => ?_)
  · have c10 := b01_f c10
    refine lv_iconst (v := 0) hx hb dX9_canMove_48 (by decide +kernel) ?_
    exact zEi (v := 0) (ws' := [(m0, oB 9 [.ref m1, .ref m2, .ref m3, .ref m4, .int ps, .int rn, .ref m5, .int ty, .ref m6, .ref m7, .int la, .int mn, .int ma, .int sn, .int so, .int ca, .int cm, .int kd, .ref m8]), (m1, aI g 63 S)]) hx hb hlocks hr rfl hK hP hD hS [0, 1] rfl rfl (b01_0 (rf_n1 c10)).symm rfl dX9_canMove_49
  · have c10 := b01_t c10
    refine lv_aload_n hx hb dX9_canMove_13 rfl (lv_at hl 0 rfl) ?_
    refine va_get (D := g.1) (ci := 9) (v := .ref m1) (C := RX9) (T := TX9) (N := 19) hx hb hts iX9 hown hK hP 0 rfl rfl 0 (by decide) (hts (.fieldLink RX9 7 "StepAxisModel" "s" "[I") (List.mem_of_getElem? (i := 1) rfl)) (fun _ h9 => h9) rfl dX9_canMove_14 ?_
    refine lv_bipush (v := 13) hx hb dX9_canMove_17 (by decide +kernel) ?_
    refine zald (k := 13) hx hb hK hP 1 0 rfl rfl (IX.lit (by decide +kernel)) dX9_canMove_19 ?_
    refine lv_if_eq (tgt := 44) hx hb dX9_canMove_20 (by decide) (fun c20 => ?_) (fun c20 => ?_)
    · refine lv_iconst (v := 1) hx hb dX9_canMove_44 (by decide +kernel) ?_
      refine lv_goto (tgt := 49) hx hb dX9_canMove_45 (by decide) ?_
      exact zEi (v := 1) (ws' := [(m0, oB 9 [.ref m1, .ref m2, .ref m3, .ref m4, .int ps, .int rn, .ref m5, .int ty, .ref m6, .ref m7, .int la, .int mn, .int ma, .int sn, .int so, .int ca, .int cm, .int kd, .ref m8]), (m1, aI g 63 S)]) hx hb hlocks hr rfl hK hP hD hS [0, 1] rfl rfl (b01_1 (rf_y1 c10 c20)).symm rfl dX9_canMove_49
    · refine lv_iload_n hx hb dX9_canMove_23 rfl (lv_at hl 1 rfl) ?_
      refine lv_aload_n hx hb dX9_canMove_24 rfl (lv_at hl 0 rfl) ?_
      refine va_get (D := g.1) (ci := 9) (v := .ref m1) (C := RX9) (T := TX9) (N := 19) hx hb hts iX9 hown hK hP 0 rfl rfl 0 (by decide) (hts (.fieldLink RX9 7 "StepAxisModel" "s" "[I") (List.mem_of_getElem? (i := 1) rfl)) (fun _ h9 => h9) rfl dX9_canMove_25 ?_
      refine lv_bipush (v := 8) hx hb dX9_canMove_28 (by decide +kernel) ?_
      refine zald (k := 8) hx hb hK hP 1 0 rfl rfl (IX.lit (by decide +kernel)) dX9_canMove_30 ?_
      refine lv_aload_n hx hb dX9_canMove_31 rfl (lv_at hl 0 rfl) ?_
      refine va_get (D := g.1) (ci := 9) (v := .ref m1) (C := RX9) (T := TX9) (N := 19) hx hb hts iX9 hown hK hP 0 rfl rfl 0 (by decide) (hts (.fieldLink RX9 7 "StepAxisModel" "s" "[I") (List.mem_of_getElem? (i := 1) rfl)) (fun _ h9 => h9) rfl dX9_canMove_32 ?_
      refine lv_bipush (v := 9) hx hb dX9_canMove_35 (by decide +kernel) ?_
      refine zald (k := 9) hx hb hK hP 1 0 rfl rfl (IX.lit (by decide +kernel)) dX9_canMove_37 ?_
      refine zSI (As := [.int tg, .int (S 8), .int (S 9)]) (rest := []) (wc := []) (wr := [(m0, oB 9 [.ref m1, .ref m2, .ref m3, .ref m4, .int ps, .int rn, .ref m5, .int ty, .ref m6, .ref m7, .int la, .int mn, .int ma, .int sn, .int so, .int ca, .int cm, .int kd, .ref m8]), (m1, aI g 63 S)]) (wc' := []) ⟨hx, hb, hml, hown, hts⟩ (r_in l g tg (S 8) (S 9)) (va_cwS 3 hts gX9_canMove_X9_in rfl rfl rfl (by decide +kernel) ⟨Nat.le_of_ble_eq_true rfl, Nat.le_of_ble_eq_true rfl⟩) hE hK hP hD hS hA [] [0, 1] rfl rfl rfl rfl (by decide) rfl hl.1 rfl (lv_room (Nat.le_of_ble_eq_true rfl)) ⟨Nat.zero_le _, Nat.zero_le _⟩ dX9_canMove_38 (fun H locs hP hD hS => ?_)
      have hP : va_P g.1 vwCl [(m0, oB 9 [.ref m1, .ref m2, .ref m3, .ref m4, .int ps, .int rn, .ref m5, .int ty, .ref m6, .ref m7, .int la, .int mn, .int ma, .int sn, .int so, .int ca, .int cm, .int kd, .ref m8]), (m1, aI g 63 S)] H := hP
      have hD : va_D A [(m0, oB 9 [.ref m1, .ref m2, .ref m3, .ref m4, .int ps, .int rn, .ref m5, .int ty, .ref m6, .ref m7, .int la, .int mn, .int ma, .int sn, .int so, .int ca, .int cm, .int kd, .ref m8]), (m1, aI g 63 S)] := hD
      refine lv_if_eq (tgt := 48) hx hb dX9_canMove_41 (by decide) (fun c41 => ?_) (fun c41 => ?_)
      · have c41 := b01_f c41
        refine lv_iconst (v := 0) hx hb dX9_canMove_48 (by decide +kernel) ?_
        exact zEi (v := 0) (ws' := [(m0, oB 9 [.ref m1, .ref m2, .ref m3, .ref m4, .int ps, .int rn, .ref m5, .int ty, .ref m6, .ref m7, .int la, .int mn, .int ma, .int sn, .int so, .int ca, .int cm, .int kd, .ref m8]), (m1, aI g 63 S)]) hx hb hlocks hr rfl hK hP hD hS [0, 1] rfl rfl (b01_0 (rf_n2 c10 c20 c41)).symm rfl dX9_canMove_49
      · have c41 := b01_t c41
        refine lv_iconst (v := 1) hx hb dX9_canMove_44 (by decide +kernel) ?_
        refine lv_goto (tgt := 49) hx hb dX9_canMove_45 (by decide) ?_
        exact zEi (v := 1) (ws' := [(m0, oB 9 [.ref m1, .ref m2, .ref m3, .ref m4, .int ps, .int rn, .ref m5, .int ty, .ref m6, .ref m7, .int la, .int mn, .int ma, .int sn, .int so, .int ca, .int cm, .int kd, .ref m8]), (m1, aI g 63 S)]) hx hb hlocks hr rfl hK hP hD hS [0, 1] rfl rfl (b01_1 (rf_y2 c10 c41)).symm rfl dX9_canMove_49
