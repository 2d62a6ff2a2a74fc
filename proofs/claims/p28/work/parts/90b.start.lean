/-! the start: what is given -/
set_option maxHeartbeats 8000000 in
set_option maxRecDepth 100000 in
theorem start_env {p : Program} {s : State} {m : MethodId} {meth : Method} {c : Code} {b L : Nat} {xs : Nat → Int32} (C0 : lw_At p s m meth c b L xs) : ∃ g : G3, va_K g.1 vwCl (TY g) s ∧ EE (fun q : Nat => s.heap.size ≤ q) s s.heap ∧ FF g (fun q : Nat => s.heap.size ≤ q) s s.heap := by
  obtain ⟨hx, hb, hr, hml, hown, hts0, hX, hbl, hlocks, hgv⟩ := id C0
  have hts : ∀ w ∈ wsL_law, w.before #[Value.ref b] s = true := fun w h => hts0 w (wsL_law_in w h)
  have hs := flat_of_before _ hgv
  have hA : ∀ q : Nat, s.heap.size ≤ q → (fun q : Nat => s.heap.size ≤ q) q := fun _ h => h
  have hnA : ∀ a : Nat, a < s.heap.size → ¬ (fun q : Nat => s.heap.size ≤ q) a := fun a h => Nat.not_le.mpr h
  have hbA : ¬ (fun q : Nat => s.heap.size ≤ q) b := hnA b hbl
  obtain ⟨c0, k0, hKn0⟩ := u_known (C := RX0) (T := TX0) (N := 1) (n := 1) hts inlX0 (hts (.instantiable RX0 1) (List.mem_of_getElem? (i := 21) rfl))
  obtain ⟨c1, k1, hKn1⟩ := u_known (C := RX1) (T := TX1) (N := 2) (n := 2) hts inlX1 (hts (.instantiable RX1 2) (List.mem_of_getElem? (i := 17) rfl))
  obtain ⟨c2, k2, hKn2⟩ := u_known (C := RX2) (T := TX2) (N := 4) (n := 4) hts inlX2 (hts (.instantiable RX2 4) (List.mem_of_getElem? (i := 43) rfl))
  obtain ⟨c3, k3, hKn3⟩ := u_known (C := RX3) (T := TX3) (N := 2) (n := 2) hts inlX3 (hts (.instantiable RX3 2) (List.mem_of_getElem? (i := 47) rfl))
  obtain ⟨c4, k4, hKn4⟩ := u_known (C := RX4) (T := TX4) (N := 5) (n := 5) hts inlX4 (hts (.instantiable RX4 5) (List.mem_of_getElem? (i := 72) rfl))
  obtain ⟨c5, k5, hKn5⟩ := u_known (C := RX5) (T := TX5) (N := 4) (n := 4) hts inlX5 (hts (.instantiable RX5 4) (List.mem_of_getElem? (i := 29) rfl))
  obtain ⟨c6, k6, hKn6⟩ := u_known (C := RX6) (T := TX6) (N := 6) (n := 6) hts inlX6 (hts (.instantiable RX6 6) (List.mem_of_getElem? (i := 25) rfl))
  obtain ⟨c7, k7, hKn7⟩ := u_known (C := RX7) (T := TX7) (N := 13) (n := 13) hts inlX7 (hts (.instantiable RX7 13) (List.mem_of_getElem? (i := 12) rfl))
  obtain ⟨c8, k8, hKn8⟩ := u_known (C := RX8) (T := TX8) (N := 6) (n := 6) hts inlX8 (hts (.instantiable RX8 6) (List.mem_of_getElem? (i := 1) rfl))
  obtain ⟨dC, dI, hKc⟩ : ∃ (dC : Nat → ClassId) (dI : Nat → Nat → Nat), ∀ (k : Nat) (q : vw_C), vwCl[k]? = some q → u_Kn s q.1 q.2.1 q.2.2 (dC k) (dI k) := by
    refine ⟨fun k => match k with | 0 => c0 | 1 => c1 | 2 => c2 | 3 => c3 | 4 => c4 | 5 => c5 | 6 => c6 | 7 => c7 | _ => c8, fun k => match k with | 0 => k0 | 1 => k1 | 2 => k2 | 3 => k3 | 4 => k4 | 5 => k5 | 6 => k6 | 7 => k7 | _ => k8, ?_⟩
    intro k q hq
    match k, hq with
    | 0, hq => cases hq; exact hKn0
    | 1, hq => cases hq; exact hKn1
    | 2, hq => cases hq; exact hKn2
    | 3, hq => cases hq; exact hKn3
    | 4, hq => cases hq; exact hKn4
    | 5, hq => cases hq; exact hKn5
    | 6, hq => cases hq; exact hKn6
    | 7, hq => cases hq; exact hKn7
    | 8, hq => cases hq; exact hKn8
    | k + 9, hq => exact absurd hq (by simp [vwCl])
  obtain ⟨cI, kkI, cpI, iI1, iI2, iI3⟩ := Cond.arrayClass_spec (hts (.arrayClass .int) (List.mem_of_getElem? (i := 3) rfl))
  obtain ⟨cC, kkC, cpC, iC1, iC2, iC3⟩ := Cond.arrayClass_spec (hts (.arrayClass .char) (List.mem_of_getElem? (i := 85) rfl))
  have hao : va_AO "StepAxis$State" s := va_AO.of (hts0 (.arrayOver (.object "StepAxis$State")) (List.mem_of_getElem? (i := 147) (by decide +kernel)))
  obtain ⟨cpO, cO, kkO, o1, o2, o3, o4, o5⟩ := Cond.arrayOver_spec hao
  obtain ⟨g, hg⟩ : ∃ g : G3, g = ((dC, dI), cI, cC, cO) := ⟨_, rfl⟩
  have hK : va_K g.1 vwCl (TY g) s := by
    subst hg
    refine ⟨hKc, fun k q h => ?_⟩
    match k, h with
    | 0, h => cases h; exact ⟨fun n z => ⟨(fun k h => by cases h), kkI, iI2, cpI, iI3⟩, iI1⟩
    | 1, h => cases h; exact ⟨fun n z => ⟨(fun k h => by cases h), kkC, iC2, cpC, iC3⟩, iC1⟩
    | 2, h => cases h; exact ⟨fun n z => ⟨(fun k h => by cases h), kkO, o3, cpO, o4⟩, ⟨kkO, cpO, o3, o4, o1, o5⟩⟩
    | k + 3, h => exact absurd h (by simp)
  have hNF : ∀ q ∈ nwF, va_Nw (nwFc q) s := start_nwF hts0
  have hNM : ∀ q ∈ nwM, va_Nw (nwMc q) s := start_nwM hts0
  have efirstT : ∀ j : Nat, j < 8 → (Term.elem (.static "StepAxis" "FIRST_SETTINGS" "[I") (.int (Int32.ofNat j))).eval #[Value.ref b] s none [] s = some (.int (firstT j)) := fun j hj => match j, hj with
    | 0, _ => va_eqt (t := .elem (.static "StepAxis" "FIRST_SETTINGS" "[I") (.int 0)) (z := 1000) (hs _ (by decide +kernel))
    | 1, _ => va_eqt (t := .elem (.static "StepAxis" "FIRST_SETTINGS" "[I") (.int 1)) (z := 200) (hs _ (by decide +kernel))
    | 2, _ => va_eqt (t := .elem (.static "StepAxis" "FIRST_SETTINGS" "[I") (.int 2)) (z := 60) (hs _ (by decide +kernel))
    | 3, _ => va_eqt (t := .elem (.static "StepAxis" "FIRST_SETTINGS" "[I") (.int 3)) (z := 100) (hs _ (by decide +kernel))
    | 4, _ => va_eqt (t := .elem (.static "StepAxis" "FIRST_SETTINGS" "[I") (.int 4)) (z := 8) (hs _ (by decide +kernel))
    | 5, _ => va_eqt (t := .elem (.static "StepAxis" "FIRST_SETTINGS" "[I") (.int 5)) (z := (-400)) (hs _ (by decide +kernel))
    | 6, _ => va_eqt (t := .elem (.static "StepAxis" "FIRST_SETTINGS" "[I") (.int 6)) (z := 3) (hs _ (by decide +kernel))
    | 7, _ => va_eqt (t := .elem (.static "StepAxis" "FIRST_SETTINGS" "[I") (.int 7)) (z := 20) (hs _ (by decide +kernel))
  have lfirstT : (Term.length (.static "StepAxis" "FIRST_SETTINGS" "[I")).eval #[Value.ref b] s none [] s = some (.int (Int32.ofNat 8)) := va_eqt (t := .length (.static "StepAxis" "FIRST_SETTINGS" "[I")) (z := 8) (hs _ (by decide +kernel))
  obtain ⟨tfirstT, vfirstT, hTfirstT⟩ := va_Tof (tm := (.static "StepAxis" "FIRST_SETTINGS" "[I")) (ty := .int) (N := 8) (f := fun j => .int (firstT j)) (A := fun q : Nat => s.heap.size ≤ q) (by decide) (hs _ (by decide +kernel)) lfirstT efirstT hnA
  have zfirstT := va_Zof (A := fun q : Nat => s.heap.size ≤ q) (hts0 (.laysStatic "StepAxis" "FIRST_SETTINGS" "[I") (List.mem_of_getElem? (i := 34) (by decide +kernel))) (hts0 (.initialized "StepAxis") (List.mem_of_getElem? (i := 8) (by decide +kernel))) vfirstT hnA
  have eleastT : ∀ j : Nat, j < 8 → (Term.elem (.static "StepAxis" "LEAST_SETTINGS" "[I") (.int (Int32.ofNat j))).eval #[Value.ref b] s none [] s = some (.int (leastT j)) := fun j hj => match j, hj with
    | 0, _ => va_eqt (t := .elem (.static "StepAxis" "LEAST_SETTINGS" "[I") (.int 0)) (z := 100) (hs _ (by decide +kernel))
    | 1, _ => va_eqt (t := .elem (.static "StepAxis" "LEAST_SETTINGS" "[I") (.int 1)) (z := 20) (hs _ (by decide +kernel))
    | 2, _ => va_eqt (t := .elem (.static "StepAxis" "LEAST_SETTINGS" "[I") (.int 2)) (z := 0) (hs _ (by decide +kernel))
    | 3, _ => va_eqt (t := .elem (.static "StepAxis" "LEAST_SETTINGS" "[I") (.int 3)) (z := 1) (hs _ (by decide +kernel))
    | 4, _ => va_eqt (t := .elem (.static "StepAxis" "LEAST_SETTINGS" "[I") (.int 4)) (z := 0) (hs _ (by decide +kernel))
    | 5, _ => va_eqt (t := .elem (.static "StepAxis" "LEAST_SETTINGS" "[I") (.int 5)) (z := (-2900)) (hs _ (by decide +kernel))
    | 6, _ => va_eqt (t := .elem (.static "StepAxis" "LEAST_SETTINGS" "[I") (.int 6)) (z := 0) (hs _ (by decide +kernel))
    | 7, _ => va_eqt (t := .elem (.static "StepAxis" "LEAST_SETTINGS" "[I") (.int 7)) (z := 0) (hs _ (by decide +kernel))
  have lleastT : (Term.length (.static "StepAxis" "LEAST_SETTINGS" "[I")).eval #[Value.ref b] s none [] s = some (.int (Int32.ofNat 8)) := va_eqt (t := .length (.static "StepAxis" "LEAST_SETTINGS" "[I")) (z := 8) (hs _ (by decide +kernel))
  obtain ⟨tleastT, vleastT, hTleastT⟩ := va_Tof (tm := (.static "StepAxis" "LEAST_SETTINGS" "[I")) (ty := .int) (N := 8) (f := fun j => .int (leastT j)) (A := fun q : Nat => s.heap.size ≤ q) (by decide) (hs _ (by decide +kernel)) lleastT eleastT hnA
  have zleastT := va_Zof (A := fun q : Nat => s.heap.size ≤ q) (hts0 (.laysStatic "StepAxis" "LEAST_SETTINGS" "[I") (List.mem_of_getElem? (i := 322) (by decide +kernel))) (hts0 (.initialized "StepAxis") (List.mem_of_getElem? (i := 8) (by decide +kernel))) vleastT hnA
  have egreatT : ∀ j : Nat, j < 8 → (Term.elem (.static "StepAxis" "GREATEST_SETTINGS" "[I") (.int (Int32.ofNat j))).eval #[Value.ref b] s none [] s = some (.int (greatT j)) := fun j hj => match j, hj with
    | 0, _ => va_eqt (t := .elem (.static "StepAxis" "GREATEST_SETTINGS" "[I") (.int 0)) (z := 5000) (hs _ (by decide +kernel))
    | 1, _ => va_eqt (t := .elem (.static "StepAxis" "GREATEST_SETTINGS" "[I") (.int 1)) (z := 1000) (hs _ (by decide +kernel))
    | 2, _ => va_eqt (t := .elem (.static "StepAxis" "GREATEST_SETTINGS" "[I") (.int 2)) (z := 200) (hs _ (by decide +kernel))
    | 3, _ => va_eqt (t := .elem (.static "StepAxis" "GREATEST_SETTINGS" "[I") (.int 3)) (z := 300) (hs _ (by decide +kernel))
    | 4, _ => va_eqt (t := .elem (.static "StepAxis" "GREATEST_SETTINGS" "[I") (.int 4)) (z := 100) (hs _ (by decide +kernel))
    | 5, _ => va_eqt (t := .elem (.static "StepAxis" "GREATEST_SETTINGS" "[I") (.int 5)) (z := 2900) (hs _ (by decide +kernel))
    | 6, _ => va_eqt (t := .elem (.static "StepAxis" "GREATEST_SETTINGS" "[I") (.int 6)) (z := 50) (hs _ (by decide +kernel))
    | 7, _ => va_eqt (t := .elem (.static "StepAxis" "GREATEST_SETTINGS" "[I") (.int 7)) (z := 200) (hs _ (by decide +kernel))
  have lgreatT : (Term.length (.static "StepAxis" "GREATEST_SETTINGS" "[I")).eval #[Value.ref b] s none [] s = some (.int (Int32.ofNat 8)) := va_eqt (t := .length (.static "StepAxis" "GREATEST_SETTINGS" "[I")) (z := 8) (hs _ (by decide +kernel))
  obtain ⟨tgreatT, vgreatT, hTgreatT⟩ := va_Tof (tm := (.static "StepAxis" "GREATEST_SETTINGS" "[I")) (ty := .int) (N := 8) (f := fun j => .int (greatT j)) (A := fun q : Nat => s.heap.size ≤ q) (by decide) (hs _ (by decide +kernel)) lgreatT egreatT hnA
  have zgreatT := va_Zof (A := fun q : Nat => s.heap.size ≤ q) (hts0 (.laysStatic "StepAxis" "GREATEST_SETTINGS" "[I") (List.mem_of_getElem? (i := 324) (by decide +kernel))) (hts0 (.initialized "StepAxis") (List.mem_of_getElem? (i := 8) (by decide +kernel))) vgreatT hnA
  have hE : EE (fun q : Nat => s.heap.size ≤ q) s s.heap := ⟨⟨hNF, hNM⟩, ⟨_, zfirstT, hTfirstT⟩, ⟨_, zleastT, hTleastT⟩, ⟨_, zgreatT, hTgreatT⟩⟩
  have hcast : va_Nw (.castable "[I" "java/lang/Cloneable") s := va_Nw.of rfl (hts0 (.castable "[I" "java/lang/Cloneable") (List.mem_of_getElem? (i := 40) (by decide +kernel)))
  have hF : FF g (fun q : Nat => s.heap.size ≤ q) s s.heap := by
    obtain ⟨a9, c9, cell9, k9, x1, x2, x3, x4, x5, x6, x7⟩ := Cond.exactly_spec (hs (.exactly (.static "StepAxis" "FIRST_SETTINGS" "[I") "[I") (by decide +kernel))
    have ea : tfirstT = a9 := by
      have := vfirstT.symm.trans x1
      cases this
      rfl
    subst ea
    obtain ⟨cell, h1, h2, h3, h4, h5, h6, h7⟩ := id hTfirstT
    have ec : cell = cell9 := Option.some.inj (h1.symm.trans x3)
    subst ec
    have hsz := start_len lfirstT vfirstT h1
    refine ⟨hcast, hao, tfirstT, cell, zfirstT, h1, ?_, ?_, h3, ?_, h7⟩
    · subst hg
      exact x6.trans (Option.some.inj (x2.symm.trans iI1))
    · intro k h
      rw [h] at x5
      cases x5
    · rw [vp_cell_i]
      refine Array.ext_getElem? (fun i => ?_)
      rcases Nat.lt_or_ge i 8 with hi | hi
      · rw [h6 i hi, arrV_read _ _ hi]
      · rw [Array.getElem?_eq_none (by omega), Array.getElem?_eq_none (by rw [arrV_size]; exact hi)]
  exact ⟨g, hK, hE, hF⟩
