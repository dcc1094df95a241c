/-! ===== the start: what the tables and the given words say there ===== -/
theorem st_cls {s : State} {args : Array Value} (hw : ∀ w ∈ gW, w.before args s = true) (hts : ∀ w ∈ lw_tbl, w.before args s = true) : ∀ i : Nat, ∃ p : ClassId × (Nat → Nat), ∀ q, gcl[i]? = some q → u_Kn s q.1 q.2.1 q.2.2 p.1 p.2 := by
  have mk : ∀ {C : String} {T : u_T} {N i : Nat}, gcl[i]? = some (C, T, N) → (∃ (cC : ClassId) (iS : Nat → Nat), u_Kn s C T N cC iS) → ∃ p : ClassId × (Nat → Nat), ∀ q, gcl[i]? = some q → u_Kn s q.1 q.2.1 q.2.2 p.1 p.2 := by
    rintro C T N i hi ⟨cC, iS, hk⟩
    refine ⟨(cC, iS), fun q hq => ?_⟩
    cases Option.some.inj (hi.symm.trans hq)
    exact hk
  have ex : ∀ {C : String}, (Cond.instantiable C 6).before args s = true → ∃ (cC : ClassId) (iS : Nat → Nat), u_Kn s C T_ex 0 cC iS := fun h => u_known hw (fun w hw => by cases hw) h
  intro i
  match i with
  | 0 => exact mk rfl (u_known hw gc_HT.2.1 (hts _ (gin_1 (List.mem_of_getElem? (i := 24) rfl))))
  | 1 => exact mk rfl (u_known hw gc_Text.2.1 (hts _ (gin_1 (List.mem_of_getElem? (i := 32) rfl))))
  | 2 => exact mk rfl (u_known hw gc_Voc.2.1 (hts _ (gin_1 (List.mem_of_getElem? (i := 53) rfl))))
  | 3 => exact mk rfl (u_known hw gc_Lit.2.1 (hts _ (gin_1 (List.mem_of_getElem? (i := 85) rfl))))
  | 4 => exact mk rfl (u_known hw gc_Rd.2.1 (hts _ (gin_1 (List.mem_of_getElem? (i := 47) rfl))))
  | 5 => exact mk rfl (u_known hw gc_Sen.2.1 (hts _ (gin_1 (List.mem_of_getElem? (i := 124) rfl))))
  | 6 => exact mk rfl (u_known hw gc_Ins.2.1 (hts _ (gin_1 (List.mem_of_getElem? (i := 146) rfl))))
  | 7 => exact mk rfl (u_known hw gc_Iset.2.1 (hts _ (gin_1 (List.mem_of_getElem? (i := 132) rfl))))
  | 8 => exact mk rfl (u_known hw gc_Tab.2.1 (hts _ (gin_1 (List.mem_of_getElem? (i := 160) rfl))))
  | 9 => exact mk rfl (u_known hw gc_Mod.2.1 (hts _ (gin_3 (List.mem_of_getElem? (i := 182) rfl))))
  | 10 => exact mk rfl (ex (hts _ (gin_2 (List.mem_of_getElem? (i := 164) rfl))))
  | 11 => exact mk rfl (ex (hts _ (gin_3 (List.mem_of_getElem? (i := 68) rfl))))
  | 12 => exact mk rfl (ex (hts _ (gin_3 (List.mem_of_getElem? (i := 98) rfl))))
  | 13 => exact mk rfl (ex (hts _ (gin_3 (List.mem_of_getElem? (i := 144) rfl))))
  | n + 14 => exact ⟨(0, fun _ => 0), fun q hq => by cases hq⟩
/-- a kind of arrays, out of its word -/
theorem st_arr {s : State} {args : Array Value} {ty : FieldType} (hty : ∀ cA, va_RA s cA ty = (s.vm.findClass ("[" ++ ty.toString) = some cA)) (h : (Cond.arrayClass ty).before args s = true) : ∃ cA, ArrOfT s cA ty ∧ va_RA s cA ty := by
  obtain ⟨cA, kA, comp, h1, h2, h3⟩ := Cond.arrayClass_spec h
  exact ⟨cA, fun n z => ⟨(fun k h => by cases h), kA, h2, comp, h3⟩, by rw [hty]; exact h1⟩
theorem st_arO {s : State} {args : Array Value} {C : String} (h : (Cond.arrayOver (.object C)).before args s = true) : ∃ cA, ArrOfT s cA (.object C) ∧ va_RA s cA (.object C) := by
  obtain ⟨comp, cA, kA, h1, -, h2, h3, h4⟩ := Cond.arrayOver_spec h
  exact ⟨cA, fun n z => ⟨(fun k h => by cases h), kA, h2, comp, h3⟩, kA, comp, h2, h3, h1, h4⟩
/-- a static field of the start that holds some reference -/
theorem st_St {s : State} {args : Array Value} {C n d : String} {A : Nat → Prop} (hl : (Cond.laysStatic C n d).before args s = true) (hi : (Cond.initialized C).before args s = true) (hr : (Cond.isRef (.static C n d)).before args s = true) (hA : ∀ a : Nat, a < s.heap.size → ¬ A a) : gSt C n d A s s.heap := by
  obtain ⟨c, k, i, f, a, cell, h1, h2, h3, h4, h5, h6, h7, h8, h9⟩ := Cond.laysStatic_spec hl
  exact ⟨va_Zqof hl hi hr hA, c, k, i, f, a, cell, h1, h2, h3, h4, h5, h6, h7, h8, h9, hA a (Array.getElem?_eq_some_iff.mp h5).1⟩
theorem st_T {s : State} {b L : Nat} {xs : Nat → Int32} (l : Launch) (hts : ∀ w ∈ lw_tbl, w.before #[Value.ref b] s = true) (hg : (Jvm.Cond.and given_1 narrow_1).before #[Value.ref b] s = true) (hX : va_X b L xs s s.heap) (hbl : b < s.heap.size) : ∃ K : gK, K.1 = l ∧ gB K = s.heap.size ∧ gI K = s.heap ∧ gT K s ∧ gSc K b L xs := by
  have hs := flat_of_before _ hg
  have hw : ∀ w ∈ gW, w.before #[Value.ref b] s = true := fun w h => hts w (List.mem_filter.mp h).1
  obtain ⟨F, hF⟩ := Classical.axiomOfChoice (st_cls hw hts)
  obtain ⟨cI, aI⟩ := st_arr (ty := .int) (fun _ => rfl) (hw _ ac_int)
  obtain ⟨cJ, aJ⟩ := st_arr (ty := .long) (fun _ => rfl) (hw _ ac_long)
  obtain ⟨cC, aC⟩ := st_arr (ty := .char) (fun _ => rfl) (hw _ ac_char)
  obtain ⟨cZ, aZ⟩ := st_arr (ty := .boolean) (fun _ => rfl) (hw _ ac_boolean)
  have wL : (Cond.arrayOver (.object "HerbrandTables$Literal")).before #[Value.ref b] s = true := hts _ (gin_1 (List.mem_of_getElem? (i := 84) rfl))
  have wT : (Cond.arrayOver (.object "HerbrandTables$TableSet")).before #[Value.ref b] s = true := hts _ (gin_1 (List.mem_of_getElem? (i := 159) rfl))
  obtain ⟨cL, aL⟩ := st_arO wL
  obtain ⟨cT, aT⟩ := st_arO wT
  obtain ⟨scr, x1, x2, x3, x4, x5⟩ := hX
  have hA : ∀ a : Nat, a < s.heap.size → ¬ s.heap.size ≤ a := fun a ha => Nat.not_le.mpr ha
  have wS : (Cond.laysStatic "HerbrandTables" "TRUE_IN_WORD" "[J").before #[Value.ref b] s = true := hts _ (gin_3 (List.mem_of_getElem? (i := 54) rfl))
  have e6 : (Term.length (.static "HerbrandTables" "TRUE_IN_WORD" "[J")).eval #[Value.ref b] s none [] s = some (.int (Int32.ofNat 6)) := va_eqt (hs _ (by decide +kernel))
  have el : ∀ j : Nat, j < 6 → (Term.elem (.static "HerbrandTables" "TRUE_IN_WORD" "[J") (.int (Int32.ofNat j))).eval #[Value.ref b] s none [] s = some (.long (gtw j)) := by
    intro j hj
    match j, hj with
    | 0, _ => exact va_eqtl (hs _ (by decide +kernel))
    | 1, _ => exact va_eqtl (hs _ (by decide +kernel))
    | 2, _ => exact va_eqtl (hs _ (by decide +kernel))
    | 3, _ => exact va_eqtl (hs _ (by decide +kernel))
    | 4, _ => exact va_eqtl (hs _ (by decide +kernel))
    | 5, _ => exact va_eqtl (hs _ (by decide +kernel))
    | n + 6, h => omega
  obtain ⟨ta, ht1, ht2⟩ := va_Tof (A := fun q => s.heap.size ≤ q) (by decide) (hs (.arrayOf (.static "HerbrandTables" "TRUE_IN_WORD" "[J") .long) (by decide +kernel)) e6 el hA
  have hini : (Cond.initialized "java/lang/Throwable").before #[Value.ref b] s = true := hts _ (gin_1 (List.mem_of_getElem? (i := 14) rfl))
  have wU : (Cond.laysStatic "java/lang/Throwable" "UNASSIGNED_STACK" "[Ljava/lang/StackTraceElement;").before #[Value.ref b] s = true := hts _ (gin_2 (List.mem_of_getElem? (i := 190) rfl))
  have wP : (Cond.laysStatic "java/lang/Throwable" "SUPPRESSED_SENTINEL" "Ljava/util/List;").before #[Value.ref b] s = true := hts _ (gin_2 (List.mem_of_getElem? (i := 192) rfl))
  refine ⟨(l, (fun i => (F i).1, fun i => (F i).2), (fun t => match t with | 0 => cI | 1 => cJ | 2 => cC | 3 => cZ | 4 => cL | 5 => cT | _ => scr.cls), s.heap.size, s.heap, ta), rfl, rfl, rfl, ⟨⟨fun i q hq => hF i q hq, fun k q hk => ?_⟩, fun w h => word_at (State.WarmedH.refl s) (gW_good h) (hw w h), ⟨fun w h => ?_, fun q hq => ?_, fun n z => ⟨(fun k h => by cases h), x2.2⟩⟩, va_Zref wS (hts _ (gin_1 (List.mem_of_getElem? (i := 1) rfl))) ht1 hA, ht2, st_St wU hini (hs _ (by decide +kernel)) hA, st_St wP hini (hs _ (by decide +kernel)) hA, fun C hC => ?_⟩, hbl, scr, x1, rfl, x2.1, x3, x4, x5⟩
  · match k, hk with
    | 0, hk => cases hk; exact aI
    | 1, hk => cases hk; exact aJ
    | 2, hk => cases hk; exact aC
    | 3, hk => cases hk; exact aZ
    | 4, hk => cases hk; exact aL
    | 5, hk => cases hk; exact aT
    | n + 6, hk => cases hk
  · have h1 := hts w (List.mem_filter.mp h).1
    have h2 := (List.mem_filter.mp h).2
    cases w <;> first | exact va_Nw.of rfl h1 | cases h2
  · unfold gNC at hq
    simp only [List.mem_cons, List.not_mem_nil, or_false] at hq
    rcases hq with e | e | e <;> subst e
    · exact va_Nc.of (hs (.not (.castable "java/util/NoSuchElementException" "java/lang/IllegalStateException")) (by decide +kernel))
    · exact va_Nc.of (hs (.not (.castable "java/lang/IndexOutOfBoundsException" "java/lang/IllegalStateException")) (by decide +kernel))
    · exact va_Nc.of (hs (.not (.castable "java/util/NoSuchElementException" "java/lang/IndexOutOfBoundsException")) (by decide +kernel))
  · unfold gAO at hC
    simp only [List.mem_cons, List.not_mem_nil, or_false] at hC
    rcases hC with e | e <;> subst e
    · exact va_AO.of wL
    · exact va_AO.of wT
