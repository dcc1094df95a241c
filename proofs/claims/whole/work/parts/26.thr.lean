/-! ===== throws: new, dup, the constructor, athrow ===== -/
theorem x_decl {args : Array Value} {s : State} {x : MethodName} {bytes : ByteArray} {maxL : Nat} {ret : Option FieldType} (hc : (Cond.code x bytes maxL ret).before args s = true) (hi : (Cond.instanceMethod x).before args s = true) : (Cond.declares x).before args s = true := by
  obtain ⟨mk, hn⟩ := Cond.code_named hc
  obtain ⟨meth, c, h1, -, -, -, -, -, -, h8⟩ := Cond.code_spec hn hc
  have h2 : meth.isStatic = false := by
    simp [Cond.before, Cond.holds, Cond.value, hn, h1] at hi
    exact hi.1
  simp [Cond.before, Cond.holds, Cond.value, hn, h1, h2, h8]
theorem x_lays {K : gK} {h : gH} {s : State} {C n d : String} (hT : gSt C n d (gA K) s (gI K)) (hP : gP K h s.heap) (args : Array Value) : (Cond.laysStatic C n d).before args s = true := by
  obtain ⟨-, c, k, i, f, a, cell, h1, h2, h3, h4, h5, h6, h7, h8, h9, h10⟩ := hT
  have hc : s.heap[a]? = some cell := (hP.old (Array.getElem?_eq_some_iff.mp h5).1 h10).trans h5
  simp [Cond.before, Cond.holds, Cond.value, h1, h2, h3, h4, hc, h6, h7, h8, h9]
theorem x_ref {K : gK} {h : gH} {s : State} {C n d : String} (hT : gSt C n d (gA K) s (gI K)) (hP : gP K h s.heap) (args : Array Value) : (Cond.isRef (.static C n d)).before args s = true := by
  obtain ⟨h0, -⟩ := hT
  rcases h0 with ⟨cf, kf, fi, f, a, cell, h1, h2, h3, h4, h5, h6, h7, h8⟩ | ⟨t, cf, kf, fi, f, a, cell, h1, h2, h3, h4, h5, h6, h7, h8⟩
  · have hc : s.heap[a]? = some cell := (hP.old (Array.getElem?_eq_some_iff.mp h5).1 h8).trans h5
    simp [Cond.before, Cond.holds, Cond.value, Term.eval, State.fieldNamed?, h1, h2, h4, hc, h6, h7]
  · have hc : s.heap[a]? = some cell := (hP.old (Array.getElem?_eq_some_iff.mp h5).1 h8).trans h5
    simp [Cond.before, Cond.holds, Cond.value, Term.eval, State.fieldNamed?, h1, h2, h4, hc, h6, h7]
theorem x_cast {s : State} {C : String} {cC : ClassId} (h : ClassAt s C cC) (args : Array Value) : (Cond.castable C C).before args s = true := by
  simp [Cond.before, Cond.holds, Cond.value, h.1, va_assign h]
def gAll (P : Cond → Prop) : List Cond → Prop
  | [] => True
  | w :: t => P w ∧ gAll P t
theorem gAll_mem {P : Cond → Prop} : ∀ {l : List Cond}, gAll P l → ∀ w ∈ l, P w := by
  intro l
  induction l with
  | nil => exact fun _ w hw => by cases hw
  | cons x t ih =>
    intro h w hw
    rcases List.mem_cons.mp hw with rfl | hw
    · exact h.1
    · exact ih h.2 w hw
theorem g_rebased {p : Program} {l : Launch} {e : Env} {R : Room} {s : State} {m : MethodId} {args : Array Value} {below : List Frame} {meth : Method} {c : Code} {T : State} {locs : List Loc} {cells slots : Nat}
    (X : Stand p l e R s m args below meth c T locs cells slots) (hc : cells ≤ R.cells) (hs : slots ≤ R.slots) :
    Stand p l e { R with cells := R.cells - cells, slots := R.slots - slots } ({ s with heap := T.heap, slotsUsed := T.slotsUsed, vm := T.vm } : State) m args below meth c T [] 0 0 := by
  have hal := X.warmed.alike
  have hmeth : T.vm.method? m = s.vm.method? m := hal.method? m
  have hused := X.used
  have hsize := X.heapSize
  have hbook := X.book
  have hloc : ({ s with heap := T.heap, slotsUsed := T.slotsUsed, vm := T.vm } : State).localsInUse = s.localsInUse := by
    show stackWeight s.frames + _ = stackWeight s.frames + _
    have h := X.frames
    show stackWeight s.frames + (match s.frames with
      | .invoking m _ :: _ => (((T.vm.method? m).bind (·.code)).map (·.maxLocals)).getD 0 + 11
      | _ => 0) = stackWeight s.frames + (match s.frames with
      | .invoking m _ :: _ => (((s.vm.method? m).bind (·.code)).map (·.maxLocals)).getD 0 + 11
      | _ => 0)
    rw [h]
    show _ + (((T.vm.method? m).bind (·.code)).map (·.maxLocals)).getD 0 + 11 = _
    rw [hmeth]
    rfl
  refine ⟨X.admits, X.cas, X.clock, X.frames, ?_, ?_, hmeth.trans X.method, X.code, X.here, X.tail, State.WarmedH.refl _, X.limits, X.bytes, ?_⟩
  · have h := X.room
    simp only [State.hasRoom, Bool.and_eq_true, decide_eq_true_eq] at h ⊢
    obtain ⟨⟨⟨⟨h1, h2⟩, h3⟩, h4⟩, h5⟩ := h
    refine ⟨⟨⟨⟨by rw [hloc]; exact h1, ?_⟩, ?_⟩, ?_⟩, hbook⟩
    · rw [hloc]
      exact h2
    · show T.heap.size + (R.cells - cells) ≤ _
      omega
    · show T.slotsUsed + (R.slots - slots) ≤ _
      omega
  · have h := X.hears
    unfold State.hears at h ⊢
    cases below with
    | nil =>
      show (T.vm.method? m).any _ = true
      rw [hmeth]
      exact h
    | cons f r =>
      cases f with
      | java g =>
        have h1 : ({ s with heap := T.heap, slotsUsed := T.slotsUsed, vm := T.vm } : State).code? g.method = s.code? g.method := by
          rw [State.code?_eq, State.code?_eq, hal.method?]
        dsimp only at h ⊢
        rw [h1]
        exact h
      | native f => rfl
      | proc f => rfl
      | _ =>
        show (T.vm.method? m).any _ = true
        rw [hmeth]
        exact h
  · obtain ⟨q1, q2, q3, q4, q5, q6⟩ := X.same
    have e1 : T = ({ ({ s with heap := T.heap, slotsUsed := T.slotsUsed, vm := T.vm } : State).setFrames T.frames with heap := T.heap, slotsUsed := T.slotsUsed } : State) := by
      exact congrArg (fun u : State => u.setVm T.vm) q1
    have hd : List.drop T.heap.size T.heap.toList = [] := List.drop_eq_nil_of_le (by rw [Array.length_toList]; exact Nat.le_refl _)
    refine ⟨e1, Nat.le_refl _, Nat.le_refl _, ?_, ?_, fun a c hc => ⟨c, hc, rfl, rfl, fun i _ => rfl⟩⟩
    · show T.slotsUsed = T.slotsUsed + (List.map (fun x : Cell => x.slots.size) (List.drop T.heap.size T.heap.toList)).sum
      rw [hd]
      rfl
    · show (List.map (fun x : Cell => x.slots.size) (List.drop T.heap.size T.heap.toList)).sum ≤ 0
      rw [hd]
      exact Nat.le_refl _
/-- a class that may be thrown from own: its words, its place among ours -/
def gXw (own : String) (i1 ic ci : Nat) (X : String) : Prop := (Cond.classLink own i1 X ∈ gW ∧ Cond.instantiable X 6 ∈ gW ∧ Cond.initialized X ∈ gW) ∧ (∀ {K : gK} {h : gH} {s : State}, gT K s → gP K h s.heap → ∀ (args : Array Value), ∀ w ∈ Bundle.ownAtoms0 own ic X ["java/lang/RuntimeException", "java/lang/Exception"], w.before args s = true) ∧ gcl[ci]? = some (X, T_ex, 0) ∧ Bundle.fit X = true
set_option maxHeartbeats 1000000 in
theorem g_throw {K : gK} {M : gM} {R : Room} {pc : Nat} {lv : List (Nat × Value)} {h : gH} {kc ks : Nat} {Q : Outcome → gH → Prop} {i1 ic ci : Nat} {X : String} (hw : gXw M.1.cls i1 ic ci X) (hd0 : decode M.2.1 pc = .ok (.new i1, 3)) (hd1 : decode M.2.1 (pc + 3) = .ok (.dup, 1)) (hd2 : decode M.2.1 (pc + 4) = .ok (.invokespecial ic, 3)) (hd3 : decode M.2.1 (pc + 7) = .ok (.athrow, 1)) (hh : M.2.2.2.2 = []) (hc : 1 ≤ kc) (hs : 6 ≤ ks) (hf : 6 ≤ R.frames) (hlo : 89 ≤ R.locals)
    (kk : ∀ q : Nat, h q = none → Q (.threw q) (gup h q (.inr (ci, [])))) : Go K M R pc lv [] h kc ks Q := by
  intro p e s m args below meth c Z H locs cells slots ls C N hP hS hl h1 h2 T hTH Y
  obtain ⟨hx, hb, hml, hret, hlk, hnm, hown, htab, hT, hst, -⟩ := C
  obtain ⟨⟨w1, w2, w3⟩, w4, w5, w6⟩ := hw
  subst hTH
  have Y' := g_rebased Y (by omega) (by omega)
  have hTs : gT K ({ s with heap := T.heap, slotsUsed := T.slotsUsed, vm := T.vm } : State) := gT.moved (s := s) Y.warmed hT
  have hown' : ({ s with heap := T.heap, slotsUsed := T.slotsUsed, vm := T.vm } : State).vm.findClass M.1.cls = some m.cls := by
    show T.vm.findClass M.1.cls = some m.cls
    rw [Y.warmed.alike.findClass]
    exact hown
  have hnone : ∀ x ∈ c.exceptionTable.toList, covers x (pc + 4 + 3) = false := by
    have h0 : gtab c = [] := htab.trans hh
    intro x hx2
    have h9 : c.exceptionTable.toList = [] := List.map_eq_nil_iff.mp h0
    rw [h9] at hx2
    cases hx2
  obtain ⟨vm1, cX, kX, hfX, hkX, -, -, Y1, st1⟩ := Y'.newCold hx hown' (gT.word hTs w1 args) (gT.word hTs w2 args) (gT.word hTs w3 args) (g := F0 m pc ls []) rfl (by rw [hb]; exact hd0) (show 0 + 1 ≤ R.cells - cells by omega) (show 0 + 6 ≤ R.slots - slots by omega)
  generalize hT1 : (T.setVm vm1).pushCell { cls := cX, slots := kX.instanceTypes.map defaultValue, vm := .none } = T1 at Y1 st1
  have hcell : T1.heap[T.heap.size]? = some (freshCell cX kX) := by rw [← hT1]; exact State.heap_pushCell_size _ _
  have htr : e.platform.stackTraces = false := by rw [Jvm.Example.NoTraceControls.admits_follows Y.admits]; exact hst
  obtain ⟨t, a1, hZ⟩ : ∃ t, Steps p.tables e below (T1.setTop (F0 m (pc + 3) ls [.ref T.heap.size])) t ∧ Z t := by
    refine lv_dup (l := K.1) (R := { R with cells := R.cells - cells, slots := R.slots - slots }) (H := T1.heap) (locs := []) (cells := 0 + 1) (slots := 0 + 6) (rest := []) hx hb hd1 rfl (fun T2 hT2 Y2 => ?_) T1 rfl Y1
    obtain ⟨U, hsteps, hrun, hend, hW, hsame, ce, hce, hOC⟩ := Y2.ctorThrow0 hx htr hown' w6 (names := ["java/lang/RuntimeException", "java/lang/Exception"]) (by decide +kernel) (w4 hTs hP args) (fun y hy => by cases hy) hfX hkX (by rw [hT2]; exact hcell) (Nat.le_refl _)
      (g := F0 m (pc + 4) ls [.ref T.heap.size, .ref T.heap.size]) rfl (by rw [hml]; exact hl.1) rfl rfl (rest := []) rfl (by rw [hb]; exact hd2) (by rw [hb]; exact hd3) hnone (show 2 + 3 < R.frames by omega) (by
        show 2 * 0 + (1 + 0) + (13 * (2 + 1) + 41) ≤ R.locals
        omega) hlk
    refine ⟨U, hsteps, N.2.2 T.heap.size _ U (locs ++ []) (cells + 1) (slots + 6) (kk _ hP.fresh) hrun hend ?_ (State.WarmedH.trans Y.warmed hW) ?_ (fun q hq => hS.2.2 q (by rw [List.append_nil] at hq; exact hq)) (by omega) (by omega)⟩
    · obtain ⟨q1, q2, q3, q4, q5, q6⟩ := hsame
      have hcls : ce.cls = K.2.1.1 ci := Option.some.inj (hOC.cls.symm.trans (hTs.1.1 ci _ w5).2.1)
      have hlt : T.heap.size < U.heap.size := (Array.getElem?_eq_some_iff.mp hce).1
      have q3' : U.heap.size ≤ T.heap.size + (0 + 1) := q3
      refine hP.push (e := .inr (ci, [])) ⟨_, w5, ce, hce, hcls, hOC.vm, fun k hk => absurd hk (Nat.not_lt_zero _)⟩ (Nat.le_antisymm q3' hlt) fun q hq => ?_
      obtain ⟨c0, hc0⟩ : ∃ c0, T.heap[q]? = some c0 := ⟨_, Array.getElem?_eq_getElem hq⟩
      obtain ⟨c1, d1, d2, d3, d4⟩ := q6 q c0 hc0
      have d5 : c1.slots = c0.slots := Array.ext_getElem? fun i => d4 i (fun z => by cases z)
      have d6 : U.heap[q]? = some c1 := d1
      rw [d6, hc0, d2, d5]
    · have A : s.sameButNew ({ s with heap := T.heap, slotsUsed := T.slotsUsed } : State) locs cells slots := by
        obtain ⟨-, p2, p3, p4, p5, p6⟩ := Y.same
        refine ⟨?_, p2, p3, p4, p5, p6⟩
        obtain ⟨tt, ht, -⟩ := State.frames_cons Y.frames
        show ({ s with heap := T.heap, slotsUsed := T.slotsUsed } : State) = { s.setFrames s.frames with heap := T.heap, slotsUsed := T.slotsUsed }
        rw [State.setFrames_self ht]
      exact A.trans (hsame.setVm s.vm)
  exact ⟨t, st1 _ a1, hZ⟩
theorem xw_IAE {K : gK} {h : gH} {s : State} (hT : gT K s) (hP : gP K h s.heap) (args : Array Value) : ∀ w ∈ Bundle.ownAtoms0 "HerbrandTables" 48 "java/lang/IllegalArgumentException" ["java/lang/RuntimeException", "java/lang/Exception"], w.before args s = true := by
  have wd : ∀ {w : Cond}, w ∈ gW → w.before args s = true := fun hw => gT.word hT hw args
  have hc : gcl[10]? = some ("java/lang/IllegalArgumentException", T_ex, 0) := rfl
  have e1 : gAll (fun w => w.before args s = true) (Bundle.ownAtoms0 "HerbrandTables" 48 "java/lang/IllegalArgumentException" ["java/lang/RuntimeException", "java/lang/Exception"]) := ⟨wd (gW_of (gin_1 (List.mem_of_getElem? (i := 14) rfl)) rfl),
    wd (gW_of (gin_2 (List.mem_of_getElem? (i := 185) rfl)) rfl),
    wd (gW_of (gin_2 (List.mem_of_getElem? (i := 194) rfl)) rfl),
    wd (gW_of (gin_2 (List.mem_of_getElem? (i := 199) rfl)) rfl),
    wd (gW_of (gin_2 (List.mem_of_getElem? (i := 202) rfl)) rfl),
    wd (gW_of (gin_2 (List.mem_of_getElem? (i := 204) rfl)) rfl),
    wd (gW_of (gin_2 (List.mem_of_getElem? (i := 186) rfl)) rfl),
    wd (gW_of (gin_2 (List.mem_of_getElem? (i := 187) rfl)) rfl),
    wd (gW_of (gin_1 (List.mem_of_getElem? (i := 29) rfl)) rfl),
    wd (gW_of (gin_1 (List.mem_of_getElem? (i := 30) rfl)) rfl),
    wd (gW_of (gin_2 (List.mem_of_getElem? (i := 188) rfl)) rfl),
    wd (gW_of (gin_2 (List.mem_of_getElem? (i := 193) rfl)) rfl),
    wd (gW_of (gin_2 (List.mem_of_getElem? (i := 200) rfl)) rfl),
    wd (gW_of (gin_2 (List.mem_of_getElem? (i := 216) rfl)) rfl),
    wd (gW_of (gin_2 (List.mem_of_getElem? (i := 175) rfl)) rfl),
    wd (gW_of (gin_2 (List.mem_of_getElem? (i := 217) rfl)) rfl),
    wd (gW_of (gin_2 (List.mem_of_getElem? (i := 177) rfl)) rfl),
    wd (gW_of (gin_2 (List.mem_of_getElem? (i := 218) rfl)) rfl),
    wd (gW_of (gin_2 (List.mem_of_getElem? (i := 179) rfl)) rfl),
    wd (gW_of (gin_2 (List.mem_of_getElem? (i := 189) rfl)) rfl),
    x_lays hT.2.2.2.2.2.1 hP args,
    wd (gW_of (gin_2 (List.mem_of_getElem? (i := 191) rfl)) rfl),
    x_lays hT.2.2.2.2.2.2.1 hP args,
    wd (gW_of (gin_2 (List.mem_of_getElem? (i := 181) rfl)) rfl),
    wd (gW_of (gin_2 (List.mem_of_getElem? (i := 206) rfl)) rfl),
    wd (gW_of (gin_2 (List.mem_of_getElem? (i := 207) rfl)) rfl),
    wd (gW_of (gin_2 (List.mem_of_getElem? (i := 208) rfl)) rfl),
    wd (gW_of (gin_2 (List.mem_of_getElem? (i := 209) rfl)) rfl),
    x_decl (wd (gW_of (gin_2 (List.mem_of_getElem? (i := 210) rfl)) rfl)) (wd (gW_of (gin_2 (List.mem_of_getElem? (i := 209) rfl)) rfl)),
    wd (gW_of (gin_2 (List.mem_of_getElem? (i := 209) rfl)) rfl),
    wd (gW_of (gin_2 (List.mem_of_getElem? (i := 210) rfl)) rfl),
    wd (gW_of (gin_2 (List.mem_of_getElem? (i := 211) rfl)) rfl),
    wd (gW_of (gin_2 (List.mem_of_getElem? (i := 212) rfl)) rfl),
    x_decl (wd (gW_of (gin_2 (List.mem_of_getElem? (i := 213) rfl)) rfl)) (wd (gW_of (gin_2 (List.mem_of_getElem? (i := 212) rfl)) rfl)),
    wd (gW_of (gin_2 (List.mem_of_getElem? (i := 212) rfl)) rfl),
    wd (gW_of (gin_2 (List.mem_of_getElem? (i := 213) rfl)) rfl),
    wd (gW_of (gin_2 (List.mem_of_getElem? (i := 214) rfl)) rfl),
    wd (gW_of (gin_2 (List.mem_of_getElem? (i := 186) rfl)) rfl),
    x_decl (wd (gW_of (gin_2 (List.mem_of_getElem? (i := 187) rfl)) rfl)) (wd (gW_of (gin_2 (List.mem_of_getElem? (i := 186) rfl)) rfl)),
    wd (gW_of (gin_2 (List.mem_of_getElem? (i := 205) rfl)) rfl),
    wd (gW_of (gin_2 (List.mem_of_getElem? (i := 164) rfl)) rfl),
    x_cast (hT.1.1 10 _ hc).2 args,
    wd (gW_of (gin_2 (List.mem_of_getElem? (i := 172) rfl)) rfl),
    wd (gW_of (gin_2 (List.mem_of_getElem? (i := 173) rfl)) rfl),
    wd (gW_of (gin_2 (List.mem_of_getElem? (i := 174) rfl)) rfl),
    wd (gW_of (gin_2 (List.mem_of_getElem? (i := 176) rfl)) rfl),
    wd (gW_of (gin_2 (List.mem_of_getElem? (i := 178) rfl)) rfl),
    wd (gW_of (gin_2 (List.mem_of_getElem? (i := 180) rfl)) rfl),
    x_ref hT.2.2.2.2.2.1 hP args,
    x_ref hT.2.2.2.2.2.2.1 hP args,
    wd (gW_of (gin_2 (List.mem_of_getElem? (i := 184) rfl)) rfl),
    wd (gW_of (gin_2 (List.mem_of_getElem? (i := 183) rfl)) rfl),
    wd (gW_of (gin_2 (List.mem_of_getElem? (i := 182) rfl)) rfl), trivial⟩
  exact gAll_mem e1
theorem xn_IAE : Cond.classLink "HerbrandTables" 46 "java/lang/IllegalArgumentException" ∈ gW ∧ Cond.instantiable "java/lang/IllegalArgumentException" 6 ∈ gW ∧ Cond.initialized "java/lang/IllegalArgumentException" ∈ gW := ⟨(gW_of (gin_2 (List.mem_of_getElem? (i := 163) rfl)) rfl), (gW_of (gin_2 (List.mem_of_getElem? (i := 164) rfl)) rfl), (gW_of (gin_1 (List.mem_of_getElem? (i := 17) rfl)) rfl)⟩
theorem xw_ISE {K : gK} {h : gH} {s : State} (hT : gT K s) (hP : gP K h s.heap) (args : Array Value) : ∀ w ∈ Bundle.ownAtoms0 "HerbrandTables" 124 "java/lang/IllegalStateException" ["java/lang/RuntimeException", "java/lang/Exception"], w.before args s = true := by
  have wd : ∀ {w : Cond}, w ∈ gW → w.before args s = true := fun hw => gT.word hT hw args
  have hc : gcl[11]? = some ("java/lang/IllegalStateException", T_ex, 0) := rfl
  have e1 : gAll (fun w => w.before args s = true) (Bundle.ownAtoms0 "HerbrandTables" 124 "java/lang/IllegalStateException" ["java/lang/RuntimeException", "java/lang/Exception"]) := ⟨wd (gW_of (gin_1 (List.mem_of_getElem? (i := 14) rfl)) rfl),
    wd (gW_of (gin_2 (List.mem_of_getElem? (i := 185) rfl)) rfl),
    wd (gW_of (gin_2 (List.mem_of_getElem? (i := 194) rfl)) rfl),
    wd (gW_of (gin_2 (List.mem_of_getElem? (i := 199) rfl)) rfl),
    wd (gW_of (gin_2 (List.mem_of_getElem? (i := 202) rfl)) rfl),
    wd (gW_of (gin_2 (List.mem_of_getElem? (i := 204) rfl)) rfl),
    wd (gW_of (gin_2 (List.mem_of_getElem? (i := 186) rfl)) rfl),
    wd (gW_of (gin_2 (List.mem_of_getElem? (i := 187) rfl)) rfl),
    wd (gW_of (gin_1 (List.mem_of_getElem? (i := 29) rfl)) rfl),
    wd (gW_of (gin_1 (List.mem_of_getElem? (i := 30) rfl)) rfl),
    wd (gW_of (gin_2 (List.mem_of_getElem? (i := 188) rfl)) rfl),
    wd (gW_of (gin_2 (List.mem_of_getElem? (i := 193) rfl)) rfl),
    wd (gW_of (gin_2 (List.mem_of_getElem? (i := 200) rfl)) rfl),
    wd (gW_of (gin_2 (List.mem_of_getElem? (i := 216) rfl)) rfl),
    wd (gW_of (gin_2 (List.mem_of_getElem? (i := 175) rfl)) rfl),
    wd (gW_of (gin_2 (List.mem_of_getElem? (i := 217) rfl)) rfl),
    wd (gW_of (gin_2 (List.mem_of_getElem? (i := 177) rfl)) rfl),
    wd (gW_of (gin_2 (List.mem_of_getElem? (i := 218) rfl)) rfl),
    wd (gW_of (gin_2 (List.mem_of_getElem? (i := 179) rfl)) rfl),
    wd (gW_of (gin_2 (List.mem_of_getElem? (i := 189) rfl)) rfl),
    x_lays hT.2.2.2.2.2.1 hP args,
    wd (gW_of (gin_2 (List.mem_of_getElem? (i := 191) rfl)) rfl),
    x_lays hT.2.2.2.2.2.2.1 hP args,
    wd (gW_of (gin_2 (List.mem_of_getElem? (i := 181) rfl)) rfl),
    wd (gW_of (gin_3 (List.mem_of_getElem? (i := 77) rfl)) rfl),
    wd (gW_of (gin_3 (List.mem_of_getElem? (i := 78) rfl)) rfl),
    wd (gW_of (gin_3 (List.mem_of_getElem? (i := 79) rfl)) rfl),
    wd (gW_of (gin_2 (List.mem_of_getElem? (i := 209) rfl)) rfl),
    x_decl (wd (gW_of (gin_2 (List.mem_of_getElem? (i := 210) rfl)) rfl)) (wd (gW_of (gin_2 (List.mem_of_getElem? (i := 209) rfl)) rfl)),
    wd (gW_of (gin_2 (List.mem_of_getElem? (i := 209) rfl)) rfl),
    wd (gW_of (gin_2 (List.mem_of_getElem? (i := 210) rfl)) rfl),
    wd (gW_of (gin_2 (List.mem_of_getElem? (i := 211) rfl)) rfl),
    wd (gW_of (gin_2 (List.mem_of_getElem? (i := 212) rfl)) rfl),
    x_decl (wd (gW_of (gin_2 (List.mem_of_getElem? (i := 213) rfl)) rfl)) (wd (gW_of (gin_2 (List.mem_of_getElem? (i := 212) rfl)) rfl)),
    wd (gW_of (gin_2 (List.mem_of_getElem? (i := 212) rfl)) rfl),
    wd (gW_of (gin_2 (List.mem_of_getElem? (i := 213) rfl)) rfl),
    wd (gW_of (gin_2 (List.mem_of_getElem? (i := 214) rfl)) rfl),
    wd (gW_of (gin_2 (List.mem_of_getElem? (i := 186) rfl)) rfl),
    x_decl (wd (gW_of (gin_2 (List.mem_of_getElem? (i := 187) rfl)) rfl)) (wd (gW_of (gin_2 (List.mem_of_getElem? (i := 186) rfl)) rfl)),
    wd (gW_of (gin_3 (List.mem_of_getElem? (i := 76) rfl)) rfl),
    wd (gW_of (gin_3 (List.mem_of_getElem? (i := 68) rfl)) rfl),
    x_cast (hT.1.1 11 _ hc).2 args,
    wd (gW_of (gin_3 (List.mem_of_getElem? (i := 70) rfl)) rfl),
    wd (gW_of (gin_2 (List.mem_of_getElem? (i := 196) rfl)) rfl),
    wd (gW_of (gin_3 (List.mem_of_getElem? (i := 71) rfl)) rfl),
    wd (gW_of (gin_3 (List.mem_of_getElem? (i := 72) rfl)) rfl),
    wd (gW_of (gin_3 (List.mem_of_getElem? (i := 73) rfl)) rfl),
    wd (gW_of (gin_3 (List.mem_of_getElem? (i := 74) rfl)) rfl),
    x_ref hT.2.2.2.2.2.1 hP args,
    x_ref hT.2.2.2.2.2.2.1 hP args,
    wd (gW_of (gin_2 (List.mem_of_getElem? (i := 184) rfl)) rfl),
    wd (gW_of (gin_2 (List.mem_of_getElem? (i := 183) rfl)) rfl),
    wd (gW_of (gin_3 (List.mem_of_getElem? (i := 75) rfl)) rfl), trivial⟩
  exact gAll_mem e1
theorem xn_ISE : Cond.classLink "HerbrandTables" 122 "java/lang/IllegalStateException" ∈ gW ∧ Cond.instantiable "java/lang/IllegalStateException" 6 ∈ gW ∧ Cond.initialized "java/lang/IllegalStateException" ∈ gW := ⟨(gW_of (gin_3 (List.mem_of_getElem? (i := 67) rfl)) rfl), (gW_of (gin_3 (List.mem_of_getElem? (i := 68) rfl)) rfl), (gW_of (gin_1 (List.mem_of_getElem? (i := 20) rfl)) rfl)⟩
theorem xw_NSE {K : gK} {h : gH} {s : State} (hT : gT K s) (hP : gP K h s.heap) (args : Array Value) : ∀ w ∈ Bundle.ownAtoms0 "HerbrandTables" 131 "java/util/NoSuchElementException" ["java/lang/RuntimeException", "java/lang/Exception"], w.before args s = true := by
  have wd : ∀ {w : Cond}, w ∈ gW → w.before args s = true := fun hw => gT.word hT hw args
  have hc : gcl[12]? = some ("java/util/NoSuchElementException", T_ex, 0) := rfl
  have e1 : gAll (fun w => w.before args s = true) (Bundle.ownAtoms0 "HerbrandTables" 131 "java/util/NoSuchElementException" ["java/lang/RuntimeException", "java/lang/Exception"]) := ⟨wd (gW_of (gin_1 (List.mem_of_getElem? (i := 14) rfl)) rfl),
    wd (gW_of (gin_2 (List.mem_of_getElem? (i := 185) rfl)) rfl),
    wd (gW_of (gin_2 (List.mem_of_getElem? (i := 194) rfl)) rfl),
    wd (gW_of (gin_2 (List.mem_of_getElem? (i := 199) rfl)) rfl),
    wd (gW_of (gin_2 (List.mem_of_getElem? (i := 202) rfl)) rfl),
    wd (gW_of (gin_2 (List.mem_of_getElem? (i := 204) rfl)) rfl),
    wd (gW_of (gin_2 (List.mem_of_getElem? (i := 186) rfl)) rfl),
    wd (gW_of (gin_2 (List.mem_of_getElem? (i := 187) rfl)) rfl),
    wd (gW_of (gin_1 (List.mem_of_getElem? (i := 29) rfl)) rfl),
    wd (gW_of (gin_1 (List.mem_of_getElem? (i := 30) rfl)) rfl),
    wd (gW_of (gin_2 (List.mem_of_getElem? (i := 188) rfl)) rfl),
    wd (gW_of (gin_2 (List.mem_of_getElem? (i := 193) rfl)) rfl),
    wd (gW_of (gin_2 (List.mem_of_getElem? (i := 200) rfl)) rfl),
    wd (gW_of (gin_2 (List.mem_of_getElem? (i := 216) rfl)) rfl),
    wd (gW_of (gin_2 (List.mem_of_getElem? (i := 175) rfl)) rfl),
    wd (gW_of (gin_2 (List.mem_of_getElem? (i := 217) rfl)) rfl),
    wd (gW_of (gin_2 (List.mem_of_getElem? (i := 177) rfl)) rfl),
    wd (gW_of (gin_2 (List.mem_of_getElem? (i := 218) rfl)) rfl),
    wd (gW_of (gin_2 (List.mem_of_getElem? (i := 179) rfl)) rfl),
    wd (gW_of (gin_2 (List.mem_of_getElem? (i := 189) rfl)) rfl),
    x_lays hT.2.2.2.2.2.1 hP args,
    wd (gW_of (gin_2 (List.mem_of_getElem? (i := 191) rfl)) rfl),
    x_lays hT.2.2.2.2.2.2.1 hP args,
    wd (gW_of (gin_2 (List.mem_of_getElem? (i := 181) rfl)) rfl),
    wd (gW_of (gin_3 (List.mem_of_getElem? (i := 107) rfl)) rfl),
    wd (gW_of (gin_3 (List.mem_of_getElem? (i := 108) rfl)) rfl),
    wd (gW_of (gin_3 (List.mem_of_getElem? (i := 109) rfl)) rfl),
    wd (gW_of (gin_2 (List.mem_of_getElem? (i := 209) rfl)) rfl),
    x_decl (wd (gW_of (gin_2 (List.mem_of_getElem? (i := 210) rfl)) rfl)) (wd (gW_of (gin_2 (List.mem_of_getElem? (i := 209) rfl)) rfl)),
    wd (gW_of (gin_2 (List.mem_of_getElem? (i := 209) rfl)) rfl),
    wd (gW_of (gin_2 (List.mem_of_getElem? (i := 210) rfl)) rfl),
    wd (gW_of (gin_2 (List.mem_of_getElem? (i := 211) rfl)) rfl),
    wd (gW_of (gin_2 (List.mem_of_getElem? (i := 212) rfl)) rfl),
    x_decl (wd (gW_of (gin_2 (List.mem_of_getElem? (i := 213) rfl)) rfl)) (wd (gW_of (gin_2 (List.mem_of_getElem? (i := 212) rfl)) rfl)),
    wd (gW_of (gin_2 (List.mem_of_getElem? (i := 212) rfl)) rfl),
    wd (gW_of (gin_2 (List.mem_of_getElem? (i := 213) rfl)) rfl),
    wd (gW_of (gin_2 (List.mem_of_getElem? (i := 214) rfl)) rfl),
    wd (gW_of (gin_2 (List.mem_of_getElem? (i := 186) rfl)) rfl),
    x_decl (wd (gW_of (gin_2 (List.mem_of_getElem? (i := 187) rfl)) rfl)) (wd (gW_of (gin_2 (List.mem_of_getElem? (i := 186) rfl)) rfl)),
    wd (gW_of (gin_3 (List.mem_of_getElem? (i := 106) rfl)) rfl),
    wd (gW_of (gin_3 (List.mem_of_getElem? (i := 98) rfl)) rfl),
    x_cast (hT.1.1 12 _ hc).2 args,
    wd (gW_of (gin_3 (List.mem_of_getElem? (i := 100) rfl)) rfl),
    wd (gW_of (gin_2 (List.mem_of_getElem? (i := 198) rfl)) rfl),
    wd (gW_of (gin_3 (List.mem_of_getElem? (i := 101) rfl)) rfl),
    wd (gW_of (gin_3 (List.mem_of_getElem? (i := 102) rfl)) rfl),
    wd (gW_of (gin_3 (List.mem_of_getElem? (i := 103) rfl)) rfl),
    wd (gW_of (gin_3 (List.mem_of_getElem? (i := 104) rfl)) rfl),
    x_ref hT.2.2.2.2.2.1 hP args,
    x_ref hT.2.2.2.2.2.2.1 hP args,
    wd (gW_of (gin_2 (List.mem_of_getElem? (i := 184) rfl)) rfl),
    wd (gW_of (gin_2 (List.mem_of_getElem? (i := 183) rfl)) rfl),
    wd (gW_of (gin_3 (List.mem_of_getElem? (i := 105) rfl)) rfl), trivial⟩
  exact gAll_mem e1
theorem xn_NSE : Cond.classLink "HerbrandTables" 129 "java/util/NoSuchElementException" ∈ gW ∧ Cond.instantiable "java/util/NoSuchElementException" 6 ∈ gW ∧ Cond.initialized "java/util/NoSuchElementException" ∈ gW := ⟨(gW_of (gin_3 (List.mem_of_getElem? (i := 97) rfl)) rfl), (gW_of (gin_3 (List.mem_of_getElem? (i := 98) rfl)) rfl), (gW_of (gin_1 (List.mem_of_getElem? (i := 21) rfl)) rfl)⟩
theorem xw_IOB {K : gK} {h : gH} {s : State} (hT : gT K s) (hP : gP K h s.heap) (args : Array Value) : ∀ w ∈ Bundle.ownAtoms0 "HerbrandTables" 114 "java/lang/IndexOutOfBoundsException" ["java/lang/RuntimeException", "java/lang/Exception"], w.before args s = true := by
  have wd : ∀ {w : Cond}, w ∈ gW → w.before args s = true := fun hw => gT.word hT hw args
  have hc : gcl[13]? = some ("java/lang/IndexOutOfBoundsException", T_ex, 0) := rfl
  have e1 : gAll (fun w => w.before args s = true) (Bundle.ownAtoms0 "HerbrandTables" 114 "java/lang/IndexOutOfBoundsException" ["java/lang/RuntimeException", "java/lang/Exception"]) := ⟨wd (gW_of (gin_1 (List.mem_of_getElem? (i := 14) rfl)) rfl),
    wd (gW_of (gin_2 (List.mem_of_getElem? (i := 185) rfl)) rfl),
    wd (gW_of (gin_2 (List.mem_of_getElem? (i := 194) rfl)) rfl),
    wd (gW_of (gin_2 (List.mem_of_getElem? (i := 199) rfl)) rfl),
    wd (gW_of (gin_2 (List.mem_of_getElem? (i := 202) rfl)) rfl),
    wd (gW_of (gin_2 (List.mem_of_getElem? (i := 204) rfl)) rfl),
    wd (gW_of (gin_2 (List.mem_of_getElem? (i := 186) rfl)) rfl),
    wd (gW_of (gin_2 (List.mem_of_getElem? (i := 187) rfl)) rfl),
    wd (gW_of (gin_1 (List.mem_of_getElem? (i := 29) rfl)) rfl),
    wd (gW_of (gin_1 (List.mem_of_getElem? (i := 30) rfl)) rfl),
    wd (gW_of (gin_2 (List.mem_of_getElem? (i := 188) rfl)) rfl),
    wd (gW_of (gin_2 (List.mem_of_getElem? (i := 193) rfl)) rfl),
    wd (gW_of (gin_2 (List.mem_of_getElem? (i := 200) rfl)) rfl),
    wd (gW_of (gin_2 (List.mem_of_getElem? (i := 216) rfl)) rfl),
    wd (gW_of (gin_2 (List.mem_of_getElem? (i := 175) rfl)) rfl),
    wd (gW_of (gin_2 (List.mem_of_getElem? (i := 217) rfl)) rfl),
    wd (gW_of (gin_2 (List.mem_of_getElem? (i := 177) rfl)) rfl),
    wd (gW_of (gin_2 (List.mem_of_getElem? (i := 218) rfl)) rfl),
    wd (gW_of (gin_2 (List.mem_of_getElem? (i := 179) rfl)) rfl),
    wd (gW_of (gin_2 (List.mem_of_getElem? (i := 189) rfl)) rfl),
    x_lays hT.2.2.2.2.2.1 hP args,
    wd (gW_of (gin_2 (List.mem_of_getElem? (i := 191) rfl)) rfl),
    x_lays hT.2.2.2.2.2.2.1 hP args,
    wd (gW_of (gin_2 (List.mem_of_getElem? (i := 181) rfl)) rfl),
    wd (gW_of (gin_3 (List.mem_of_getElem? (i := 153) rfl)) rfl),
    wd (gW_of (gin_3 (List.mem_of_getElem? (i := 154) rfl)) rfl),
    wd (gW_of (gin_3 (List.mem_of_getElem? (i := 155) rfl)) rfl),
    wd (gW_of (gin_2 (List.mem_of_getElem? (i := 209) rfl)) rfl),
    x_decl (wd (gW_of (gin_2 (List.mem_of_getElem? (i := 210) rfl)) rfl)) (wd (gW_of (gin_2 (List.mem_of_getElem? (i := 209) rfl)) rfl)),
    wd (gW_of (gin_2 (List.mem_of_getElem? (i := 209) rfl)) rfl),
    wd (gW_of (gin_2 (List.mem_of_getElem? (i := 210) rfl)) rfl),
    wd (gW_of (gin_2 (List.mem_of_getElem? (i := 211) rfl)) rfl),
    wd (gW_of (gin_2 (List.mem_of_getElem? (i := 212) rfl)) rfl),
    x_decl (wd (gW_of (gin_2 (List.mem_of_getElem? (i := 213) rfl)) rfl)) (wd (gW_of (gin_2 (List.mem_of_getElem? (i := 212) rfl)) rfl)),
    wd (gW_of (gin_2 (List.mem_of_getElem? (i := 212) rfl)) rfl),
    wd (gW_of (gin_2 (List.mem_of_getElem? (i := 213) rfl)) rfl),
    wd (gW_of (gin_2 (List.mem_of_getElem? (i := 214) rfl)) rfl),
    wd (gW_of (gin_2 (List.mem_of_getElem? (i := 186) rfl)) rfl),
    x_decl (wd (gW_of (gin_2 (List.mem_of_getElem? (i := 187) rfl)) rfl)) (wd (gW_of (gin_2 (List.mem_of_getElem? (i := 186) rfl)) rfl)),
    wd (gW_of (gin_3 (List.mem_of_getElem? (i := 152) rfl)) rfl),
    wd (gW_of (gin_3 (List.mem_of_getElem? (i := 144) rfl)) rfl),
    x_cast (hT.1.1 13 _ hc).2 args,
    wd (gW_of (gin_3 (List.mem_of_getElem? (i := 146) rfl)) rfl),
    wd (gW_of (gin_2 (List.mem_of_getElem? (i := 197) rfl)) rfl),
    wd (gW_of (gin_3 (List.mem_of_getElem? (i := 147) rfl)) rfl),
    wd (gW_of (gin_3 (List.mem_of_getElem? (i := 148) rfl)) rfl),
    wd (gW_of (gin_3 (List.mem_of_getElem? (i := 149) rfl)) rfl),
    wd (gW_of (gin_3 (List.mem_of_getElem? (i := 150) rfl)) rfl),
    x_ref hT.2.2.2.2.2.1 hP args,
    x_ref hT.2.2.2.2.2.2.1 hP args,
    wd (gW_of (gin_2 (List.mem_of_getElem? (i := 184) rfl)) rfl),
    wd (gW_of (gin_2 (List.mem_of_getElem? (i := 183) rfl)) rfl),
    wd (gW_of (gin_3 (List.mem_of_getElem? (i := 151) rfl)) rfl), trivial⟩
  exact gAll_mem e1
theorem xn_IOB : Cond.classLink "HerbrandTables" 112 "java/lang/IndexOutOfBoundsException" ∈ gW ∧ Cond.instantiable "java/lang/IndexOutOfBoundsException" 6 ∈ gW ∧ Cond.initialized "java/lang/IndexOutOfBoundsException" ∈ gW := ⟨(gW_of (gin_3 (List.mem_of_getElem? (i := 143) rfl)) rfl), (gW_of (gin_3 (List.mem_of_getElem? (i := 144) rfl)) rfl), (gW_of (gin_1 (List.mem_of_getElem? (i := 22) rfl)) rfl)⟩
