/-! ===== caught: a call's throw goes on at the row of the table that takes it ===== -/
/-- the rows of a table, in their order: the first that takes class E leads to tgt -/
def gRw (own : String) (pc : Nat) (E : String) (tgt : Nat) : List (Nat × Nat × Nat × Nat) → Prop
  | [] => False
  | y :: t => (y.1 ≤ pc ∧ pc < y.2.1) ∧ y.2.2.2 ≠ 0 ∧ ((Cond.classLink own y.2.2.2 E ∈ gW ∧ y.2.2.1 = tgt) ∨ ((∃ nm, Cond.classLink own y.2.2.2 nm ∈ gW ∧ (E, nm) ∈ gNC) ∧ gRw own pc E tgt t))
/-- a throw of class ci at pc is caught at tgt -/
def gCt (M : gM) (pc ci tgt : Nat) : Prop := ∃ E, gcl[ci]? = some (E, T_ex, 0) ∧ gRw M.1.cls pc E tgt M.2.2.2.2
/-- one row that covers the place: its class is looked up, and takes the object or doesn't -/
theorem gh_row {Q : Handler → Pre} {E : CtlPost} {e : Env} {d : Bool} {acts : List Action} {S : State} {f : JFrame} {a : Addr} {x : ExceptionTableEntry} {t : List ExceptionTableEntry} {cc : ClassId} {cell : Cell} {b : Bool} (hx : covers x f.pc = true) (h0 : x.catchType ≠ 0) (hl : S.vm.ClassLinks e.platform f.method.cls x.catchType cc) (hcell : S.heap[a]? = some cell) (hv : cell.vm = .none) (hk : ∃ k, S.vm.classes[cell.cls]? = some k) (hk2 : ∃ k, S.vm.classes[cc]? = some k) (hb : S.vm.assignable cell.cls cc = b) :
    wp (findHandler.go f a (x :: t)) Q E e d acts S ↔ if b = true then Q (.found x.handlerPc) d acts (S.setVm (S.vm.noted f.method.cls x.catchType (.cls cc))) else wp (findHandler.go f a t) Q E e d acts (S.setVm (S.vm.noted f.method.cls x.catchType (.cls cc))) := by
  have hal : S.vm.Alike (S.vm.noted f.method.cls x.catchType (.cls cc)) := (Vm.Alike.refl S.vm).noted _ _ _
  obtain ⟨g1, g2⟩ := (resolveClass_links e.toSetting hl).op (op := VmOp.resolveClass f.method.cls x.catchType) rfl
  obtain ⟨k1, hk⟩ := hk
  obtain ⟨k2, hk2⟩ := hk2
  obtain ⟨k3, hk3, -⟩ := hal.2.2 _ _ hk
  obtain ⟨k4, hk4, -⟩ := hal.2.2 _ _ hk2
  have hb' := (hal.assignable cell.cls cc).trans hb
  have hx' : (decide (x.startPc ≤ f.pc) && decide (f.pc < x.endPc)) = true := hx
  have hs : ∀ k, cell.vm ≠ .statics k := fun k z => by
    rw [hv] at z
    cases z
  cases b
  · simp [findHandler.go, hx', h0, g1, g2, hcell, hs, hk3, hk4, hb', VmOp.dirties, VmOp.acts]
  · simp [findHandler.go, hx', h0, g1, g2, hcell, hs, hk3, hk4, hb', VmOp.dirties, VmOp.acts]
/-- the search comes to its row -/
theorem gh_find {K : gK} {e : Env} {s : State} {args : Array Value} {own En : String} {f : JFrame} {a : Addr} {cell : Cell} {tgt : Nat} (hT : gT K s) (hpl : e.platform.magicAccessors = ({} : Platform).magicAccessors) (hown : s.vm.findClass own = some f.method.cls) (hcl : s.vm.findClass En = some cell.cls) (hv : cell.vm = .none) : ∀ (t : List ExceptionTableEntry) (S : State), s.WarmedH S.vm → S.heap[a]? = some cell → gRw own f.pc En tgt (t.map (fun h => (h.startPc, h.endPc, h.handlerPc, h.catchType))) →
    ∃ vm', s.WarmedH vm' ∧ ∀ (Q : Handler → Pre) (E : CtlPost) (d : Bool) (acts : List Action), wp (findHandler.go f a t) Q E e d acts S ↔ Q (.found tgt) d acts (S.setVm vm') := by
  obtain ⟨k0, hk0⟩ := Vm.classAt_of_findClass hcl
  intro t
  induction t with
  | nil => exact fun S _ _ h => False.elim h
  | cons x t ih =>
    intro S hW hc h
    obtain ⟨⟨h1, h2⟩, h0, h3⟩ := h
    have hx : covers x f.pc = true := by
      show (decide (x.startPc ≤ f.pc) && decide (f.pc < x.endPc)) = true
      rw [decide_eq_true h1, decide_eq_true h2]
      rfl
    obtain ⟨k1, hk1, -⟩ := hW.alike.2.2 _ _ hk0
    rcases h3 with ⟨w1, rfl⟩ | ⟨⟨nm, w1, w2⟩, h4⟩
    · obtain ⟨cc, hcc, hl⟩ := Cond.classLink_spec hown (gT.word hT w1 args) e.platform hpl
      cases Option.some.inj (hcl.symm.trans hcc)
      obtain ⟨dk, -, -, kt, hd, -, -, -, -, hkt, -, hopen⟩ := hl.here
      refine ⟨_, hW.noted hd hopen (State.rightAt_cls hl), fun Q E d acts => ?_⟩
      have hb : S.vm.assignable cell.cls cell.cls = true := by
        show S.vm.assignableAux (255 + 1) cell.cls cell.cls = true
        rw [Vm.assignableAux, Bool.or_eq_true, beq_iff_eq]
        exact Or.inl rfl
      rw [gh_row hx h0 (hW.classLinks hl) hc hv ⟨k1, hk1⟩ ⟨k1, hk1⟩ hb, if_pos rfl]
    · obtain ⟨cc, hcc, hl⟩ := Cond.classLink_spec hown (gT.word hT w1 args) e.platform hpl
      obtain ⟨c1, c2, n1, n2, n3⟩ := hT.2.2.1.2.1 _ w2
      cases Option.some.inj (hcl.symm.trans n1)
      cases Option.some.inj (hcc.symm.trans n2)
      obtain ⟨dk, -, -, kt, hd, -, -, -, -, hkt, -, hopen⟩ := hl.here
      obtain ⟨k2, hk2, -⟩ := hW.alike.2.2 _ _ hkt
      obtain ⟨vm', hW', hq⟩ := ih (S.setVm (S.vm.noted f.method.cls x.catchType (.cls cc))) (hW.noted hd hopen (State.rightAt_cls hl)) hc h4
      refine ⟨vm', hW', fun Q E d acts => ?_⟩
      have hb : S.vm.assignable cell.cls cc = false := (hW.alike.assignable _ _).trans n3
      rw [gh_row hx h0 (hW.classLinks hl) hc hv ⟨k1, hk1⟩ ⟨k2, hk2⟩ hb, if_neg Bool.false_ne_true]
      exact hq Q E d acts
/-- the frame goes on at the handler, the tables as the search left them -/
theorem gh_step {tb : Tables} {e : Env} {s target : State} {g : JFrame} {c : Code} {below : List Frame} {a : Addr} {tgt : Nat} {vm' : Vm} (h : At s g.method c below) (hf : ∀ (Q : Handler → Pre) (E : CtlPost) (d : Bool) (acts : List Action), wp (findHandler g a) Q E e d acts ((s.setTop g).pushFrame (.throwing a)) ↔ Q (.found tgt) d acts (((s.setTop g).pushFrame (.throwing a)).setVm vm'))
    (hrest : Steps tb e below ((s.setVm vm').setTop { g with pc := tgt, stack := [.ref a] }) target) : Steps tb e below ((s.setTop g).pushFrame (.throwing a)) target := by
  obtain ⟨hgo, hw⟩ := h.throwing a
  obtain ⟨g₀, hg⟩ := Option.isSome_iff_exists.mp h.top
  obtain ⟨r, hr⟩ := State.topJava?_eq_some.mp hg
  have hr' : (s.setVm vm').frames = .java g₀ :: r := hr
  have hone : (stepThrowing e ((s.setTop g).pushFrame (.throwing a)) a (.java g :: r)).Is ((((s.setTop g).pushFrame (.throwing a)).setVm vm').setFrames (.java { g with pc := tgt, stack := [.ref a] } :: r)) [] := by
    simp only [stepThrowing, searchFrame, vmDo]
    generalize hq : Sem.go _ e false [] ((s.setTop g).pushFrame (.throwing a)) = res
    obtain ⟨as, rfl, ha⟩ := Sem.eq_ok_of hq (a := Handler.found tgt) (s' := ((s.setTop g).pushFrame (.throwing a)).setVm vm') (acts' := []) (by simp [hf _ _ _ _])
    exact ⟨rfl, ha⟩
  refine Steps.head hgo hw ?_
  have hfr : ((s.setTop g).pushFrame (.throwing a)).frames = .throwing a :: .java g :: r := by
    rw [frames_entered h.top, hr]
    rfl
  rw [stepThread_throwing hfr, hone.1]
  have e1 : (((s.setTop g).pushFrame (.throwing a)).setVm vm').setFrames (.java { g with pc := tgt, stack := [.ref a] } :: r) = (s.setVm vm').setTop { g with pc := tgt, stack := [.ref a] } := by
    rw [State.setTop_of_frames _ hr', State.pushFrame, State.setTop_of_frames _ hr, State.setFrames_setFrames]
    show ((s.setVm vm').setFrames _).setFrames _ = _
    rw [State.setFrames_setFrames]
  rw [e1]
  exact hrest
/-- a call whose throw this method catches -/
theorem g_callC {K : gK} {M M' : gM} {R R' : Room} {pc : Nat} {lv : List (Nat × Value)} {st rest av : List Value} {h : gH} {kc ks n : Nat} {Q Q' : Outcome → gH → Prop} {ig : Instr} (hM : Ct K R' M' av h Q') (hm : gMd M' n) (hd : decode M.2.1 pc = .ok (ig, 3)) (hI : gInv K M M' R pc st rest av h) (hfr : R'.frames + 1 ≤ R.frames) (hlo : 8 + (M'.2.2.1 + 11) + R'.locals ≤ R.locals) (hkc : R'.cells ≤ kc) (hks : R'.slots ≤ ks) (hw : (rest.map fun v => v.category).sum ≤ 8)
    (kk : ∀ v h', Q' (.returned v) h' → Go K M R (pc + 3) lv (v.toList ++ rest) h' (kc - R'.cells) (ks - R'.slots) Q) (kx : ∀ a h', Q' (.threw a) h' → ∃ ci tgt, h' a = some (.inr (ci, [])) ∧ gCt M pc ci tgt ∧ Go K M R tgt lv [.ref a] h' (kc - R'.cells) (ks - R'.slots) Q) : Go K M R pc lv st h kc ks Q := by
  intro p e s m args below meth c Z H locs cells slots ls C N hP hS hl h1 h2 T hT X
  subst hT
  obtain ⟨vm₁, mk, X₁, hn, hstep⟩ := hI p e s m args below meth c T locs cells slots ls C hP hl.1 X
  obtain ⟨hx, hb, hml, -, -, -, hown, htab, hTs, -⟩ := id C
  obtain ⟨o, h', T', L, hq, hP', hL, X', hor⟩ := g_back (g := F0 m pc ls rest) hM hm hfr hlo X₁ hTs hP (by omega) (by omega) rfl (hl.1.trans hml.symm) (by rw [hb]; exact hd) (lv_room hw) hn
  have hS' : va_S (gA K) s.heap T'.heap (locs ++ L) := gS_same X' hS hP hP' hL
  rcases hor with ⟨v, rfl, hst⟩ | ⟨a, rfl, hst⟩
  · obtain ⟨t, a1, b1⟩ := kk v h' hq p e s m args below meth c Z T'.heap (locs ++ L) (cells + R'.cells) (slots + R'.slots) ls C N hP' hS' hl (by omega) (by omega) T' rfl X'
    exact ⟨t, hstep _ (fun acts => by rw [doInvoke_state]; exact hst.trans a1), b1⟩
  · obtain ⟨ci, tgt, ha, ⟨En, hcl, hrw⟩, kg⟩ := kx a h' hq
    obtain ⟨-, r, r1, cell, q1, q2, q3, -⟩ := hP'.2.2 a _ ha
    have hr : r = (En, T_ex, 0) := Option.some.inj (r1.symm.trans hcl)
    subst hr
    obtain ⟨-, hfc, -⟩ := hTs.1.1 ci _ hcl
    have hpl : e.platform.magicAccessors = ({} : Platform).magicAccessors := by rw [X.admits.platform]
    obtain ⟨vm', hW', hf⟩ := gh_find (args := args) (f := F0 m pc ls rest) (a := a) (cell := cell) (tgt := tgt) hTs hpl hown (by rw [q2]; exact hfc) q3 c.exceptionTable.toList ((T'.setTop (F0 m pc ls rest)).pushFrame (.throwing a)) (by rw [Stand.throwing_vm]; exact X'.warmed) (by rw [Stand.throwing_heap]; exact q1) (by
      have : gtab c = M.2.2.2.2 := htab
      unfold gtab at this
      rw [this]
      exact hrw)
    obtain ⟨t, a1, b1⟩ := kg p e s m args below meth c Z T'.heap (locs ++ L) (cells + R'.cells) (slots + R'.slots) ls C N hP' hS' hl (by omega) (by omega) (T'.setVm vm') rfl (X'.noted hW')
    have hs2 : Steps p.tables e below ((T'.setTop (F0 m pc ls rest)).pushFrame (.throwing a)) t := gh_step (g := F0 m pc ls rest) (tgt := tgt) (vm' := vm') X'.here (fun Q E d acts => by
      rw [W.findHandler_eq (meth := meth) (code := c) (by rw [Stand.throwing_vm]; exact X'.method') X'.code]
      exact hf Q E d acts) a1
    exact ⟨t, hstep _ (fun acts => by rw [doInvoke_state]; exact hst.trans hs2), b1⟩
/-! the law's tables: which class its rows name -/
theorem wl_13 : Cond.classLink "HerbrandTablesLaw" 13 "java/lang/IllegalArgumentException" ∈ gW := gW_of (gin_2 (List.mem_of_getElem? (i := 104) rfl)) rfl
theorem wl_18 : Cond.classLink "HerbrandTablesLaw" 18 "java/lang/IllegalStateException" ∈ gW := gW_of (gin_3 (List.mem_of_getElem? (i := 58) rfl)) rfl
theorem wl_23 : Cond.classLink "HerbrandTablesLaw" 23 "java/util/NoSuchElementException" ∈ gW := gW_of (gin_3 (List.mem_of_getElem? (i := 87) rfl)) rfl
theorem wl_32 : Cond.classLink "HerbrandTablesLaw" 32 "java/lang/IndexOutOfBoundsException" ∈ gW := gW_of (gin_3 (List.mem_of_getElem? (i := 138) rfl)) rfl
theorem ct_read : gCt M_Law_read 3 10 11 := ⟨_, rfl, ⟨by decide, by decide⟩, by decide, Or.inl ⟨wl_13, rfl⟩⟩
theorem ct_tables : gCt M_Law_tables 3 11 11 := ⟨_, rfl, ⟨by decide, by decide⟩, by decide, Or.inl ⟨wl_18, rfl⟩⟩
theorem ct_least1 : gCt M_Law_least 3 11 11 := ⟨_, rfl, ⟨by decide, by decide⟩, by decide, Or.inl ⟨wl_18, rfl⟩⟩
theorem ct_least2 : gCt M_Law_least 3 12 14 := ⟨_, rfl, ⟨by decide, by decide⟩, by decide, Or.inr ⟨⟨_, wl_18, by decide⟩, ⟨by decide, by decide⟩, by decide, Or.inl ⟨wl_23, rfl⟩⟩⟩
theorem ct_greatest1 : gCt M_Law_greatest 3 11 11 := ⟨_, rfl, ⟨by decide, by decide⟩, by decide, Or.inl ⟨wl_18, rfl⟩⟩
theorem ct_greatest2 : gCt M_Law_greatest 3 12 14 := ⟨_, rfl, ⟨by decide, by decide⟩, by decide, Or.inr ⟨⟨_, wl_18, by decide⟩, ⟨by decide, by decide⟩, by decide, Or.inl ⟨wl_23, rfl⟩⟩⟩
theorem ct_forced1 : gCt M_Law_forced 4 11 12 := ⟨_, rfl, ⟨by decide, by decide⟩, by decide, Or.inl ⟨wl_18, rfl⟩⟩
theorem ct_forced2 : gCt M_Law_forced 4 13 15 := ⟨_, rfl, ⟨by decide, by decide⟩, by decide, Or.inr ⟨⟨_, wl_18, by decide⟩, ⟨by decide, by decide⟩, by decide, Or.inl ⟨wl_32, rfl⟩⟩⟩
theorem ct_forced3 : gCt M_Law_forced 4 12 18 := ⟨_, rfl, ⟨by decide, by decide⟩, by decide, Or.inr ⟨⟨_, wl_18, by decide⟩, ⟨by decide, by decide⟩, by decide, Or.inr ⟨⟨_, wl_32, by decide⟩, ⟨by decide, by decide⟩, by decide, Or.inl ⟨wl_23, rfl⟩⟩⟩⟩
theorem ct_without1 : gCt M_Law_without 4 11 19 := ⟨_, rfl, ⟨by decide, by decide⟩, by decide, Or.inl ⟨wl_18, rfl⟩⟩
theorem ct_without2 : gCt M_Law_without 4 13 22 := ⟨_, rfl, ⟨by decide, by decide⟩, by decide, Or.inr ⟨⟨_, wl_18, by decide⟩, ⟨by decide, by decide⟩, by decide, Or.inl ⟨wl_32, rfl⟩⟩⟩
theorem ct_core1 : gCt M_Law_core 4 11 19 := ⟨_, rfl, ⟨by decide, by decide⟩, by decide, Or.inl ⟨wl_18, rfl⟩⟩
theorem ct_core2 : gCt M_Law_core 4 13 22 := ⟨_, rfl, ⟨by decide, by decide⟩, by decide, Or.inr ⟨⟨_, wl_18, by decide⟩, ⟨by decide, by decide⟩, by decide, Or.inl ⟨wl_32, rfl⟩⟩⟩
/-! the script: an array of the start -/
def gSc (K : gK) (b n : Nat) (xs : Nat → Int32) : Prop := b < gB K ∧ ∃ cell : Cell, (gI K)[b]? = some cell ∧ cell.cls = K.2.2.1 6 ∧ (∀ k, cell.vm ≠ .statics k) ∧ cell.vm ≠ .unknown ∧ cell.slots.size = n ∧ ∀ j, j < n → cell.slots[j]? = some (.int (xs j))
theorem gSc.at {K : gK} {b n : Nat} {xs : Nat → Int32} (hb : gSc K b n xs) {h : gH} {H : Heap} (hP : gP K h H) {s : State} (hT : gT K s) : ∃ cell : Cell, H[b]? = some cell ∧ s.isArrayOf cell .int ∧ cell.vm ≠ .unknown ∧ cell.slots.size = n ∧ ∀ j, j < n → cell.slots[j]? = some (.int (xs j)) := by
  obtain ⟨h1, cell, h2, h3, h4, h5, h6, h7⟩ := hb
  refine ⟨cell, (hP.2.1 b h1).trans h2, ⟨h4, ?_⟩, h5, h6, h7⟩
  rw [h3]
  exact (hT.2.2.1.2.2 0 fun _ => .int 0).2
theorem g_alen0 {K : gK} {M : gM} {R : Room} {pc : Nat} {lv : List (Nat × Value)} {st : List Value} {h : gH} {kc ks : Nat} {Q : Outcome → gH → Prop} {a n : Nat} {f : Nat → Int32} (hd : decode M.2.1 pc = .ok (.arraylength, 1)) (ha : gSc K a n f) (kk : Go K M R (pc + 1) lv (.int (nI n) :: st) h kc ks Q) : Go K M R pc lv (.ref a :: st) h kc ks Q := by
  intro p e s m args below meth c Z H locs cells slots ls C N hP hS hl h1 h2
  have kk := kk p e s m args below meth c Z H locs cells slots ls C N hP hS hl h1 h2
  obtain ⟨hx, hb, -, -, -, -, hown, -, hT, -⟩ := C
  obtain ⟨cell, c1, c2, c3, c4, c5⟩ := ha.at hP hT
  exact W.alen (n := Int32.ofNat n) hx hb c1 c2 (by rw [c4] <;> rfl) rfl rfl hd kk
theorem g_iald0 {K : gK} {M : gM} {R : Room} {pc : Nat} {lv : List (Nat × Value)} {st : List Value} {h : gH} {kc ks : Nat} {Q : Outcome → gH → Prop} {a n j : Nat} {i : Int32} {f : Nat → Int32} (hd : decode M.2.1 pc = .ok (.iaload, 1)) (ha : gSc K a n f) (hi : i = nI j) (hj : j < n) (hn : n < 2 ^ 31) (kk : Go K M R (pc + 1) lv (.int (f j) :: st) h kc ks Q) : Go K M R pc lv (.int i :: .ref a :: st) h kc ks Q := by
  intro p e s m args below meth c Z H locs cells slots ls C N hP hS hl h1 h2
  have kk := kk p e s m args below meth c Z H locs cells slots ls C N hP hS hl h1 h2
  obtain ⟨hx, hb, -, -, -, -, hown, -, hT, -⟩ := C
  obtain ⟨cell, c1, c2, c3, c4, c5⟩ := ha.at hP hT
  subst hi
  have hin := vp_in_nI hj hn
  have e1 := nI_clamp (Nat.lt_trans hj hn)
  exact W.iald (v := .int (f j)) hx hb c1 c2 c3 (by rw [c4]; exact hin) (by rw [e1]; exact c5 j hj) rfl rfl hd kk
