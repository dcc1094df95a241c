section GOCALL
variable {K : gK} {M M' : gM} {R R' : Room} {pc : Nat} {lv : List (Nat × Value)} {st rest : List Value} {h : gH} {kc ks : Nat} {Q Q' : Outcome → gH → Prop} {av As : List Value} {n idx : Nat}
/-- a method of the system: its word is the tables' -/
def gMd (M : gM) (n : Nat) : Prop := gw M ∈ gW ∧ Cond.initialized M.1.cls ∈ gW ∧ M.1.cls ≠ "java/lang/invoke/MethodHandle" ∧ M.1.cls ≠ "java/lang/invoke/VarHandle" ∧ (parseMethodDescriptor M.1.desc).map (fun d => d.parameters.length) = some n
theorem gMd.len (hm : gMd M n) {sig : MethodDescriptor} (hs : parseMethodDescriptor M.1.desc = some sig) : n = sig.parameters.length := by
  have h2 := hm.2.2.2.2
  rw [hs] at h2
  exact (Option.some.inj h2).symm
set_option maxHeartbeats 1000000 in
/-- a callee that is met comes back, with an answer or a throw -/
theorem g_back (hM : Ct K R' M' av h Q') (hm : gMd M' n) (hframes : R'.frames + 1 ≤ R.frames) (hlocals : 8 + (M'.2.2.1 + 11) + R'.locals ≤ R.locals)
    {p : Program} {e : Env} {s : State} {m : MethodId} {args : Array Value} {below : List Frame} {meth : Method} {c : Code} {U : State} {locs : List Loc} {cells slots : Nat}
    (X : Stand p K.1 e R s m args below meth c U locs cells slots) (hT : gT K s) (hP : gP K h U.heap) (hc : cells + R'.cells ≤ R.cells) (hs : slots + R'.slots ≤ R.slots)
    {g : JFrame} {ig : Instr} {mk : MethodId} (hg : g.method = m) (hsize : g.locals.size = c.maxLocals) (hdg : decode c.code g.pc = .ok (ig, 3)) (hW : 2 * g.monitorRoom + (g.stack.map fun v => v.category).sum ≤ 8) (hn : U.methodNamed? M'.1 = some mk) :
    ∃ (o : Outcome) (h' : gH) (T' : State) (L : List Loc), Q' o h' ∧ gP K h' T'.heap ∧ (∀ q ∈ L, gA K q.base) ∧ Stand p K.1 e R s m args below meth c T' (locs ++ L) (cells + R'.cells) (slots + R'.slots) ∧
      ((∃ v, o = .returned v ∧ Steps p.tables e below (doInvoke e (U.setTop g) [] mk av.toArray).1 (T'.setTop { g with pc := g.pc + 3, stack := v.toList ++ g.stack })) ∨
       (∃ a, o = .threw a ∧ Steps p.tables e below (doInvoke e (U.setTop g) [] mk av.toArray).1 ((T'.setTop g).pushFrame (.throwing a)))) := by
  have hTU : gT K U := gT.moved X.warmed hT
  have h1 : (headSpec [gw M'] R').pre.before av.toArray U = true := atoms_intro fun w hw => by rw [List.mem_singleton.mp hw]; exact gT.word hTU hm.1 _
  have h2 : (gw M').before av.toArray U = true := gT.word hTU hm.1 _
  have h3 : (Cond.initialized M'.1.cls).before av.toArray U = true := gT.word hTU hm.2.1 _
  have hPc : gPc K av h av.toArray (U.calling g mk av.toArray) := ⟨rfl, hP, gT.moved (s := U) (U := U.calling g mk av.toArray) (State.WarmedH.refl U) hTU⟩
  obtain ⟨methY, cY, hmY, hcY, -, hlY, -, -, -, -⟩ := gw_spec hn h2
  obtain ⟨kY, hkY, -⟩ := className_of_methodNamed hn
  have hinitY : kY.init = .initialized := Cond.initialized_spec (findClass_of_methodNamed hn) hkY h3
  have hAt : At U g.method c below := by rw [hg]; exact X.here
  have happ : (headSpec [gw M'] R').appliesLoose M'.1 e.platform (U.calling g mk av.toArray) = true :=
    Spec.appliesLoose_calling (g := g) hAt hdg hn hkY hinitY (X.room_calling (g := g) (R' := (headSpec [gw M'] R').room) hsize hmY hcY hframes (by rw [hlY]; have h9 : 8 + (M'.2.2.1 + 11) + (headSpec [gw M'] R').room.locals ≤ R.locals := hlocals; omega) hc hs) h1
  obtain ⟨mid, hmid⟩ := hAt.above
  have hfr : (U.setTop g).frames = (.java g :: mid) ++ below := by rw [State.frames_setTop' g hAt.top, hmid]; rfl
  obtain ⟨o, s₂, hsteps, -, hend, hq⟩ := Steps.callFree hM p X.admits X.cas X.clock (acts := []) hfr happ hPc trivial
  have hq' : gQ K Q' R'.cells R'.slots av.toArray (U.calling g mk av.toArray) o s₂ := hq
  obtain ⟨⟨h', hqo, hP'⟩, hT2, hW₂, L, hsm, hL⟩ := hq'
  obtain ⟨e2, q2, q3, q4, q5, q6⟩ := id hsm
  rw [State.frames_setTop' g hAt.top] at hend
  obtain ⟨g₀, hg0⟩ := Option.isSome_iff_exists.mp hAt.top
  obtain ⟨r, hr⟩ := State.topJava?_eq_some.mp hg0
  have hr' : (({ U with heap := s₂.heap, slotsUsed := s₂.slotsUsed } : State).setVm s₂.vm).frames = .java g₀ :: r := hr
  have e3 : s₂ = ({ (U.calling g mk av.toArray).setFrames s₂.frames with heap := s₂.heap, slotsUsed := s₂.slotsUsed } : State).setVm s₂.vm := by
    have : s₂ = ({ s₂ with vm := (U.calling g mk av.toArray).vm } : State).setVm s₂.vm := rfl
    rw [e2] at this
    exact this
  have hW' : U.WarmedH s₂.vm := hW₂
  have hsame : U.sameButNew ({ U with heap := s₂.heap, slotsUsed := s₂.slotsUsed } : State) L R'.cells R'.slots := by
    refine ⟨?_, q2, q3, q4, q5, q6⟩
    obtain ⟨t, ht, -⟩ := State.frames_cons hr
    show ({ U with heap := s₂.heap, slotsUsed := s₂.slotsUsed } : State) = { U.setFrames U.frames with heap := s₂.heap, slotsUsed := s₂.slotsUsed }
    rw [State.setFrames_self ht]
  subst hg
  refine ⟨o, h', (({ U with heap := s₂.heap, slotsUsed := s₂.slotsUsed } : State).setVm s₂.vm), L, hqo, hP', hL,
    ⟨X.admits, X.cas, X.clock, X.frames, X.room, X.hears, X.method, X.code, (X.here.setHeapUsed s₂.heap s₂.slotsUsed).setVm hW'.alike, X.tail, State.WarmedH.trans X.warmed hW', X.limits, X.bytes, X.same.trans (hsame.setVm s.vm)⟩, ?_⟩
  cases o with
  | returned v =>
    left
    refine ⟨v, rfl, ?_⟩
    obtain ⟨c₂, i₂, len₂, hc₂, hd₂, hf₂⟩ := hend
    have hcc : c₂ = c := by
      have h1 : s₂.code? g.method = U.code? g.method := by
        rw [State.code?_eq, State.code?_eq, hW'.alike.method?]
      exact Option.some.inj (hc₂.symm.trans (h1.trans hAt.code))
    subst hcc
    have hlen : len₂ = 3 := by rw [hdg] at hd₂; cases hd₂; rfl
    subst hlen
    have hs₂ : s₂ = (({ U with heap := s₂.heap, slotsUsed := s₂.slotsUsed } : State).setVm s₂.vm).setTop { g with pc := g.pc + 3, stack := v.toList ++ g.stack } := by
      refine e3.trans ?_
      rw [hf₂, State.calling_eq hAt.top, State.setFrames_setFrames, State.setTop_of_frames _ hr', hr]
      rfl
    rw [← hs₂]
    exact hsteps
  | threw a =>
    right
    refine ⟨a, rfl, ?_⟩
    have hf₂ : s₂.frames = .throwing a :: .java g :: U.frames.tail := hend
    have hs₂ : s₂ = ((({ U with heap := s₂.heap, slotsUsed := s₂.slotsUsed } : State).setVm s₂.vm).setTop g).pushFrame (.throwing a) := by
      refine e3.trans ?_
      rw [hf₂, State.calling_eq hAt.top, State.setFrames_setFrames, State.pushFrame, State.frames_setTop _ hr', State.setTop_of_frames _ hr', State.setFrames_setFrames, hr]
      rfl
    rw [← hs₂]
    exact hsteps
/-- how an instruction at pc, with st on the stack, comes to invoke M' with av over rest -/
def gInv (K : gK) (M M' : gM) (R : Room) (pc : Nat) (st rest av : List Value) (h : gH) : Prop :=
  ∀ (p : Program) (e : Env) (s : State) (m : MethodId) (args : Array Value) (below : List Frame) (meth : Method) (c : Code) (T : State) (locs : List Loc) (cells slots : Nat) (ls : Array Slot),
    gC K M p s m meth c → gP K h T.heap → ls.size = M.2.2.1 → Stand p K.1 e R s m args below meth c T locs cells slots →
    ∃ (vm₁ : Vm) (mk : MethodId), Stand p K.1 e R s m args below meth c (T.setVm vm₁) locs cells slots ∧ (T.setVm vm₁).methodNamed? M'.1 = some mk ∧
      ∀ target, (∀ acts, Steps p.tables e below (doInvoke e ((T.setVm vm₁).setTop (F0 m pc ls rest)) acts mk av.toArray).1 target) → Steps p.tables e below (T.setTop (F0 m pc ls st)) target
theorem gS_same {p : Program} {l : Launch} {e : Env} {s : State} {m : MethodId} {args : Array Value} {below : List Frame} {meth : Method} {c : Code} {T T' : State} {locs L : List Loc} {k n : Nat} {h h' : gH} (X' : Stand p l e R s m args below meth c T' (locs ++ L) k n) (hS : va_S (gA K) s.heap T.heap locs) (hP : gP K h T.heap) (hP' : gP K h' T'.heap) (hL : ∀ q ∈ L, gA K q.base) : va_S (gA K) s.heap T'.heap (locs ++ L) := by
  refine ⟨X'.same.2.1, fun q h1 h2 => ?_, fun q hq => ?_⟩
  · have hlt : q < gB K := Nat.not_le.mp h2
    rw [hP'.2.1 q hlt, ← hP.2.1 q hlt]
    exact hS.2.1 q h1 h2
  · rcases List.mem_append.mp hq with hq | hq
    · exact hS.2.2 q hq
    · exact hL q hq
theorem g_call {ig : Instr} (hM : Ct K R' M' av h Q') (hm : gMd M' n) (hd : decode M.2.1 pc = .ok (ig, 3)) (hI : gInv K M M' R pc st rest av h) (hfr : R'.frames + 1 ≤ R.frames) (hlo : 8 + (M'.2.2.1 + 11) + R'.locals ≤ R.locals) (hkc : R'.cells ≤ kc) (hks : R'.slots ≤ ks) (hw : (rest.map fun v => v.category).sum ≤ 8)
    (kk : ∀ v h', Q' (.returned v) h' → Go K M R (pc + 3) lv (v.toList ++ rest) h' (kc - R'.cells) (ks - R'.slots) Q) (kx : ∀ a h', Q' (.threw a) h' → Q (.threw a) h') : Go K M R pc lv st h kc ks Q := by
  intro p e s m args below meth c Z H locs cells slots ls C N hP hS hl h1 h2 T hT X
  subst hT
  obtain ⟨vm₁, mk, X₁, hn, hstep⟩ := hI p e s m args below meth c T locs cells slots ls C hP hl.1 X
  obtain ⟨hx, hb, hml, -, -, -, -, -, hTs, -⟩ := id C
  obtain ⟨o, h', T', L, hq, hP', hL, X', hor⟩ := g_back (g := F0 m pc ls rest) hM hm hfr hlo X₁ hTs hP (by omega) (by omega) rfl (hl.1.trans hml.symm) (by rw [hb]; exact hd) (lv_room hw) hn
  have hS' : va_S (gA K) s.heap T'.heap (locs ++ L) := gS_same X' hS hP hP' hL
  rcases hor with ⟨v, rfl, hst⟩ | ⟨a, rfl, hst⟩
  · obtain ⟨t, a1, b1⟩ := kk v h' hq p e s m args below meth c Z T'.heap (locs ++ L) (cells + R'.cells) (slots + R'.slots) ls C N hP' hS' hl (by omega) (by omega) T' rfl X'
    exact ⟨t, hstep _ (fun acts => by rw [doInvoke_state]; exact hst.trans a1), b1⟩
  · obtain ⟨t, a1, b1⟩ := N.2.1 a h' T' (locs ++ L) (cells + R'.cells) (slots + R'.slots) (F0 m pc ls rest) (kx a h' hq) hP' hS' (by omega) (by omega) rfl rfl rfl X'
    exact ⟨t, hstep _ (fun acts => by rw [doInvoke_state]; exact hst.trans a1), b1⟩
/-- a link of own's pool to a method, in the open or across the nest -/
def gLk (own : String) (idx : Nat) (y : MethodName) : Prop := Cond.methodLink own idx y ∈ gW ∨ ∃ host, Cond.methodLinkNest own idx y host ∈ gNF
def gVl (own : String) (idx : Nat) (y : MethodName) : Prop := gLk own idx y ∧ Cond.instanceMethod y ∈ gW ∧ Cond.selects y.cls y y ∈ gW
def gSl (own : String) (idx : Nat) (y : MethodName) : Prop := gLk own idx y ∧ Cond.static y ∈ gW
def gIl (own : String) (idx : Nat) (y : MethodName) : Prop := gLk own idx y ∧ Cond.instanceMethod y ∈ gW ∧ y.name = "<init>"
theorem gInv_v {b ci N : Nat} {T : u_T} {fs : List Value} (hd : decode M.2.1 pc = .ok (.invokevirtual idx, 3)) (hm : gMd M' As.length) (hl : gVl M.1.cls idx M'.1) (hb : h b = some (.inr (ci, fs))) (hc : gcl[ci]? = some (M'.1.cls, T, N)) : gInv K M M' R pc (As.reverse ++ .ref b :: rest) rest (.ref b :: As) h := by
  intro p e s m args below meth c T0 locs cells slots ls C hP hsz X
  obtain ⟨hx, hbb, hml, -, -, -, hown, -, hTs, -⟩ := C
  have hy : M'.1.cls ≠ "java/lang/invoke/MethodHandle" ∧ M'.1.cls ≠ "java/lang/invoke/VarHandle" := ⟨hm.2.2.1, hm.2.2.2.1⟩
  obtain ⟨mk, methM, hnamed, hmethM, hstM, habM⟩ := Cond.instanceMethod_spec (gT.word hTs hl.2.1 args)
  obtain ⟨methM', cM, hmethM', -, -, -, -, -, -, hsigM⟩ := gw_spec hnamed (gT.word hTs hm.1 args)
  cases hmethM.symm.trans hmethM'
  obtain ⟨c2, r2, m2, q1, q2, q3, q4, kP, hkP, hkPi⟩ := Cond.selects_spec (gT.word hTs hl.2.2 args)
  obtain ⟨cellB, hcB, hoB, hclB⟩ := va_recv (q0 := 0) hTs.1 (va_P1 (hP.2.2 b _ hb).2) hc rfl
  cases hclB.symm.trans q1
  cases (State.methodFound?_of_named hnamed hy).symm.trans q2
  cases hnamed.symm.trans q3
  have hselP : selectMethod e.platform s.vm cellB.cls mk = .method mk := by rw [Launch.admits_selectMethod X.admits]; exact q4
  rcases hl.1 with hlk | ⟨host, hlk⟩
  · obtain ⟨vm₁, X₁, hstep₁⟩ := X.invokevirtual hx hown (gT.word hTs hlk args) hnamed hmethM hstM hkP hkPi hy (a := b) (cell := cellB) hcB (fun z h => by rw [h] at hoB; cases hoB) hselP hmethM habM hkP hkPi (g := F0 m pc ls (As.reverse ++ .ref b :: rest)) rfl (argsL := As) (rest := rest) (hm.len hsigM) rfl (by rw [hbb]; exact hd)
    exact ⟨vm₁, mk, X₁, X₁.named hnamed, hstep₁⟩
  · obtain ⟨vm₁, X₁, hstep₁⟩ := X.invokevirtualNest hx hown (gT.nest hTs hlk args) hnamed hmethM hstM hkP hkPi hy (a := b) (cell := cellB) hcB (fun z h => by rw [h] at hoB; cases hoB) hselP hmethM habM hkP hkPi (g := F0 m pc ls (As.reverse ++ .ref b :: rest)) rfl (argsL := As) (rest := rest) (hm.len hsigM) rfl (by rw [hbb]; exact hd)
    exact ⟨vm₁, mk, X₁, X₁.named hnamed, hstep₁⟩
theorem gInv_s (hd : decode M.2.1 pc = .ok (.invokestatic idx, 3)) (hm : gMd M' As.length) (hl : gSl M.1.cls idx M'.1) : gInv K M M' R pc (As.reverse ++ rest) rest As h := by
  intro p e s m args below meth c T0 locs cells slots ls C hP hsz X
  obtain ⟨hx, hbb, hml, -, -, -, hown, -, hTs, -⟩ := C
  have hy : M'.1.cls ≠ "java/lang/invoke/MethodHandle" ∧ M'.1.cls ≠ "java/lang/invoke/VarHandle" := ⟨hm.2.2.1, hm.2.2.2.1⟩
  obtain ⟨mk, hnamed⟩ := gw_named (gT.word hTs hm.1 args)
  obtain ⟨methM, cM, hmethM, -, -, -, -, -, -, hsigM⟩ := gw_spec hnamed (gT.word hTs hm.1 args)
  have hstatic : methM.isStatic = true := Cond.static_spec hnamed hmethM (gT.word hTs hl.2 args)
  obtain ⟨kP, hkP, -⟩ := className_of_methodNamed hnamed
  have hinitP : kP.init = .initialized := Cond.initialized_spec (findClass_of_methodNamed hnamed) hkP (gT.word hTs hm.2.1 args)
  rcases hl.1 with hlk | ⟨host, hlk⟩
  · obtain ⟨vm₁, X₁, hstep₁⟩ := X.invokestatic hx hown (gT.word hTs hlk args) hnamed hmethM hstatic hkP hinitP hy (g := F0 m pc ls (As.reverse ++ rest)) rfl (argsL := As) (rest := rest) (hm.len hsigM) rfl (by rw [hbb]; exact hd)
    exact ⟨vm₁, mk, X₁, X₁.named hnamed, hstep₁⟩
  · obtain ⟨vm₁, X₁, hstep₁⟩ := X.invokestaticNest hx hown (gT.nest hTs hlk args) hnamed hmethM hstatic hkP hinitP hy (g := F0 m pc ls (As.reverse ++ rest)) rfl (argsL := As) (rest := rest) (hm.len hsigM) rfl (by rw [hbb]; exact hd)
    exact ⟨vm₁, mk, X₁, X₁.named hnamed, hstep₁⟩
theorem gInv_i {b : Nat} (hd : decode M.2.1 pc = .ok (.invokespecial idx, 3)) (hm : gMd M' As.length) (hl : gIl M.1.cls idx M'.1) (hw : gw M' = .code M'.1 M'.2.1 M'.2.2.1 none) : gInv K M M' R pc (As.reverse ++ .ref b :: rest) rest (.ref b :: As) h := by
  intro p e s m args below meth c T0 locs cells slots ls C hP hsz X
  obtain ⟨hx, hbb, hml, -, -, -, hown, -, hTs, -⟩ := C
  have hy : M'.1.cls ≠ "java/lang/invoke/MethodHandle" ∧ M'.1.cls ≠ "java/lang/invoke/VarHandle" := ⟨hm.2.2.1, hm.2.2.2.1⟩
  have hpl : e.platform.magicAccessors = ({} : Platform).magicAccessors := by rw [X.admits.platform]
  have hcode : (Cond.code M'.1 M'.2.1 M'.2.2.1 none).before args s = true := by rw [← hw]; exact gT.word hTs hm.1 args
  rcases hl.1 with hlk | ⟨host, hlk⟩
  · obtain ⟨mk, methM, cM, kP, vm₁, hnamed, hmethM, hcodeM, -, hlocalsM, -, hkP, -, hW₁, hstep₁⟩ := Steps.initColdArgs (e := e) X.here hx X.warmed hpl hown hl.2.2 hy (gT.word hTs hlk args) (gT.word hTs hl.2.1 args) hcode (f := F0 m pc ls (As.reverse ++ .ref b :: rest)) rfl (argsL := As) (rest := rest) (fun sig hs => hm.len hs) rfl (by rw [hbb]; exact hd)
    have X₁ := X.noted hW₁
    exact ⟨vm₁, mk, X₁, X₁.named hnamed, hstep₁⟩
  · obtain ⟨mk, methM, cM, kP, vm₁, hnamed, hmethM, hcodeM, -, hlocalsM, -, hkP, -, hW₁, hstep₁⟩ := Steps.initColdArgsNest (e := e) X.here hx X.warmed hpl hown hl.2.2 hy (gT.nest hTs hlk args) (gT.word hTs hl.2.1 args) hcode (f := F0 m pc ls (As.reverse ++ .ref b :: rest)) rfl (argsL := As) (rest := rest) (fun sig hs => hm.len hs) rfl (by rw [hbb]; exact hd)
    have X₁ := X.noted hW₁
    exact ⟨vm₁, mk, X₁, X₁.named hnamed, hstep₁⟩
/-- Object(): nothing happens -/
theorem g_obj {a : Nat} (hd : decode M.2.1 pc = .ok (.invokespecial idx, 3)) (hl : Cond.methodLink M.1.cls idx Lib.objectInit ∈ gW) (hw1 : Cond.instanceMethod Lib.objectInit ∈ gW) (hw2 : Cond.code Lib.objectInit ⟨#[0xb1]⟩ 1 none ∈ gW) (hf : 1 ≤ R.frames) (hlo : 20 ≤ R.locals) (hw : (rest.map fun v => v.category).sum ≤ 8) (k : Go K M R (pc + 3) lv rest h kc ks Q) : Go K M R pc lv (.ref a :: rest) h kc ks Q := by
  intro p e s m args below meth c Z H locs cells slots ls C N hP hS hl9 h1 h2
  have k := k p e s m args below meth c Z H locs cells slots ls C N hP hS hl9 h1 h2
  obtain ⟨hx, hb, hml, -, -, -, hown, -, hTs, -⟩ := C
  refine W.objInit hx hb hown (gT.word hTs hl args) (gT.word hTs hw1 args) (gT.word hTs hw2 args) rfl (by rw [hml]; exact hl9.1) rfl hd hf ?_ k
  have := lv_room (m := m) (pc := pc) (ls := ls) (rest := .ref a :: rest) hw
  omega
/-- a method that answers v and leaves h1; one that answers as P says -/
def gRt (v : Option Value) (h1 : gH) : Outcome → gH → Prop := fun o h' => o = .returned v ∧ h' = h1
def gRx (P : Option Value → gH → Prop) : Outcome → gH → Prop := fun o h' => ∃ v, o = .returned v ∧ P v h'
theorem gRt_x {v : Option Value} {h1 : gH} : ∀ a h', ¬ gRt v h1 (.threw a) h' := fun a h' q => by cases q.1
theorem gRx_x {P : Option Value → gH → Prop} : ∀ a h', ¬ gRx P (.threw a) h' := fun a h' q => by obtain ⟨v, e, -⟩ := q; cases e
theorem Ct.post (hM : Ct K R M av h Q') (hq : ∀ o h', Q' o h' → Q o h') : Ct K R M av h Q := by
  intro p e ha hc hk s m args below hf happ hP hK
  obtain ⟨n, o, h1, h2, h3, ⟨h', q1, q2⟩, q3⟩ := hM p e ha hc hk s m args below hf happ hP hK
  exact ⟨n, o, h1, h2, h3, ⟨h', hq o h' q1, q2⟩, q3⟩
theorem g_callR {ig : Instr} {v : Option Value} {h1 : gH} (hM : Ct K R' M' av h (gRt v h1)) (hm : gMd M' n) (hd : decode M.2.1 pc = .ok (ig, 3)) (hI : gInv K M M' R pc st rest av h) (hfr : R'.frames + 1 ≤ R.frames) (hlo : 8 + (M'.2.2.1 + 11) + R'.locals ≤ R.locals) (hkc : R'.cells ≤ kc) (hks : R'.slots ≤ ks) (hw : (rest.map fun v => v.category).sum ≤ 8)
    (kk : Go K M R (pc + 3) lv (v.toList ++ rest) h1 (kc - R'.cells) (ks - R'.slots) Q) : Go K M R pc lv st h kc ks Q :=
  g_call hM hm hd hI hfr hlo hkc hks hw (fun v' h' q => by obtain ⟨q1, q2⟩ := q; cases q1; rw [q2]; exact kk) (fun a h' q => absurd q (gRt_x a h'))
theorem g_callX {ig : Instr} {P : Option Value → gH → Prop} (hM : Ct K R' M' av h (gRx P)) (hm : gMd M' n) (hd : decode M.2.1 pc = .ok (ig, 3)) (hI : gInv K M M' R pc st rest av h) (hfr : R'.frames + 1 ≤ R.frames) (hlo : 8 + (M'.2.2.1 + 11) + R'.locals ≤ R.locals) (hkc : R'.cells ≤ kc) (hks : R'.slots ≤ ks) (hw : (rest.map fun v => v.category).sum ≤ 8)
    (kk : ∀ v h1, P v h1 → Go K M R (pc + 3) lv (v.toList ++ rest) h1 (kc - R'.cells) (ks - R'.slots) Q) : Go K M R pc lv st h kc ks Q :=
  g_call hM hm hd hI hfr hlo hkc hks hw (fun v' h' q => by obtain ⟨v, q1, q2⟩ := q; cases q1; exact kk _ _ q2) (fun a h' q => absurd q (gRx_x a h'))
theorem nI_inc (n : Nat) : nI n + Int32.ofInt 1 = nI (n + 1) := nI_1 n
end GOCALL
