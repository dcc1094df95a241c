section GONEW
variable {K : gK} {M : gM} {R : Room} {pc : Nat} {lv : List (Nat × Value)} {st : List Value} {h : gH} {kc ks : Nat} {Q : Outcome → gH → Prop}
/-- entry idx of own's pool is class ci, whose fields begin as fs -/
def gNw (own : String) (idx ci : Nat) (fs : List Value) : Prop := ∃ (C : String) (T : u_T) (N : Nat) (ty : Nat → FieldType), gOK ci C T N ty ∧ Cond.classLink own idx C ∈ gW ∧ Cond.instantiable C N ∈ gW ∧ Cond.initialized C ∈ gW ∧ (∀ j, j < N → defaultValue (ty j) = vp_V fs j) ∧ fs.length = N
theorem g_new {idx ci : Nat} {fs : List Value} (hd : decode M.2.1 pc = .ok (.new idx, 3)) (hw : gNw M.1.cls idx ci fs) (hc : 1 ≤ kc) (hs : fs.length ≤ ks) (kk : ∀ q : Nat, h q = none → Go K M R (pc + 3) lv (.ref q :: st) (gup h q (.inr (ci, fs))) (kc - 1) (ks - fs.length) Q) : Go K M R pc lv st h kc ks Q := by
  intro p e s m args below meth c Z H locs cells slots ls C N hP hS hl h1 h2
  have kk := fun q hq H => kk q hq p e s m args below meth c Z H locs (cells + 1) (slots + fs.length) ls C N
  obtain ⟨hx, hb, -, -, -, -, hown, -, hT, -⟩ := C
  obtain ⟨Cn, T, n, ty, ⟨o1, o2, o3, o4, o5⟩, w1, w2, w3, hfs, hlen⟩ := hw
  subst hlen
  have hts : ∀ w ∈ gW, w.before args s = true := fun w hw => gT.word hT hw args
  have hKn := hT.1.1 ci _ o1
  refine W.newcK hx hb hown (hts _ w1) (hts _ w2) (hts _ w3) rfl hd (by omega) (by omega) hKn.2.1 rfl fun H1 kC hkC e1 z1 o1' => ?_
  refine kk H.size hP.fresh H1 (hP.push (e := .inr (ci, fs)) ⟨_, o1, (u_born ty hts o2 hKn hkC e1 o3).to hfs⟩ z1 o1') ⟨Nat.le_trans hS.1 (by omega), fun x a1 a2 => (o1' x (Nat.lt_of_lt_of_le a1 hS.1)).trans (hS.2.1 x a1 a2), hS.2.2⟩ hl (by omega) (by omega)
/-- a new array of a primitive kind -/
theorem g_newa {atype : ArrayType} {t N : Nat} {n : Int32} {x : (Nat → Int32) ⊕ (Nat → Int64) ⊕ (Nat → UInt32) ⊕ (Nat → UInt64) ⊕ (Nat → Option Nat)} (hd : decode M.2.1 pc = .ok (.newarray atype, 2)) (hw : Cond.arrayClass (newarray.typeOf atype) ∈ gW) (ht : ∀ dA : Nat → ClassId, (gtys dA)[t]? = some (dA t, newarray.typeOf atype)) (hx0 : ∀ cA : ClassId, vp_cell cA (N, x) = arrV cA N (fun _ => defaultValue (newarray.typeOf atype))) (hn : n = nI N) (hN : N < 65536) (hc : 1 ≤ kc) (hs : N ≤ ks) (kk : ∀ q : Nat, h q = none → Go K M R (pc + 2) lv (.ref q :: st) (gup h q (.inl (t, N, x))) (kc - 1) (ks - N) Q) : Go K M R pc lv (.int n :: st) h kc ks Q := by
  intro p e s m args below meth c Z H locs cells slots ls C N0 hP hS hl h1 h2
  have kk := fun q hq H => kk q hq p e s m args below meth c Z H locs (cells + 1) (slots + N) ls C N0
  obtain ⟨hx, hb, -, -, -, -, hown, -, hT, -⟩ := C
  subst hn
  have hnm : s.vm.findClass ("[" ++ (newarray.typeOf atype).toString) = some (K.2.2.1 t) := by
    have h9 := (hT.1.2 t _ (ht K.2.2.1)).2
    cases atype <;> exact h9
  have hby : N * componentBytes (newarray.typeOf atype) ≤ 536870912 := by
    have : componentBytes (newarray.typeOf atype) ≤ 8 := by cases atype <;> decide
    exact Nat.le_trans (Nat.mul_le_mul (Nat.le_of_lt hN) this) (by decide)
  refine va_newaK hx hb (gT.word hT hw args) rfl hd rfl (nI_pos (by omega)) (nI_clamp (by omega)) hby (by omega) (by omega) rfl fun H1 cA e1 z1 o1 hAr hNm => ?_
  have hcA : cA = K.2.2.1 t := Option.some.inj (hNm.symm.trans hnm)
  subst hcA
  refine kk H.size hP.fresh H1 (hP.push (e := .inl (t, N, x)) ?_ z1 o1) ⟨Nat.le_trans hS.1 (by omega), fun x a1 a2 => (o1 x (Nat.lt_of_lt_of_le a1 hS.1)).trans (hS.2.1 x a1 a2), hS.2.2⟩ hl (by omega) (by omega)
  show H1[H.size]? = some (vp_cell _ _)
  rw [hx0]
  exact e1
theorem g_newI {N : Nat} {n : Int32} (hd : decode M.2.1 pc = .ok (.newarray .int, 2)) (hw : Cond.arrayClass .int ∈ gW) (hn : n = nI N) (hN : N < 65536) (hc : 1 ≤ kc) (hs : N ≤ ks) (kk : ∀ q : Nat, h q = none → Go K M R (pc + 2) lv (.ref q :: st) (gup h q (.inl (0, N, .inl (fun _ => 0)))) (kc - 1) (ks - N) Q) : Go K M R pc lv (.int n :: st) h kc ks Q :=
  g_newa hd hw (fun _ => rfl) (fun _ => rfl) hn hN hc hs kk
theorem g_newJ {N : Nat} {n : Int32} (hd : decode M.2.1 pc = .ok (.newarray .long, 2)) (hw : Cond.arrayClass .long ∈ gW) (hn : n = nI N) (hN : N < 65536) (hc : 1 ≤ kc) (hs : N ≤ ks) (kk : ∀ q : Nat, h q = none → Go K M R (pc + 2) lv (.ref q :: st) (gup h q (.inl (1, N, .inr (.inl (fun _ => 0))))) (kc - 1) (ks - N) Q) : Go K M R pc lv (.int n :: st) h kc ks Q :=
  g_newa hd hw (fun _ => rfl) (fun _ => rfl) hn hN hc hs kk
theorem g_newC {N : Nat} {n : Int32} (hd : decode M.2.1 pc = .ok (.newarray .char, 2)) (hw : Cond.arrayClass .char ∈ gW) (hn : n = nI N) (hN : N < 65536) (hc : 1 ≤ kc) (hs : N ≤ ks) (kk : ∀ q : Nat, h q = none → Go K M R (pc + 2) lv (.ref q :: st) (gup h q (.inl (2, N, .inl (fun _ => 0)))) (kc - 1) (ks - N) Q) : Go K M R pc lv (.int n :: st) h kc ks Q :=
  g_newa hd hw (fun _ => rfl) (fun _ => rfl) hn hN hc hs kk
theorem g_newZ {N : Nat} {n : Int32} (hd : decode M.2.1 pc = .ok (.newarray .boolean, 2)) (hw : Cond.arrayClass .boolean ∈ gW) (hn : n = nI N) (hN : N < 65536) (hc : 1 ≤ kc) (hs : N ≤ ks) (kk : ∀ q : Nat, h q = none → Go K M R (pc + 2) lv (.ref q :: st) (gup h q (.inl (3, N, .inl (fun _ => 0)))) (kc - 1) (ks - N) Q) : Go K M R pc lv (.int n :: st) h kc ks Q :=
  g_newa hd hw (fun _ => rfl) (fun _ => rfl) hn hN hc hs kk
/-- a new array of references, and a store into one -/
theorem g_anew {t N idx : Nat} {C : String} {n : Int32} (hd : decode M.2.1 pc = .ok (.anewarray idx, 3)) (hw : Cond.classLink M.1.cls idx C ∈ gW) (hC : C ∈ gAO) (ht : ∀ dA : Nat → ClassId, (gtys dA)[t]? = some (dA t, .object C)) (hn : n = nI N) (hN : N < 65536) (hc : 1 ≤ kc) (hs : N ≤ ks) (kk : ∀ q : Nat, h q = none → Go K M R (pc + 3) lv (.ref q :: st) (gup h q (.inl (t, N, .inr (.inr (.inr (.inr (fun _ => none))))))) (kc - 1) (ks - N) Q) : Go K M R pc lv (.int n :: st) h kc ks Q := by
  intro p e s m args below meth c Z H locs cells slots ls C0 N0 hP hS hl h1 h2
  have kk := fun q hq H => kk q hq p e s m args below meth c Z H locs (cells + 1) (slots + N) ls C0 N0
  obtain ⟨hx, hb, -, -, -, -, hown, -, hT, -⟩ := C0
  subst hn
  obtain ⟨kA0, comp0, -, -, -, hnm⟩ := (hT.1.2 t _ (ht K.2.2.1)).2
  have hcl : (nI N).toNatClampNeg = N := nI_clamp (by omega)
  refine W.anew hx hb hown (gT.word hT hw args) (va_AO.use (hT.2.2.2.2.2.2.2 C hC)) rfl hd rfl (nI_pos (by omega)) (by rw [hcl]; omega) (by omega) (by rw [hcl]; omega) fun cA kA comp f1 f2 f3 f4 => ?_
  rw [hcl]
  have hcA : cA = K.2.2.1 t := Option.some.inj (f1.symm.trans hnm)
  subst hcA
  have z1 : (H.push ({ cls := K.2.2.1 t, slots := Array.replicate N .null, vm := .none } : Cell)).size = H.size + 1 := by rw [Array.size_push]
  have o1 : ∀ q : Nat, q < H.size → (H.push ({ cls := K.2.2.1 t, slots := Array.replicate N .null, vm := .none } : Cell))[q]? = H[q]? := fun q hq => by rw [Array.getElem?_push, if_neg (Nat.ne_of_lt hq)]
  refine kk H.size hP.fresh _ (hP.push (e := .inl (t, N, .inr (.inr (.inr (.inr (fun _ => none)))))) ?_ z1 o1) ⟨Nat.le_trans hS.1 (by rw [z1]; exact Nat.le_succ _), fun x a1 a2 => (o1 x (Nat.lt_of_lt_of_le a1 hS.1)).trans (hS.2.1 x a1 a2), hS.2.2⟩ hl (by omega) (by omega)
  show _ = some (vp_cell _ _)
  rw [vp_cell_q, Array.getElem?_push_size, arrV_new]
  rfl
theorem g_aast {t a n j b ci N : Nat} {i : Int32} {C : String} {T : u_T} {fs : List Value} {f : Nat → Option Nat} (hd : decode M.2.1 pc = .ok (.aastore, 1)) (ha : h a = some (.inl (t, n, .inr (.inr (.inr (.inr f)))))) (ht : ∀ dA : Nat → ClassId, (gtys dA)[t]? = some (dA t, .object C)) (hb0 : h b = some (.inr (ci, fs))) (hc : gcl[ci]? = some (C, T, N)) (hi : i = nI j) (hj : j < n) (hn : n < 2 ^ 31) (kk : Go K M R (pc + 1) lv st (gup h a (.inl (t, n, .inr (.inr (.inr (.inr (va_up f j (some b)))))))) kc ks Q) : Go K M R pc lv (.ref b :: .int i :: .ref a :: st) h kc ks Q := by
  intro p e s m args below meth c Z H locs cells slots ls C0 N0 hP hS hl h1 h2
  have kk := fun H locs => kk p e s m args below meth c Z H locs cells slots ls C0 N0
  obtain ⟨hx, hb, -, -, -, -, hown, -, hT, -⟩ := C0
  subst hi
  obtain ⟨hB, hcell⟩ := hP.2.2 a _ ha
  have hcl : (nI j).toNatClampNeg = j := nI_clamp (Nat.lt_trans hj hn)
  obtain ⟨-, r', hr', cellV, g1, g2, g3, -⟩ := hP.2.2 b _ hb0
  have hcls := (hT.1.1 ci _ hc).2
  obtain ⟨kA, comp, k1, k2, k3, -⟩ := (hT.1.2 t _ (ht K.2.2.1)).2
  have hcomp : comp = K.2.1.1 ci := Option.some.inj (k3.symm.trans hcls.1)
  subst hcomp
  obtain ⟨kC, hkC, -⟩ := hcls.2
  refine W.aast hx hb hcell (fun q h => by cases h) (fun h => by cases h) k1 k2 rfl hkC ⟨nI_pos (Nat.lt_trans hj hn), by show _ < (arrV _ _ _).slots.size; rw [arrV_size, hcl]; exact hj⟩ g1 (fun q h => by rw [g3] at h; cases h) (by rw [g2]; exact hkC) (by rw [g2]; exact va_assign hcls) rfl rfl hd fun H1 e z oq => ?_
  refine kk H1 _ (hP.set ha ?_ z oq) (hS.put z oq hB) hl h1 h2
  show H1[a]? = some (vp_cell _ _)
  rw [e, vp_cell_q, vp_cell_q, arrV_store, hcl]
  congr 2
  funext q
  by_cases hq : q = j
  · subst hq
    simp [updV, va_up, va_rf]
  · simp [updV, va_up, hq]
end GONEW
