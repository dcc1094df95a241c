/-! ===== the face ===== -/
def gRU (h : gH) (R : Nat → Nat) : Prop := gRu h (R 0) (R 1) (R 2) (R 3) (R 4) (R 5) (fun j => R (6 + j)) (fun j => R (54 + j))
theorem gRU.of {h h' : gH} {R : Nat → Nat} (hr : gRU h R) (he : ∀ i, i < 102 → h' (R i) = h (R i)) : gRU h' R := by
  obtain ⟨⟨k, p, r1⟩, ⟨w, c, r2⟩, ⟨f, r3⟩, ⟨⟨fl, l1, l2⟩, l3, l4, l5⟩⟩ := hr
  refine ⟨⟨k, p, (he 0 (by decide)).trans r1⟩, ⟨w, c, r2.of (he 1 (by decide)) (he 2 (by decide)) (he 3 (by decide))⟩, ⟨f, (he 5 (by decide)).trans r3⟩, ⟨⟨fl, (he 4 (by decide)).trans l1, l2⟩, fun j hj => ?_, l4, l5⟩⟩
  obtain ⟨b, q, z1, z2⟩ := l3 j hj
  refine ⟨b, q, (he (6 + j) (by omega)).trans z1, ?_⟩
  obtain ⟨g, y1, y2⟩ := z2
  exact ⟨g, (he (54 + j) (by omega)).trans y1, y2⟩
theorem gTx.of {h h' : gH} {a ca : Nat} {tx : List Nat} (ht : gTx h a ca tx) (e1 : h' a = h a) (e2 : h' ca = h ca) : gTx h' a ca tx := by
  unfold gTx at *
  rw [e1, e2]
  exact ht
/-- an object of the class: its cells are numbered, 0 itself, 1 and 2 the text, from 3 the reader, from 105 the sentence -/
def gHt (h : gH) (X : Nat → Nat) (tx : List Nat) (fl : Int32) (k c : Nat) (w : Nat → Int32) (A : Nat) (CS : Nat → Nat → Prop) : Prop := gNj X 145 ∧ h (X 0) = some (.inr (0, [.ref (X 1), .ref (X 3), .ref (X 105), .int fl])) ∧ gTx h (X 1) (X 2) tx ∧ gRU h (fun j => X (3 + j)) ∧ gSe h (fun i => X (105 + i)) k c w A CS
theorem nj_S {X : Nat → Nat} (hX : gNj X 145) : gNj (fun i => X (105 + i)) 40 := fun i hi j hj e => by
  have := hX (105 + i) (by omega) (105 + j) (by omega) e
  omega
theorem nj_SR {X : Nat → Nat} (hX : gNj X 145) : ∀ i, i < 40 → ∀ j, j < 102 → (fun j => X (3 + j)) j ≠ (fun i => X (105 + i)) i := fun i hi j hj e => by
  have := hX (3 + j) (by omega) (105 + i) (by omega) e
  omega
/-- what only changes cells of the sentence's own tables leaves the rest -/
theorem gHt.sen {h h' : gH} {X : Nat → Nat} {tx : List Nat} {fl : Int32} {k c : Nat} {w : Nat → Int32} {A : Nat} {CS : Nat → Nat → Prop} (hh : gHt h X tx fl k c w A CS) {l : List Nat} (hl : ∀ j ∈ l, j < 40) (hk : gKp h h' (l.map fun i => X (105 + i))) {k' c' : Nat} {w' : Nat → Int32} {A' : Nat} {CS' : Nat → Nat → Prop} (hs : gSe h' (fun i => X (105 + i)) k' c' w' A' CS') : gHt h' X tx fl k' c' w' A' CS' := by
  obtain ⟨hX, h1, h2, h3, -⟩ := hh
  have e : ∀ i, i < 105 → h' (X i) = h (X i) := by
    intro i hi
    refine hk _ fun z => ?_
    obtain ⟨j, hj, e⟩ := List.mem_map.mp z
    have := hX (105 + j) (by have := hl j hj; omega) i (by omega) e
    omega
  exact ⟨hX, (e 0 (by decide)).trans h1, h2.of (e 1 (by decide)) (e 2 (by decide)), h3.of fun i hi => e (3 + i) (by omega), hs⟩
section FACE
variable {K : gK} {h : gH} {X : Nat → Nat} {tx : List Nat} {fl : Int32} {k c : Nat} {w : Nat → Int32} {A : Nat} {CS : Nat → Nat → Prop}
theorem c_HT_fault (hst : K.1.stackTraces = false) (hh : gHt h X tx fl k c w A CS) : Ct K r_HT_fault M_HT_fault [.ref (X 0)] h (gRt (some (.int fl)) h) := by
  obtain ⟨hX, h1, h2, h3, h4⟩ := hh
  refine Ct.of hst (by decide) (Or.inl rfl) (Nat.le_of_ble_eq_true rfl) ?_
  refine g_aload_n d_HT_fault_0 rfl ?_
  refine g_get d_HT_fault_1 f_HT_30 (h1) rfl ?_
  exact g_ret_i d_HT_fault_4 rfl rfl ⟨rfl, rfl⟩
theorem c_HT_clauses (hst : K.1.stackTraces = false) (hh : gHt h X tx fl k c w A CS) : Ct K r_HT_clauses M_HT_clauses [.ref (X 0)] h (gRt (some (.int (nI k))) h) := by
  obtain ⟨hX, h1, h2, h3, h4⟩ := hh
  refine Ct.of hst (by decide) (Or.inl rfl) (Nat.le_of_ble_eq_true rfl) ?_
  refine g_aload_n d_HT_clauses_0 rfl ?_
  refine g_get d_HT_clauses_1 f_HT_26 (h1) rfl ?_
  refine g_get d_HT_clauses_4 f_HT_56 (h4.1.1) rfl ?_
  exact g_ret_i d_HT_clauses_7 rfl rfl ⟨rfl, rfl⟩
theorem c_HT_atoms (hst : K.1.stackTraces = false) (hh : gHt h X tx fl k c w A CS) : Ct K r_HT_atoms M_HT_atoms [.ref (X 0)] h (gRt (some (.int (nI A))) h) := by
  obtain ⟨hX, h1, h2, h3, h4⟩ := hh
  obtain ⟨v3, b1⟩ := h4.2.1.1
  refine Ct.of hst (by decide) (Or.inl rfl) (Nat.le_of_ble_eq_true rfl) ?_
  refine g_aload_n d_HT_atoms_0 rfl ?_
  refine g_get d_HT_atoms_1 f_HT_26 (h1) rfl ?_
  refine g_get d_HT_atoms_4 f_HT_59 (h4.1.1) rfl ?_
  refine g_get d_HT_atoms_7 f_HT_63 (b1) rfl ?_
  exact g_ret_i d_HT_atoms_10 rfl rfl ⟨rfl, rfl⟩
theorem c_HT_atom (hst : K.1.stackTraces = false) (hh : gHt h X tx fl k c w A CS) (p one two : Int32) : Ct K r_HT_atom M_HT_atom [.ref (X 0), .int p, .int one, .int two] h (gRt (some (.int (fatm c w p one two))) h) := by
  obtain ⟨hX, h1, h2, h3, h4⟩ := hh
  obtain ⟨⟨v3, b1⟩, b2, b3⟩ := h4.2.1
  refine Ct.of hst (by decide) (Or.inl rfl) (Nat.le_of_ble_eq_true rfl) ?_
  refine g_aload_n d_HT_atom_0 rfl ?_
  refine g_get d_HT_atom_1 f_HT_26 (h1) rfl ?_
  refine g_get d_HT_atom_4 f_HT_59 (h4.1.1) rfl ?_
  refine g_iload_n d_HT_atom_7 rfl ?_
  refine g_iload_n d_HT_atom_8 rfl ?_
  refine g_iload_n d_HT_atom_9 rfl ?_
  refine g_callR (c_Voc_findAtom hst b2 b3 p one two) gm_Voc_findAtom d_HT_atom_10 (gInv_v (As := [.int p, .int one, .int two]) (rest := []) d_HT_atom_10 gm_Voc_findAtom gv_HT_68 (b1) rfl) (Nat.le_of_ble_eq_true rfl) (Nat.le_of_ble_eq_true rfl) (Nat.le_of_ble_eq_true rfl) (Nat.le_of_ble_eq_true rfl) (Nat.le_of_ble_eq_true rfl) ?_
  exact g_ret_i d_HT_atom_13 rfl rfl ⟨rfl, rfl⟩
theorem c_HT_instances (hst : K.1.stackTraces = false) (hh : gHt h X tx fl k c w A CS) : Ct K r_HT_instances M_HT_instances [.ref (X 0)] h (gRx fun o h' => h' = h ∧ ∃ al : List Nat, al.Nodup ∧ al.length ≤ 324 ∧ (∀ e, e ∈ al ↔ ∃ u, u < k ∧ CS u e) ∧ o = some (.int (nI al.length))) := by
  obtain ⟨hX, h1, h2, h3, h4⟩ := hh
  refine Ct.of hst (by decide) (Or.inl rfl) (Nat.le_of_ble_eq_true rfl) ?_
  refine g_aload_n d_HT_instances_0 rfl ?_
  refine g_get d_HT_instances_1 f_HT_26 (h1) rfl ?_
  refine g_callX (c_Sen_instanceCount hst h4) gm_Sen_instanceCount d_HT_instances_4 (gInv_v (As := []) (rest := []) d_HT_instances_4 gm_Sen_instanceCount gv_HT_53 (h4.1.1) rfl) (Nat.le_of_ble_eq_true rfl) (Nat.le_of_ble_eq_true rfl) (Nat.le_of_ble_eq_true rfl) (Nat.le_of_ble_eq_true rfl) (Nat.le_of_ble_eq_true rfl) (fun v2 h2 hp => ?_)
  obtain ⟨rfl, al, a1, a2, a3, rfl⟩ := hp
  exact g_ret_i d_HT_instances_7 rfl rfl ⟨_, rfl, rfl, al, a1, a2, a3, rfl⟩
theorem c_HT_instancesOf (hst : K.1.stackTraces = false) (hh : gHt h X tx fl k c w A CS) (x : Int32) : Ct K r_HT_instancesOf M_HT_instancesOf [.ref (X 0), .int x] h (gRx fun o h' => h' = h ∧ ((¬ (¬ x < 0 ∧ x < nI k) ∧ o = some (.int (-1))) ∨ ∃ (u : Nat) (l : List Nat), x = nI u ∧ u < k ∧ l.Nodup ∧ l.length ≤ 27 ∧ (∀ e, e ∈ l ↔ CS u e) ∧ o = some (.int (nI l.length)))) := by
  obtain ⟨hX, h1, h2, h3, h4⟩ := hh
  refine Ct.of hst (by decide) (Or.inl rfl) (Nat.le_of_ble_eq_true rfl) ?_
  refine g_aload_n d_HT_instancesOf_0 rfl ?_
  refine g_get d_HT_instancesOf_1 f_HT_26 (h1) rfl ?_
  refine g_iload_n d_HT_instancesOf_4 rfl ?_
  refine g_callR (c_Sen_hasClause hst h4 x) gm_Sen_hasClause d_HT_instancesOf_5 (gInv_v (As := [.int x]) (rest := []) d_HT_instancesOf_5 gm_Sen_hasClause gv_HT_72 (h4.1.1) rfl) (Nat.le_of_ble_eq_true rfl) (Nat.le_of_ble_eq_true rfl) (Nat.le_of_ble_eq_true rfl) (Nat.le_of_ble_eq_true rfl) (Nat.le_of_ble_eq_true rfl) ?_
  refine g_if_eq (tgt := 23) d_HT_instancesOf_8 (by decide) (fun q => ?_) (fun q => ?_)
  · refine g_iconst (v := -1) d_HT_instancesOf_23 (by decide) ?_
    exact g_ret_i d_HT_instancesOf_24 rfl rfl ⟨_, rfl, rfl, Or.inl ⟨of_decide_eq_false ((bI_z _).mp q), rfl⟩⟩
  · have hx : ¬ x < 0 ∧ x < nI k := Classical.byContradiction fun z => q ((bI_z _).mpr (decide_eq_false z))
    have k12 := h4.1.2.1
    obtain ⟨u, hu, rfl⟩ := nI_of3 hx.1 hx.2 (by omega)
    obtain ⟨fo, o1, o2⟩ := h4.2.2.2.1
    obtain ⟨l, l1, l2, l3, l4⟩ := o2 u hu
    refine g_aload_n d_HT_instancesOf_11 rfl ?_
    refine g_get d_HT_instancesOf_12 f_HT_26 (h1) rfl ?_
    refine g_get d_HT_instancesOf_15 f_HT_76 (h4.1.1) rfl ?_
    refine g_iload_n d_HT_instancesOf_18 rfl ?_
    refine g_iald d_HT_instancesOf_19 (o1) (rfl) (by omega) (by decide) ?_
    refine g_goto (tgt := 24) d_HT_instancesOf_20 (by decide) ?_
    rw [l4]
    exact g_ret_i d_HT_instancesOf_24 rfl rfl ⟨_, rfl, rfl, Or.inr ⟨u, l, rfl, hu, l1, l2, l3, rfl⟩⟩
theorem c_HT_holds (hst : K.1.stackTraces = false) (hh : gHt h X tx fl k c w A CS) : Ct K r_HT_holds M_HT_holds [.ref (X 0)] h (gRx fun o h' => (∃ b : Bool, o = some (.int (bI b)) ∧ (b = true ↔ ∃ n, n < 2 ^ A ∧ hat A k CS (2 ^ k - 1) n)) ∧ gHt h' X tx fl k c w A CS ∧ gKP h h' (gOf X 145)) := by
  obtain ⟨hX, h1, h2, h3, h4⟩ := id hh
  have k12 := h4.1.2.1
  have p31 : 2 ^ k - 1 < 2 ^ 31 := Nat.lt_of_le_of_lt (Nat.sub_le _ _) (Nat.pow_lt_pow_right (by decide) (by omega))
  refine Ct.of hst (by decide) (Or.inl rfl) (Nat.le_of_ble_eq_true rfl) ?_
  refine g_aload_n d_HT_holds_0 rfl ?_
  refine g_get d_HT_holds_1 f_HT_26 (h1) rfl ?_
  refine g_aload_n d_HT_holds_4 rfl ?_
  refine g_get d_HT_holds_5 f_HT_26 (h1) rfl ?_
  refine g_callR (c_Sen_everyClause hst h4) gm_Sen_everyClause d_HT_holds_8 (gInv_v (As := []) (rest := [.ref (X 105)]) d_HT_holds_8 gm_Sen_everyClause gv_HT_80 (h4.1.1) rfl) (Nat.le_of_ble_eq_true rfl) (Nat.le_of_ble_eq_true rfl) (Nat.le_of_ble_eq_true rfl) (Nat.le_of_ble_eq_true rfl) (Nat.le_of_ble_eq_true rfl) ?_
  refine g_callX (c_Sen_canHold hst (nj_S hX) h4 p31) gm_Sen_canHold d_HT_holds_11 (gInv_v (As := [.int (nI (2 ^ k - 1))]) (rest := []) d_HT_holds_11 gm_Sen_canHold gv_HT_83 (h4.1.1) rfl) (Nat.le_of_ble_eq_true rfl) (Nat.le_of_ble_eq_true rfl) (Nat.le_of_ble_eq_true rfl) (Nat.le_of_ble_eq_true rfl) (Nat.le_of_ble_eq_true rfl) (fun v2 h2 hp => ?_)
  obtain ⟨⟨b, rfl, b1⟩, s1, k1⟩ := hp
  refine g_ret_i d_HT_holds_14 rfl (bI_n _) ⟨_, rfl, ⟨b, rfl, b1⟩, hh.sen (l := [13, 14]) (by decide) k1 s1, ?_⟩
  exact gKp.P k1 fun x hx => by
    simp only [List.mem_cons, List.not_mem_nil, or_false] at hx
    rcases hx with e | e
    · exact ⟨118, by decide, e⟩
    · exact ⟨119, by decide, e⟩
end FACE
