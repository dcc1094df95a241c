/-! ===== TableSet: size, isEmpty ===== -/
theorem l_Tab_size {K : gK} {h : gH} (hst : K.1.stackTraces = false) {a wa A : Nat} {f : Nat → Int64} (hv : gTb h a wa A f) : ∀ (r i : Nat), i + r = wcn A → Go K M_Tab_size r_Tab_size 4 [(0, .ref a), (1, .int (nI (cnB (tbs f) (64 * i)))), (2, .int (nI i))] [] h 0 0 (gRt (some (.int (nI (cnB (tbs f) (64 * wcn A))))) h) := by
  have hle := wcn_le hv.1
  intro r
  induction r with
  | zero =>
    intro i hi
    have e : i = wcn A := by omega
    subst e
    refine g_iload_n d_Tab_size_4 rfl ?_
    refine g_aload_n d_Tab_size_5 rfl ?_
    refine g_get d_Tab_size_6 f_Tab_37 (hv.2.1) rfl ?_
    refine g_icmpN_ge (tgt := 30) d_Tab_size_9 (by decide) (rfl) (rfl) (by omega) (by omega) (fun q => ?_) (fun q => ?_)
    · refine g_iload_n d_Tab_size_30 rfl ?_
      exact g_ret_i d_Tab_size_31 rfl rfl ⟨rfl, rfl⟩
    · omega
  | succ r ih =>
    intro i hi
    refine g_iload_n d_Tab_size_4 rfl ?_
    refine g_aload_n d_Tab_size_5 rfl ?_
    refine g_get d_Tab_size_6 f_Tab_37 (hv.2.1) rfl ?_
    refine g_icmpN_ge (tgt := 30) d_Tab_size_9 (by decide) (rfl) (rfl) (by omega) (by omega) (fun q => ?_) (fun q => ?_)
    · omega
    · refine g_iload_n d_Tab_size_12 rfl ?_
      refine g_aload_n d_Tab_size_13 rfl ?_
      refine g_get d_Tab_size_14 f_Tab_9 (hv.2.1) rfl ?_
      refine g_iload_n d_Tab_size_17 rfl ?_
      refine g_lald d_Tab_size_18 (hv.2.2) (rfl) (by omega) (by decide) ?_
      refine g_callR (c_lbitCount hst (f i)) gm_Lng_bitCount d_Tab_size_19 (gInv_s (As := [.long (f i)]) (rest := [.int (nI (cnB (tbs f) (64 * i)))]) d_Tab_size_19 gm_Lng_bitCount gs_Tab_45) (Nat.le_of_ble_eq_true rfl) (Nat.le_of_ble_eq_true rfl) (Nat.le_of_ble_eq_true rfl) (Nat.le_of_ble_eq_true rfl) (Nat.le_of_ble_eq_true rfl) ?_
      rw [lcJ_ok]
      refine g_iadd d_Tab_size_22 ?_
      have e : nI (cnB (tbs f) (64 * i)) + nI (cnB (fun j => (f i).toBitVec.getLsbD j) 64) = nI (cnB (tbs f) (64 * (i + 1))) := by
        rw [nI_add, Nat.mul_succ, cnB_add]
        congr 2
        refine cnB_congr (fun j hj => ?_)
        unfold tbs
        rw [show (64 * i + j) / 64 = i by omega, show (64 * i + j) % 64 = j by omega]
      rw [e]
      refine g_istore_n d_Tab_size_23 rfl (Nat.le_of_ble_eq_true rfl) rfl ?_
      refine g_iinc d_Tab_size_24 rfl (nI_inc _) (Nat.le_of_ble_eq_true rfl) rfl ?_
      refine g_goto (tgt := 4) d_Tab_size_27 (by decide) ?_
      exact ih (i + 1) (by omega)
theorem c_Tab_size {K : gK} {h : gH} (hst : K.1.stackTraces = false) {a wa A : Nat} {f : Nat → Int64} (hv : gTb h a wa A f) : Ct K r_Tab_size M_Tab_size [.ref a] h (gRt (some (.int (nI (cnB (tbs f) (64 * wcn A))))) h) := by
  refine Ct.of hst (by decide) (Or.inl rfl) (Nat.le_of_ble_eq_true rfl) ?_
  refine g_iconst (v := nI 0) d_Tab_size_0 (by decide) ?_
  refine g_istore_n d_Tab_size_1 rfl (Nat.le_of_ble_eq_true rfl) rfl ?_
  refine g_iconst (v := nI 0) d_Tab_size_2 (by decide) ?_
  refine g_istore_n d_Tab_size_3 rfl (Nat.le_of_ble_eq_true rfl) rfl ?_
  exact l_Tab_size hst hv (wcn A) 0 (by omega)
theorem cnB_z {p : Nat → Bool} : ∀ {n : Nat}, cnB p n = 0 ↔ ∀ i, i < n → p i = false := by
  intro n
  induction n with
  | zero => exact ⟨fun _ i hi => absurd hi (Nat.not_lt_zero _), fun _ => rfl⟩
  | succ n ih =>
    rw [cnB_s]
    constructor
    · intro h i hi
      have h1 : cnB p n = 0 := by omega
      by_cases e : i = n
      · subst e
        cases hp : p i
        · rfl
        · rw [hp] at h
          simp at h
      · exact ih.mp h1 i (by omega)
    · intro h
      rw [ih.mpr (fun i hi => h i (by omega)), h n (by omega)]
      rfl
theorem c_Tab_isEmpty {K : gK} {h : gH} (hst : K.1.stackTraces = false) {a wa A : Nat} {f : Nat → Int64} (hv : gTb h a wa A f) : Ct K r_Tab_isEmpty M_Tab_isEmpty [.ref a] h (gRt (some (.int (bI (decide (cnB (tbs f) (64 * wcn A) = 0))))) h) := by
  have hle := wcn_le hv.1
  have hcl := cnB_le (tbs f) (64 * wcn A)
  refine Ct.of hst (by decide) (Or.inl rfl) (Nat.le_of_ble_eq_true rfl) ?_
  refine g_aload_n d_Tab_isEmpty_0 rfl ?_
  refine g_callR (c_Tab_size hst hv) gm_Tab_size d_Tab_isEmpty_1 (gInv_v (As := []) (rest := []) d_Tab_isEmpty_1 gm_Tab_size gv_Tab_41 (hv.2.1) rfl) (Nat.le_of_ble_eq_true rfl) (Nat.le_of_ble_eq_true rfl) (Nat.le_of_ble_eq_true rfl) (Nat.le_of_ble_eq_true rfl) (Nat.le_of_ble_eq_true rfl) ?_
  refine g_if_ne (tgt := 11) d_Tab_isEmpty_4 (by decide) (fun q => ?_) (fun q => ?_)
  · refine g_iconst (v := nI 0) d_Tab_isEmpty_11 (by decide) ?_
    refine g_ret_i d_Tab_isEmpty_12 rfl rfl ⟨?_, rfl⟩
    have e : ¬ cnB (tbs f) (64 * wcn A) = 0 := fun z => q ((nI_z (by omega)).mpr z)
    simp [e, bI]
    rfl
  · refine g_iconst (v := nI 1) d_Tab_isEmpty_7 (by decide) ?_
    refine g_goto (tgt := 12) d_Tab_isEmpty_8 (by decide) ?_
    refine g_ret_i d_Tab_isEmpty_12 rfl rfl ⟨?_, rfl⟩
    have e : cnB (tbs f) (64 * wcn A) = 0 := (nI_z (by omega)).mp q
    rw [e]
    rfl
/-! ===== Vocabulary.become ===== -/
theorem wc_1 : Cond.initialized "java/lang/System" ∈ gW := gW_of (gin_1 (List.mem_of_getElem? (i := 18) rfl)) rfl
theorem wc_2 : Cond.methodLink "HerbrandTables$Vocabulary" 31 arraycopyName ∈ gW := gW_of (gin_2 (List.mem_of_getElem? (i := 235) rfl)) rfl
theorem wc_3 : Cond.static arraycopyName ∈ gW := gW_of (gin_2 (List.mem_of_getElem? (i := 236) rfl)) rfl
theorem wc_4 : Cond.native arraycopyName ∈ gW := gW_of (gin_2 (List.mem_of_getElem? (i := 237) rfl)) rfl
theorem g_copy4 {K : gK} {M : gM} {R : Room} {pc : Nat} {lv : List (Nat × Value)} {st : List Value} {h : gH} {kc ks : Nat} {Q : Outcome → gH → Prop} {idx a0 a : Nat} {f g : Nat → Int32} (hd : decode M.2.1 pc = .ok (.invokestatic idx, 3)) (hl : Cond.methodLink M.1.cls idx arraycopyName ∈ gW) (hw1 : Cond.native arraycopyName ∈ gW) (hw2 : Cond.static arraycopyName ∈ gW) (hw3 : Cond.initialized "java/lang/System" ∈ gW) (h0 : h a0 = some (.inl (0, 4, .inl f))) (h1 : h a = some (.inl (0, 4, .inl g))) (hf : 1 ≤ R.frames) (hlo : (st.map fun v => v.category).sum + 18 ≤ R.locals) (k : Go K M R (pc + 3) lv st (gup h a (.inl (0, 4, .inl (fun j => if j < 4 then f j else g j)))) kc ks Q) : Go K M R pc lv (.int (nI 4) :: .int (nI 0) :: .ref a :: .int (nI 0) :: .ref a0 :: st) h kc ks Q := by
  intro p e s m args below meth c Z H locs cells slots ls C N hP hS hl9 h19 h29 T hT X
  subst hT
  have k := fun H locs => k p e s m args below meth c Z H locs cells slots ls C N
  obtain ⟨hx, hb, hml, -, -, -, hown, -, hTs, -⟩ := C
  obtain ⟨-, hc0⟩ := hP.2.2 a0 _ h0
  obtain ⟨hB, hc1⟩ := hP.2.2 a _ h1
  obtain ⟨-, k0, hk0, cm0, hkk0⟩ := (hTs.1.2 0 _ rfl).1 4 (fun j => .int (f j))
  obtain ⟨vm', X', step⟩ := X.arraycopy hx hown (gT.word hTs hl args) (gT.word hTs hw1 args) (gT.word hTs hw2 args) (gT.word hTs hw3 args) (src := a0) (dst := a) (cs := vp_cell (K.2.2.1 0) (4, .inl f)) (cd := vp_cell (K.2.2.1 0) (4, .inl g)) (srcPos := nI 0) (destPos := nI 0) (n := nI 4) hc0 hc1
    (fun _ h => by cases h) (fun _ h => by cases h) (fun h => by cases h) (fun h => by cases h) hk0 hk0 hkk0 hkk0 (by simp [refKind]) (by decide) (by decide) (by decide)
    (by show ¬ _ > ((arrV _ 4 (fun j => .int (f j))).slots.size : Int); rw [arrV_size]; decide)
    (by show ¬ _ > ((arrV _ 4 (fun j => .int (g j))).slots.size : Int); rw [arrV_size]; decide)
    (fun vm₁ _ i hi => by
      have hi4 : i < 4 := hi
      have e : (vp_cell (K.2.2.1 0) (4, .inl f)).slots.getD ((nI 0).toNatClampNeg + i) .null = .int (f i) := by
        show (arrV _ 4 (fun j => .int (f j))).slots.getD _ _ = _
        rw [show (nI 0).toNatClampNeg + i = i by rw [show (nI 0).toNatClampNeg = 0 by decide, Nat.zero_add], Array.getD_eq_getD_getElem?, arrV_read _ _ hi4]
        rfl
      refine ⟨?_, ?_⟩
      · rw [e]
        rfl
      · rw [e]
        exact trivial)
    (g := F0 m pc ls (.int (nI 4) :: .int (nI 0) :: .ref a :: .int (nI 0) :: .ref a0 :: st)) rfl (by rw [hml]; exact hl9.1) (rest := st) rfl (by rw [hb]; exact hd) hf (by show 2 * 0 + _ + (7 + 11) ≤ _; omega)
  have e1 : copied (vp_cell (K.2.2.1 0) (4, .inl f)) (vp_cell (K.2.2.1 0) (4, .inl g)) (nI 0) (nI 0) (nI 4) = vp_cell (K.2.2.1 0) (4, .inl (va_cpy f g 0 0 4)) := va_copied (fun z => .int z) (K.2.2.1 0) (K.2.2.1 0) (n0 := 4) (n1 := 4) (sp := 0) (dp := 0) (n := 4) f g (by decide)
  rw [e1] at X' step
  have e2 : va_cpy f g 0 0 4 = (fun j => if j < 4 then f j else g j) := by
    funext j
    unfold va_cpy
    by_cases hj : j < 4
    · rw [if_pos ⟨Nat.zero_le _, by omega⟩, if_pos hj, Nat.zero_add, Nat.sub_zero]
    · rw [if_neg (by omega), if_neg hj]
  rw [e2] at X' step
  have hlt : a < T.heap.size := (Array.getElem?_eq_some_iff.mp hc1).1
  have oq : ∀ q : Nat, q ≠ a → ((T.setVm vm').setCell a (vp_cell (K.2.2.1 0) (4, .inl (fun j => if j < 4 then f j else g j)))).heap[q]? = T.heap[q]? := fun q hq => by
    show (T.heap.setIfInBounds a _)[q]? = _
    simp [Array.getElem?_setIfInBounds, Ne.symm hq]
  have zq : ((T.setVm vm').setCell a (vp_cell (K.2.2.1 0) (4, .inl (fun j => if j < 4 then f j else g j)))).heap.size = T.heap.size := by
    show (T.heap.setIfInBounds a _).size = _
    simp
  obtain ⟨t, a1, b1⟩ := k _ _ (hP.set h1 (e := .inl (0, 4, .inl (fun j => if j < 4 then f j else g j))) (show ((T.setVm vm').setCell a _).heap[a]? = some _ by show (T.heap.setIfInBounds a _)[a]? = _; simp [Array.getElem?_setIfInBounds, hlt]) zq oq) ⟨by rw [zq]; exact hS.1, fun q g1 g2 => by
      rw [oq q (fun e => g2 (by rw [e]; exact hB))]
      exact hS.2.1 q g1 g2, fun q hq => by
      rcases List.mem_append.mp hq with h | h
      · exact hS.2.2 q h
      · obtain ⟨z, -, hz⟩ := List.mem_map.mp h
        rw [← hz]
        exact hB⟩ hl9 h19 h29 _ rfl X'
  exact ⟨t, step t a1, b1⟩
theorem c_Voc_become {K : gK} {h : gH} (hst : K.1.stackTraces = false) {a aa fa c b ba bfa c' : Nat} {w w' : Nat → Int32} (hv : gVu h a aa fa w c) (hb : gVu h b ba bfa w' c') (hab : a ≠ b) (hba : ba ≠ aa) : Ct K r_Voc_become M_Voc_become [.ref a, .ref b] h (gRx fun v h' => v = none ∧ ∃ w'', (∀ p, p < 4 → w'' p = w' p) ∧ gVc h' a aa fa w'' c' ∧ gKp h h' [a, aa, fa]) := by
  have hne := hv.ne
  obtain ⟨h1, h2, h3, f, v3, v4, h4, h5, h6⟩ := hv
  obtain ⟨g1, g2, g3, fb, u3, u4, g4, g5, g6⟩ := hb
  have hbaa : b ≠ aa := gne g4 h5 (by simp)
  refine Ct.of hst (by decide) (Or.inl rfl) (Nat.le_of_ble_eq_true rfl) ?_
  refine g_aload_n d_Voc_become_0 rfl ?_
  refine g_get d_Voc_become_1 f_Voc_9 (g4) rfl ?_
  refine g_iconst (v := nI 0) d_Voc_become_4 (by decide) ?_
  refine g_aload_n d_Voc_become_5 rfl ?_
  refine g_get d_Voc_become_6 f_Voc_9 (h4) rfl ?_
  refine g_iconst (v := nI 0) d_Voc_become_9 (by decide) ?_
  refine g_iconst (v := nI 4) d_Voc_become_10 (by decide) ?_
  refine g_copy4 d_Voc_become_11 wc_2 wc_4 wc_3 wc_1 g5 h5 (Nat.le_of_ble_eq_true rfl) (Nat.le_of_ble_eq_true rfl) ?_
  refine g_aload_n d_Voc_become_14 rfl ?_
  refine g_aload_n d_Voc_become_15 rfl ?_
  refine g_get d_Voc_become_16 f_Voc_24 ((gup_n hbaa).trans g4) rfl ?_
  refine g_put (fs' := [_, _, _, _, _]) d_Voc_become_19 f_Voc_24 ((gup_n hne.1).trans h4) rfl rfl (Nat.le_of_ble_eq_true rfl) rfl ?_
  refine g_aload_n d_Voc_become_22 rfl ?_
  have hw : ∀ p, p < 4 → (fun j => if j < 4 then w' j else w j) p = w' p := fun p hp => if_pos hp
  have hu : gVu (gup (gup h aa (.inl (0, 4, .inl (fun j => if j < 4 then w' j else w j)))) a (.inr (2, [.ref aa, .ref fa, .int (nI c'), v3, v4]))) a aa fa (fun j => if j < 4 then w' j else w j) c' :=
    ⟨fun p hp => by rw [hw p hp]; exact g1 p hp, g2, h3, f, v3, v4, gup_s _ _ _, (gup_n (Ne.symm hne.1)).trans (gup_s _ _ _), (gup_n (Ne.symm hne.2)).trans ((gup_n (Ne.symm h3)).trans h6)⟩
  refine g_callX (c_Voc_recount2 hst hu) gm_Voc_recount d_Voc_become_23 (gInv_v (As := []) (rest := []) d_Voc_become_23 gm_Voc_recount gv_Voc_28 (gup_s _ _ _) rfl) (Nat.le_of_ble_eq_true rfl) (Nat.le_of_ble_eq_true rfl) (Nat.le_of_ble_eq_true rfl) (Nat.le_of_ble_eq_true rfl) (Nat.le_of_ble_eq_true rfl) (fun v h1 hp => ?_)
  obtain ⟨rfl, hc, hk⟩ := hp
  refine g_ret_v d_Voc_become_26 rfl ⟨_, rfl, rfl, _, hw, hc, ?_⟩
  exact ((gKp.rf.up (by simp)).up (by simp)).tr (hk.mono (by simp))
