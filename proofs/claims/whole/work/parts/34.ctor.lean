/-! ===== the constructors of the small ones ===== -/
theorem c_Text_init {K : gK} {h : gH} (hst : K.1.stackTraces = false) {a : Nat} (ha : h a = some (.inr (1, [.null, .int 0]))) : Ct K r_Text_init M_Text_init [.ref a] h (gRx fun o h' => o = none ∧ ∃ ca, h ca = none ∧ gTx h' a ca [] ∧ gKp h h' [a, ca]) := by
  refine Ct.of hst (by decide) (Or.inl rfl) (Nat.le_of_ble_eq_true rfl) ?_
  refine g_aload_n d_Text_init_0 rfl ?_
  refine g_obj d_Text_init_1 go_Text_3 ob_1 ob_2 (Nat.le_of_ble_eq_true rfl) (Nat.le_of_ble_eq_true rfl) (Nat.le_of_ble_eq_true rfl) ?_
  refine g_aload_n d_Text_init_4 rfl ?_
  refine g_bipush (v := nI 96) d_Text_init_5 (by decide) ?_
  refine g_newC d_Text_init_7 ac_char rfl (by decide) (Nat.le_of_ble_eq_true rfl) (Nat.le_of_ble_eq_true rfl) (fun q1 hq1 => ?_)
  refine g_putF (k := 0) (fs' := [_, _]) d_Text_init_9 gc_Text (by decide) rfl rfl fl_Text_9 rfl rfl ((gup_n (gne0 ha hq1)).trans ha) rfl rfl (Nat.le_of_ble_eq_true rfl) rfl ?_
  refine g_ret_v d_Text_init_12 rfl ⟨_, rfl, rfl, q1, hq1, ⟨_, gup_s _ _ _, (gup_n (Ne.symm (gne0 ha hq1))).trans (gup_s _ _ _), by decide, fun i hi => absurd hi (Nat.not_lt_zero _), fun c hc => by cases hc⟩, (gKp.rf.up (by simp)).up (by simp)⟩
theorem c_Lit_init {K : gK} {h : gH} (hst : K.1.stackTraces = false) {a : Nat} (ha : h a = some (.inr (3, [.int 0, .int 0, .null]))) : Ct K r_Lit_init M_Lit_init [.ref a] h (gRx fun o h' => o = none ∧ ∃ ca, h ca = none ∧ gLu h' a ca ∧ gKp h h' [a, ca]) := by
  refine Ct.of hst (by decide) (Or.inl rfl) (Nat.le_of_ble_eq_true rfl) ?_
  refine g_aload_n d_Lit_init_0 rfl ?_
  refine g_obj d_Lit_init_1 go_Lit_3 ob_1 ob_2 (Nat.le_of_ble_eq_true rfl) (Nat.le_of_ble_eq_true rfl) (Nat.le_of_ble_eq_true rfl) ?_
  refine g_aload_n d_Lit_init_4 rfl ?_
  refine g_iconst (v := nI 2) d_Lit_init_5 (by decide) ?_
  refine g_newI d_Lit_init_6 ac_int rfl (by decide) (Nat.le_of_ble_eq_true rfl) (Nat.le_of_ble_eq_true rfl) (fun q1 hq1 => ?_)
  refine g_putF (k := 2) (fs' := [_, _, _]) d_Lit_init_8 gc_Lit (by decide) rfl rfl fl_Lit_9 rfl rfl ((gup_n (gne0 ha hq1)).trans ha) rfl rfl (Nat.le_of_ble_eq_true rfl) rfl ?_
  refine g_ret_v d_Lit_init_11 rfl ⟨_, rfl, rfl, q1, hq1, ⟨0, 0, gup_s _ _ _, _, (gup_n (Ne.symm (gne0 ha hq1))).trans (gup_s _ _ _), fun z => absurd z (by decide), fun z => absurd z (by decide), fun j _ => ⟨0, by decide, rfl⟩⟩, (gKp.rf.up (by simp)).up (by simp)⟩
theorem c_Tab_init {K : gK} {h : gH} (hst : K.1.stackTraces = false) {a : Nat} (ha : h a = some (.inr (8, [.null, .int 0, .int 0]))) : Ct K r_Tab_init M_Tab_init [.ref a] h (gRx fun o h' => o = none ∧ ∃ ca, h ca = none ∧ gTu h' a ca ∧ gKp h h' [a, ca]) := by
  refine Ct.of hst (by decide) (Or.inl rfl) (Nat.le_of_ble_eq_true rfl) ?_
  refine g_aload_n d_Tab_init_0 rfl ?_
  refine g_obj d_Tab_init_1 go_Tab_3 ob_1 ob_2 (Nat.le_of_ble_eq_true rfl) (Nat.le_of_ble_eq_true rfl) (Nat.le_of_ble_eq_true rfl) ?_
  refine g_aload_n d_Tab_init_4 rfl ?_
  refine g_bipush (v := nI 64) d_Tab_init_5 (by decide) ?_
  refine g_newJ d_Tab_init_7 ac_long rfl (by decide) (Nat.le_of_ble_eq_true rfl) (Nat.le_of_ble_eq_true rfl) (fun q1 hq1 => ?_)
  refine g_putF (k := 0) (fs' := [_, _, _]) d_Tab_init_9 gc_Tab (by decide) rfl rfl fl_Tab_9 rfl rfl ((gup_n (gne0 ha hq1)).trans ha) rfl rfl (Nat.le_of_ble_eq_true rfl) rfl ?_
  refine g_ret_v d_Tab_init_12 rfl ⟨_, rfl, rfl, q1, hq1, ⟨_, _, _, gup_s _ _ _, (gup_n (Ne.symm (gne0 ha hq1))).trans (gup_s _ _ _)⟩, (gKp.rf.up (by simp)).up (by simp)⟩
theorem c_Ins_init {K : gK} {h : gH} (hst : K.1.stackTraces = false) {a : Nat} : Ct K r_Ins_init M_Ins_init [.ref a] h (gRt none h) := by
  refine Ct.of hst (by decide) (Or.inl rfl) (Nat.le_of_ble_eq_true rfl) ?_
  refine g_aload_n d_Ins_init_0 rfl ?_
  refine g_obj d_Ins_init_1 go_Ins_3 ob_1 ob_2 (Nat.le_of_ble_eq_true rfl) (Nat.le_of_ble_eq_true rfl) (Nat.le_of_ble_eq_true rfl) ?_
  exact g_ret_v d_Ins_init_4 rfl ⟨rfl, rfl⟩
theorem c_Iset_init {K : gK} {h : gH} (hst : K.1.stackTraces = false) {a n : Nat} (hn : n ≤ 324) (ha : h a = some (.inr (7, [.null, .int 0]))) : Ct K r_Iset_init M_Iset_init [.ref a, .int (nI n)] h (gRx fun o h' => o = none ∧ ∃ ca, h ca = none ∧ gIs h' a ca n [] ∧ gKp h h' [a, ca]) := by
  refine Ct.of hst (by decide) (Or.inl rfl) (Nat.le_of_ble_eq_true rfl) ?_
  refine g_aload_n d_Iset_init_0 rfl ?_
  refine g_obj d_Iset_init_1 go_Iset_1 ob_1 ob_2 (Nat.le_of_ble_eq_true rfl) (Nat.le_of_ble_eq_true rfl) (Nat.le_of_ble_eq_true rfl) ?_
  refine g_aload_n d_Iset_init_4 rfl ?_
  refine g_iload_n d_Iset_init_5 rfl ?_
  refine g_newI d_Iset_init_6 ac_int rfl (by omega) (Nat.le_of_ble_eq_true rfl) hn (fun q1 hq1 => ?_)
  refine g_putF (k := 0) (fs' := [_, _]) d_Iset_init_8 gc_Iset (by decide) rfl rfl fl_Iset_7 rfl rfl ((gup_n (gne0 ha hq1)).trans ha) rfl rfl (Nat.le_of_ble_eq_true rfl) rfl ?_
  refine g_ret_v d_Iset_init_11 rfl ⟨_, rfl, rfl, q1, hq1, ⟨by omega, Nat.zero_le _, (fun c hc => by cases hc), _, gup_s _ _ _, (gup_n (Ne.symm (gne0 ha hq1))).trans (gup_s _ _ _), fun i hi => absurd hi (Nat.not_lt_zero _)⟩, (gKp.rf.up (by simp)).up (by simp)⟩
theorem c_Voc_init {K : gK} {h : gH} (hst : K.1.stackTraces = false) {a : Nat} (ha : h a = some (.inr (2, [.null, .null, .int 0, .int 0, .int 0]))) : Ct K r_Voc_init M_Voc_init [.ref a] h (gRx fun o h' => o = none ∧ ∃ (aa fa : Nat) (w : Nat → Int32), h aa = none ∧ h fa = none ∧ gVu h' a aa fa w 0 ∧ (∀ p, p < 4 → w p = -1) ∧ h' a = some (.inr (2, [.ref aa, .ref fa, .int (nI 0), .int 0, .int (nI 0)])) ∧ gKp h h' [a, aa, fa]) := by
  refine Ct.of hst (by decide) (Or.inl rfl) (Nat.le_of_ble_eq_true rfl) ?_
  refine g_aload_n d_Voc_init_0 rfl ?_
  refine g_obj d_Voc_init_1 go_Voc_3 ob_1 ob_2 (Nat.le_of_ble_eq_true rfl) (Nat.le_of_ble_eq_true rfl) (Nat.le_of_ble_eq_true rfl) ?_
  refine g_aload_n d_Voc_init_4 rfl ?_
  refine g_iconst (v := nI 4) d_Voc_init_5 (by decide) ?_
  refine g_newI d_Voc_init_6 ac_int rfl (by decide) (Nat.le_of_ble_eq_true rfl) (Nat.le_of_ble_eq_true rfl) (fun q1 hq1 => ?_)
  refine g_putF (k := 0) (fs' := [_, _, _, _, _]) d_Voc_init_8 gc_Voc (by decide) rfl rfl fl_Voc_9 rfl rfl ((gup_n (gne0 ha hq1)).trans ha) rfl rfl (Nat.le_of_ble_eq_true rfl) rfl ?_
  have n1 := gne0 ha hq1
  refine g_aload_n d_Voc_init_11 rfl ?_
  refine g_iconst (v := nI 4) d_Voc_init_12 (by decide) ?_
  refine g_newI d_Voc_init_13 ac_int rfl (by decide) (Nat.le_of_ble_eq_true rfl) (Nat.le_of_ble_eq_true rfl) (fun q2 hq2 => ?_)
  refine g_putF (k := 1) (fs' := [_, _, _, _, _]) d_Voc_init_15 gc_Voc (by decide) rfl rfl fl_Voc_15 rfl rfl ((gup_n (gne0 (gup_s _ _ _) hq2)).trans (gup_s _ _ _)) rfl rfl (Nat.le_of_ble_eq_true rfl) rfl ?_
  have n2 := gne0 (gup_s _ _ _) hq2
  have n3 : q1 ≠ q2 := gne0 ((gup_n (Ne.symm n1)).trans (gup_s _ _ _)) hq2
  have hq2' : h q2 = none := by
    rw [gup_n (Ne.symm n2), gup_n (Ne.symm n3)] at hq2
    exact hq2
  refine g_aload_n d_Voc_init_18 rfl ?_
  refine g_get d_Voc_init_19 f_Voc_9 (gup_s _ _ _) rfl ?_
  refine g_iconst (v := -1) d_Voc_init_22 (by decide) ?_
  refine g_callR (c_fillI hst (by decide) (-1) ((gup_n (Ne.symm n1)).trans ((gup_n n3).trans ((gup_n (Ne.symm n1)).trans (gup_s _ _ _))))) gm_Arr_fillI d_Voc_init_23 (gInv_s (As := [.ref q1, .int (-1)]) (rest := []) d_Voc_init_23 gm_Arr_fillI gs_Voc_18) (Nat.le_of_ble_eq_true rfl) (Nat.le_of_ble_eq_true rfl) (Nat.le_of_ble_eq_true rfl) (Nat.le_of_ble_eq_true rfl) (Nat.le_of_ble_eq_true rfl) ?_
  have hx := (gup_n (h := gup (gup (gup (gup h q1 (.inl (0, 4, .inl fun _ => 0))) a (.inr (2, [.ref q1, .null, .int 0, .int 0, .int 0]))) q2 (.inl (0, 4, .inl fun _ => 0))) a (.inr (2, [.ref q1, .ref q2, .int 0, .int 0, .int 0]))) (e := .inl (0, 4, .inl fun j => if j < 4 then (-1 : Int32) else 0)) n1).trans (gup_s _ _ _)
  refine g_ret_v d_Voc_init_26 rfl ⟨_, rfl, rfl, q1, q2, fun j => if j < 4 then -1 else 0, hq1, hq2', ⟨fun p hp => Or.inl (if_pos hp), by decide, n3, _, _, _, hx, gup_s _ _ _, (gup_n (Ne.symm n3)).trans ((gup_n (Ne.symm n2)).trans (gup_s _ _ _))⟩, fun p hp => if_pos hp, hx, ((((gKp.rf.up (by simp)).up (by simp)).up (by simp)).up (by simp)).up (by simp)⟩
