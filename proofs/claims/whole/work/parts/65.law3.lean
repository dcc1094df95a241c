/-! ===== the law ===== -/
theorem lw_go {n i : Nat} (hn : n ≤ 2048) (hi : i ≤ 4096) (q : ¬ nI n - nI 4 < nI i) : i + 4 ≤ n := by
  by_cases h4 : 4 ≤ n
  · rw [pk_sub h4] at q
    have : ¬ n - 4 < i := fun z => q ((nI_ltI (by omega) (by omega)).mpr z)
    omega
  · refine absurd ?_ q
    rw [Int32.lt_iff_toInt_lt, nI_toInt (by omega)]
    rcases (show n = 0 ∨ n = 1 ∨ n = 2 ∨ n = 3 by omega) with e | e | e | e <;> subst e
    · have : (nI 0 - nI 4).toInt = -4 := by decide
      omega
    · have : (nI 1 - nI 4).toInt = -3 := by decide
      omega
    · have : (nI 2 - nI 4).toInt = -2 := by decide
      omega
    · have : (nI 3 - nI 4).toInt = -1 := by decide
      omega
theorem l_law {K : gK} {X Y : Nat → Nat} {o sc n : Nat} {xs : Nat → Int32} (hst : K.1.stackTraces = false) (hap : gAp X Y o) (hsc : gSc K sc n xs) (hn : n ≤ 2048) {Q : Outcome → gH → Prop} (hQ : ∀ h, Q (.returned (some (.int 1))) h) : ∀ (r i : Nat) (h : gH), n ≤ i + r → i ≤ 4096 → gJ h X Y o → Go K M_Law_law room_1 23 [(0, .ref sc), (1, .ref (X 0)), (2, .ref (Y 0)), (3, .ref o), (4, .int (nI i))] [] h (3 * r) (18 * r) Q := by
  intro r
  induction r using Nat.strongRecOn with
  | ind r ih =>
    intro i h hr hi hJ
    refine g_iload d_Law_law_23 rfl ?_
    refine g_aload_n d_Law_law_25 rfl ?_
    refine g_alen0 d_Law_law_26 hsc ?_
    refine g_iconst (v := nI 4) d_Law_law_27 (by decide) ?_
    refine g_isub d_Law_law_28 ?_
    refine g_icmp_gt (tgt := 689) d_Law_law_29 (by decide) (fun q => ?_) (fun q => ?_)
    · refine g_iconst (v := nI 1) d_Law_law_689 (by decide) ?_
      exact g_ret_i d_Law_law_690 rfl rfl (hQ h)
    · have hi4 := lw_go hn hi q
      have nx : ∀ h, gJ h X Y o → Go K M_Law_law room_1 683 [(0, .ref sc), (1, .ref (X 0)), (2, .ref (Y 0)), (3, .ref o), (4, .int (nI i))] [] h (3 * r - 3) (18 * r - 18) Q := by
        intro h hJ
        refine g_iinc (v := nI (i + 4)) d_Law_law_683 rfl (nI_add i 4) (Nat.le_of_ble_eq_true rfl) rfl ?_
        refine g_goto (tgt := 23) d_Law_law_686 (by decide) ?_
        exact g_less (show 3 * (r - 4) ≤ 3 * r - 3 by omega) (show 18 * (r - 4) ≤ 18 * r - 18 by omega) (ih (r - 4) (by omega) (i + 4) h (by omega) (by omega) hJ)
      refine g_aload_n d_Law_law_32 rfl ?_
      refine g_iload d_Law_law_33 rfl ?_
      refine g_iald0 d_Law_law_35 hsc (rfl) (by omega) (by omega) ?_
      refine g_bipush (v := nI 15) d_Law_law_36 (by decide) ?_
      refine g_iand d_Law_law_38 ?_
      rw [pk_and (xs i) (m := nI 15) 4 (by decide)]
      have hm16 : (xs i).toBitVec.toNat % 2 ^ 4 < 16 := Nat.mod_lt _ (by decide)
      generalize (xs i).toBitVec.toNat % 2 ^ 4 = m at *
      have hr1 : 1 ≤ r := by omega
      rcases (show m = 0 ∨ m = 1 ∨ m = 2 ∨ m = 3 ∨ m = 4 ∨ m = 5 ∨ m = 6 ∨ m = 7 ∨ m = 8 ∨ m = 9 ∨ m = 10 ∨ m = 11 ∨ m = 12 ∨ m = 13 ∨ m = 14 ∨ m = 15 by omega) with e | e | e | e | e | e | e | e | e | e | e | e | e | e | e | e <;> subst e
      · exact g_tabIn (tgt := 116) d_Law_law_39 (by decide) (by decide) rfl (by decide) (lc_type hst hap hsc hn hi4 hr1 nx hJ)
      · exact g_tabIn (tgt := 173) d_Law_law_39 (by decide) (by decide) rfl (by decide) (lc_erase hst hap hsc hn hi4 hr1 nx hJ)
      · exact g_tabIn (tgt := 186) d_Law_law_39 (by decide) (by decide) rfl (by decide) (lc_read hst hap hsc hn hi4 hr1 nx hJ)
      · exact g_tabIn (tgt := 230) d_Law_law_39 (by decide) (by decide) rfl (by decide) (lc_fault hst hap hsc hn hi4 hr1 nx hJ)
      · exact g_tabIn (tgt := 243) d_Law_law_39 (by decide) (by decide) rfl (by decide) (lc_clauses hst hap hsc hn hi4 hr1 nx hJ)
      · exact g_tabIn (tgt := 256) d_Law_law_39 (by decide) (by decide) rfl (by decide) (lc_atoms hst hap hsc hn hi4 hr1 nx hJ)
      · exact g_tabIn (tgt := 269) d_Law_law_39 (by decide) (by decide) rfl (by decide) (lc_atom hst hap hsc hn hi4 hr1 nx hJ)
      · exact g_tabIn (tgt := 318) d_Law_law_39 (by decide) (by decide) rfl (by decide) (lc_instances hst hap hsc hn hi4 hr1 nx hJ)
      · exact g_tabIn (tgt := 331) d_Law_law_39 (by decide) (by decide) rfl (by decide) (lc_instancesOf hst hap hsc hn hi4 hr1 nx hJ)
      · exact g_tabIn (tgt := 356) d_Law_law_39 (by decide) (by decide) rfl (by decide) (lc_holds hst hap hsc hn hi4 hr1 nx hJ)
      · exact g_tabIn (tgt := 369) d_Law_law_39 (by decide) (by decide) rfl (by decide) (lc_tables hst hap hsc hn hi4 hr1 nx hJ)
      · exact g_tabIn (tgt := 413) d_Law_law_39 (by decide) (by decide) rfl (by decide) (lc_least hst hap hsc hn hi4 hr1 nx hJ)
      · exact g_tabIn (tgt := 457) d_Law_law_39 (by decide) (by decide) rfl (by decide) (lc_greatest hst hap hsc hn hi4 hr1 nx hJ)
      · exact g_tabIn (tgt := 501) d_Law_law_39 (by decide) (by decide) rfl (by decide) (lc_forced hst hap hsc hn hi4 hr1 nx hJ)
      · exact g_tabIn (tgt := 557) d_Law_law_39 (by decide) (by decide) rfl (by decide) (lc_without hst hap hsc hn hi4 hr1 nx hJ)
      · exact g_tabIn (tgt := 620) d_Law_law_39 (by decide) (by decide) rfl (by decide) (lc_core hst hap hsc hn hi4 hr1 nx hJ)
theorem g_law {K : gK} {sc n : Nat} {xs : Nat → Int32} (hst : K.1.stackTraces = false) (hsc : gSc K sc n xs) (hn : n ≤ 2048) {Q : Outcome → gH → Prop} (hQ : ∀ h, Q (.returned (some (.int 1))) h) : Go K M_Law_law room_1 0 [(0, .ref sc)] [] (fun _ => none) 601024 7293034 Q := by
  refine g_new d_Law_law_0 nw_Law_8 (Nat.le_of_ble_eq_true rfl) (Nat.le_of_ble_eq_true rfl) (fun q1 hq1 => ?_)
  refine g_dup d_Law_law_3 rfl ?_
  refine g_callX (c_HT_init hst (gup_s _ _ _)) gm_HT_init d_Law_law_4 (gInv_i (As := []) (rest := [.ref q1]) d_Law_law_4 gm_HT_init gi_Law_41 rfl) (Nat.le_of_ble_eq_true rfl) (Nat.le_of_ble_eq_true rfl) (Nat.le_of_ble_eq_true rfl) (Nat.le_of_ble_eq_true rfl) (Nat.le_of_ble_eq_true rfl) (fun v1 h1 hp => ?_)
  obtain ⟨rfl, X, w, rfl, hw, hX, hXn, hXk⟩ := hp
  have hx := hX fun _ _ => False
  refine g_astore_n d_Law_law_7 rfl (Nat.le_of_ble_eq_true rfl) rfl ?_
  refine g_new d_Law_law_8 nw_Law_42 (Nat.le_of_ble_eq_true rfl) (Nat.le_of_ble_eq_true rfl) (fun q2 hq2 => ?_)
  refine g_dup d_Law_law_11 rfl ?_
  refine g_callX (c_Mod_init hst (gup_s _ _ _) w (fun _ _ => False)) gm_Mod_init d_Law_law_12 (gInv_i (As := []) (rest := [.ref q2]) d_Law_law_12 gm_Mod_init gi_Law_44 rfl) (Nat.le_of_ble_eq_true rfl) (Nat.le_of_ble_eq_true rfl) (Nat.le_of_ble_eq_true rfl) (Nat.le_of_ble_eq_true rfl) (Nat.le_of_ble_eq_true rfl) (fun v2 h2 hp => ?_)
  obtain ⟨rfl, Y, rfl, hm, hYn, hYk⟩ := hp
  have hY0 : ∀ j, j < 17 → h1 (Y j) = none := fun j hj => by
    by_cases e : j = 0
    · rw [e]
      exact hq2
    · exact (nw_2 (hYn j hj e)).2
  have hXY : ∀ i, i < 145 → ∀ j, j < 17 → X i ≠ Y j := fun i hi j hj z => hx.sm hi (z ▸ hY0 j hj)
  have hx2 : gHt h2 X [] (-1) 0 0 w 0 fun _ _ => False := hx.of fun i hi => by
    rw [hYk _ fun ⟨j, hj, e⟩ => hXY i hi j hj e, gup_n (hXY i hi 0 (by decide))]
  refine g_astore_n d_Law_law_15 rfl (Nat.le_of_ble_eq_true rfl) rfl ?_
  refine g_iconst (v := nI 1) d_Law_law_16 (by decide) ?_
  refine g_newJ d_Law_law_17 ac_long rfl (by decide) (Nat.le_of_ble_eq_true rfl) (Nat.le_of_ble_eq_true rfl) (fun q3 hq3 => ?_)
  have hx3 := hx2.nw (e := .inl (1, 1, .inr (.inl fun _ => 0))) hq3
  have hm3 : gMo (gup h2 q3 (.inl (1, 1, .inr (.inl fun _ => 0)))) Y 0 [] (-1) 0 0 w 0 fun _ _ => False := hm.of fun i hi => gup_n fun z => hm.sm hi (z ▸ hq3)
  refine g_astore_n d_Law_law_19 rfl (Nat.le_of_ble_eq_true rfl) rfl ?_
  refine g_iconst (v := nI 0) d_Law_law_20 (by decide) ?_
  refine g_istore d_Law_law_21 (Nat.le_of_ble_eq_true rfl) rfl ?_
  refine g_less (kc' := 3 * 2048) (ks' := 18 * 2048) (Nat.le_of_ble_eq_true rfl) (Nat.le_of_ble_eq_true rfl) ?_
  exact l_law hst ⟨hXY, fun i hi z => hx2.sm hi (z ▸ hq3), fun j hj z => hm.sm hj (z ▸ hq3)⟩ hsc hn hQ 2048 0 _ (by omega) (by decide) ⟨_, _, _, _, _, _, _, _, _, hx3, hm3, fun _ => hw, gup_s _ _ _⟩
