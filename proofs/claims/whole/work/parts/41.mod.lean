/-! ===== the reference: its leaves ===== -/
theorem c_Mod_predicateOf {K : gK} {h : gH} (hst : K.1.stackTraces = false) {c : Nat} (hc : c < 65536) : Ct K r_Mod_predicateOf M_Mod_predicateOf [.int (nI c)] h (gRt (some (.int (rcv (prd c)))) h) := by
  refine Ct.of hst (by decide) (Or.inl rfl) (Nat.le_of_ble_eq_true rfl) ?_
  unfold prd
  refine g_iload_n d_Mod_predicateOf_0 rfl ?_
  refine g_bipush (v := nI 80) d_Mod_predicateOf_1 (by decide) ?_
  refine g_icmpN_lt (tgt := 19) d_Mod_predicateOf_3 (by decide) (rfl) (rfl) (by omega) (by decide) (fun q => ?_) (fun q => ?_)
  · refine g_iconst (v := -1) d_Mod_predicateOf_19 (by decide) ?_
    refine g_ret_i d_Mod_predicateOf_20 rfl rfl ⟨?_, rfl⟩
    rw [if_neg (by omega)]
    rfl
  · refine g_iload_n d_Mod_predicateOf_6 rfl ?_
    refine g_bipush (v := nI 83) d_Mod_predicateOf_7 (by decide) ?_
    refine g_icmpN_gt (tgt := 19) d_Mod_predicateOf_9 (by decide) (rfl) (rfl) (by omega) (by decide) (fun q => ?_) (fun q => ?_)
    · refine g_iconst (v := -1) d_Mod_predicateOf_19 (by decide) ?_
      refine g_ret_i d_Mod_predicateOf_20 rfl rfl ⟨?_, rfl⟩
      rw [if_neg (by omega)]
      rfl
    · refine g_iload_n d_Mod_predicateOf_12 rfl ?_
      refine g_bipush (v := nI 80) d_Mod_predicateOf_13 (by decide) ?_
      refine g_isub d_Mod_predicateOf_15 ?_
      refine g_goto (tgt := 20) d_Mod_predicateOf_16 (by decide) ?_
      rw [pk_sub (by omega)]
      refine g_ret_i d_Mod_predicateOf_20 rfl rfl ⟨?_, rfl⟩
      rw [if_pos (by omega)]
      rfl
theorem c_Mod_argument {K : gK} {h : gH} (hst : K.1.stackTraces = false) {c : Nat} (hc : c < 65536) : Ct K r_Mod_argument M_Mod_argument [.int (nI c)] h (gRt (some (.int (rcv (arg c)))) h) := by
  have key : ¬ (97 ≤ c ∧ c ≤ 99) → Go K M_Mod_argument r_Mod_argument 19 [(0, .int (nI c))] [] h 0 0 (gRt (some (.int (rcv (arg c)))) h) := by
    intro hn
    unfold arg
    rw [if_neg hn]
    refine g_iload_n d_Mod_argument_19 rfl ?_
    refine g_bipush (v := nI 120) d_Mod_argument_20 (by decide) ?_
    refine g_icmpN_lt (tgt := 40) d_Mod_argument_22 (by decide) (rfl) (rfl) (by omega) (by decide) (fun q => ?_) (fun q => ?_)
    · refine g_iconst (v := -1) d_Mod_argument_40 (by decide) ?_
      refine g_ret_i d_Mod_argument_41 rfl rfl ⟨?_, rfl⟩
      rw [if_neg (by omega)]
      rfl
    · refine g_iload_n d_Mod_argument_25 rfl ?_
      refine g_bipush (v := nI 122) d_Mod_argument_26 (by decide) ?_
      refine g_icmpN_gt (tgt := 40) d_Mod_argument_28 (by decide) (rfl) (rfl) (by omega) (by decide) (fun q => ?_) (fun q => ?_)
      · refine g_iconst (v := -1) d_Mod_argument_40 (by decide) ?_
        refine g_ret_i d_Mod_argument_41 rfl rfl ⟨?_, rfl⟩
        rw [if_neg (by omega)]
        rfl
      · refine g_iload_n d_Mod_argument_31 rfl ?_
        refine g_bipush (v := nI 120) d_Mod_argument_32 (by decide) ?_
        refine g_isub d_Mod_argument_34 ?_
        refine g_iconst (v := nI 3) d_Mod_argument_35 (by decide) ?_
        refine g_iadd d_Mod_argument_36 ?_
        refine g_goto (tgt := 41) d_Mod_argument_37 (by decide) ?_
        rw [pk_sub (by omega), nI_add]
        refine g_ret_i d_Mod_argument_41 rfl rfl ⟨?_, rfl⟩
        rw [if_pos (by omega)]
        rfl
  refine Ct.of hst (by decide) (Or.inl rfl) (Nat.le_of_ble_eq_true rfl) ?_
  refine g_iload_n d_Mod_argument_0 rfl ?_
  refine g_bipush (v := nI 97) d_Mod_argument_1 (by decide) ?_
  refine g_icmpN_lt (tgt := 19) d_Mod_argument_3 (by decide) (rfl) (rfl) (by omega) (by decide) (fun q => ?_) (fun q => ?_)
  · exact key (by omega)
  · refine g_iload_n d_Mod_argument_6 rfl ?_
    refine g_bipush (v := nI 99) d_Mod_argument_7 (by decide) ?_
    refine g_icmpN_gt (tgt := 19) d_Mod_argument_9 (by decide) (rfl) (rfl) (by omega) (by decide) (fun q => ?_) (fun q => ?_)
    · exact key (by omega)
    · refine g_iload_n d_Mod_argument_12 rfl ?_
      refine g_bipush (v := nI 97) d_Mod_argument_13 (by decide) ?_
      refine g_isub d_Mod_argument_15 ?_
      refine g_goto (tgt := 41) d_Mod_argument_16 (by decide) ?_
      rw [pk_sub (by omega)]
      refine g_ret_i d_Mod_argument_41 rfl rfl ⟨?_, rfl⟩
      unfold arg
      rw [if_pos (by omega)]
      rfl
