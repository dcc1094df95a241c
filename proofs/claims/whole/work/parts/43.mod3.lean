section MODEL3
variable {K : gK} {h : gH} {Y : Nat → Nat} {F : Nat → Nat → Int32} {cd ty td nc nt th kk tg AA : Int32}
theorem c_Mod_isThing (hst : K.1.stackTraces = false) {t : Nat} (hm : gMb h Y F cd ty td nc nt th kk (nI t) AA) (ht : t < 8) (x : Int32) : Ct K r_Mod_isThing M_Mod_isThing [.ref (Y 0), .int x] h (gRt (some (.int (bI (decide (¬ x < 0 ∧ x < nI 3 ∧ t / 2 ^ x.toNatClampNeg % 2 = 1))))) h) := by
  refine Ct.of hst (by decide) (Or.inl rfl) (Nat.le_of_ble_eq_true rfl) ?_
  have no : ¬ (¬ x < 0 ∧ x < nI 3 ∧ t / 2 ^ x.toNatClampNeg % 2 = 1) → Go K M_Mod_isThing r_Mod_isThing 25 (lv_args 0 [.ref (Y 0), .int x]) [] h 0 0 (gRt (some (.int (bI (decide (¬ x < 0 ∧ x < nI 3 ∧ t / 2 ^ x.toNatClampNeg % 2 = 1))))) h) := fun z => by
    rw [decide_eq_false z]
    refine g_iconst (v := nI 0) d_Mod_isThing_25 (by decide) ?_
    exact g_ret_i d_Mod_isThing_26 rfl rfl ⟨rfl, rfl⟩
  refine g_iload_n d_Mod_isThing_0 rfl ?_
  refine g_if_lt (tgt := 25) d_Mod_isThing_1 (by decide) (fun q => ?_) (fun q => ?_)
  · exact no fun z => z.1 q
  · refine g_iload_n d_Mod_isThing_4 rfl ?_
    refine g_iconst (v := nI 3) d_Mod_isThing_5 (by decide) ?_
    have q0 := q
    refine g_icmp_ge (tgt := 25) d_Mod_isThing_6 (by decide) (fun q => ?_) (fun q => ?_)
    · exact no fun z => absurd z.2.1 (Int32.not_lt.mpr q)
    · obtain ⟨k, hk, rfl⟩ := nI_of3 q0 (Int32.not_le.mp q)
      rw [nI_clamp (by omega)] at no ⊢
      refine g_aload_n d_Mod_isThing_9 rfl ?_
      refine g_get d_Mod_isThing_10 f_Mod_98 (hm.2) rfl ?_
      refine g_iload_n d_Mod_isThing_13 rfl ?_
      refine g_ishr d_Mod_isThing_14 ?_
      refine g_iconst (v := nI 1) d_Mod_isThing_15 (by decide) ?_
      refine g_iand d_Mod_isThing_16 ?_
      refine g_iconst (v := nI 1) d_Mod_isThing_17 (by decide) ?_
      rw [ft_1 t ht k hk]
      refine g_icmpN_ne (tgt := 25) d_Mod_isThing_18 (by decide) (rfl) (rfl) (by omega) (by decide) (fun q => ?_) (fun q => ?_)
      · exact no fun z => q z.2.2
      · refine g_iconst (v := nI 1) d_Mod_isThing_21 (by decide) ?_
        refine g_goto (tgt := 26) d_Mod_isThing_22 (by decide) ?_
        rw [decide_eq_true ⟨q0, nI_lt hk (by decide), q⟩]
        exact g_ret_i d_Mod_isThing_26 rfl rfl ⟨rfl, rfl⟩
theorem l_Mod_atomOf {t p x y n : Nat} (hm : gMb h Y F cd ty td nc nt th kk (nI t) AA) {w : Nat → Int32} (hw : wok w) (hf : ∀ i, i < 4 → F 13 i = w i) (hp : p < 4) {Q : Outcome → gH → Prop}
    (kq : Go K M_Mod_atomOf r_Mod_atomOf 82 [(0, .ref (Y 0)), (1, .int (nI p)), (2, .int (nI x)), (3, .int (nI y)), (4, .int (nI n)), (5, .int (nI (fat n w p))), (6, .int (nI p))] [] h 0 0 Q) : ∀ (r i : Nat), i + r = p → Go K M_Mod_atomOf r_Mod_atomOf 15 [(0, .ref (Y 0)), (1, .int (nI p)), (2, .int (nI x)), (3, .int (nI y)), (4, .int (nI n)), (5, .int (nI (fat n w i))), (6, .int (nI i))] [] h 0 0 Q := by
  intro r
  induction r with
  | zero =>
    intro i hi
    have e : i = p := by omega
    subst e
    refine g_iload d_Mod_atomOf_15 rfl ?_
    refine g_iload_n d_Mod_atomOf_17 rfl ?_
    refine g_icmpN_ge (tgt := 82) d_Mod_atomOf_18 (by decide) (rfl) (rfl) (by omega) (by omega) (fun q => ?_) (fun q => ?_)
    · exact kq
    · omega
  | succ r ih =>
    intro i hi
    have hx := cnt_x (n := n) (hw i (by omega))
    have fin : ∀ m : Nat, m = cnt n (w i) → Go K M_Mod_atomOf r_Mod_atomOf 73 [(0, .ref (Y 0)), (1, .int (nI p)), (2, .int (nI x)), (3, .int (nI y)), (4, .int (nI n)), (5, .int (nI (fat n w i))), (6, .int (nI i))] [.int (nI m), .int (nI (fat n w i))] h 0 0 Q := by
      rintro m rfl
      refine g_iadd d_Mod_atomOf_73 ?_
      rw [nI_add]
      refine g_istore d_Mod_atomOf_74 (Nat.le_of_ble_eq_true rfl) rfl ?_
      refine g_iinc d_Mod_atomOf_76 rfl (nI_inc _) (Nat.le_of_ble_eq_true rfl) rfl ?_
      refine g_goto (tgt := 15) d_Mod_atomOf_79 (by decide) ?_
      exact ih (i + 1) (by omega)
    refine g_iload d_Mod_atomOf_15 rfl ?_
    refine g_iload_n d_Mod_atomOf_17 rfl ?_
    refine g_icmpN_ge (tgt := 82) d_Mod_atomOf_18 (by decide) (rfl) (rfl) (by omega) (by omega) (fun q => ?_) (fun q => ?_)
    · omega
    · refine g_aload_n d_Mod_atomOf_21 rfl ?_
      refine g_get d_Mod_atomOf_22 f_Mod_51 (hm.2) rfl ?_
      refine g_iload d_Mod_atomOf_25 rfl ?_
      refine g_iald d_Mod_atomOf_27 (hm.1.a13) (rfl) (by omega) (by decide) ?_
      rw [hf i (by omega)]
      refine g_if_ge (tgt := 36) d_Mod_atomOf_28 (by decide) (fun q => ?_) (fun q => ?_)
      · refine g_iload d_Mod_atomOf_36 rfl ?_
        refine g_aload_n d_Mod_atomOf_38 rfl ?_
        refine g_get d_Mod_atomOf_39 f_Mod_51 (hm.2) rfl ?_
        refine g_iload d_Mod_atomOf_42 rfl ?_
        refine g_iald d_Mod_atomOf_44 (hm.1.a13) (rfl) (by omega) (by decide) ?_
        rw [hf i (by omega)]
        refine g_if_ne (tgt := 52) d_Mod_atomOf_45 (by decide) (fun q => ?_) (fun q => ?_)
        · refine g_aload_n d_Mod_atomOf_52 rfl ?_
          refine g_get d_Mod_atomOf_53 f_Mod_51 (hm.2) rfl ?_
          refine g_iload d_Mod_atomOf_56 rfl ?_
          refine g_iald d_Mod_atomOf_58 (hm.1.a13) (rfl) (by omega) (by decide) ?_
          refine g_iconst (v := nI 1) d_Mod_atomOf_59 (by decide) ?_
          rw [hf i (by omega)]
          refine g_icmp_ne (tgt := 68) d_Mod_atomOf_60 (by decide) (fun q => ?_) (fun q => ?_)
          · refine g_iload d_Mod_atomOf_68 rfl ?_
            refine g_iload d_Mod_atomOf_70 rfl ?_
            refine g_imul d_Mod_atomOf_72 ?_
            rw [pk_mul]
            exact fin _ (hx.2.2.2 (by assumption) (by assumption) (by assumption)).symm
          · refine g_iload d_Mod_atomOf_63 rfl ?_
            refine g_goto (tgt := 73) d_Mod_atomOf_65 (by decide) ?_
            exact fin _ (hx.2.2.1 (by assumption)).symm
        · refine g_iconst (v := nI 1) d_Mod_atomOf_48 (by decide) ?_
          refine g_goto (tgt := 73) d_Mod_atomOf_49 (by decide) ?_
          exact fin _ (hx.2.1 (by assumption)).symm
      · have e := hx.1 (Int32.not_le.mp q)
        refine g_iload d_Mod_atomOf_31 rfl ?_
        refine g_goto (tgt := 74) d_Mod_atomOf_33 (by decide) ?_
        refine g_istore d_Mod_atomOf_74 (Nat.le_of_ble_eq_true rfl) rfl ?_
        refine g_iinc d_Mod_atomOf_76 rfl (nI_inc _) (Nat.le_of_ble_eq_true rfl) rfl ?_
        refine g_goto (tgt := 15) d_Mod_atomOf_79 (by decide) ?_
        have e2 : fat n w i = fat n w (i + 1) := by
          show _ = fat n w i + cnt n (w i)
          rw [e]
          rfl
        rw [e2]
        exact ih (i + 1) (by omega)
theorem pc3_8 : ∀ t, t < 8 → ∀ x, x < 3 → pc3 (t % 2 ^ x) ≤ 3 := fun t _ x _ => pc3_le _
/-- the number of an atom, by its things -/
def mat (c : Nat) (w : Nat → Int32) (p x y : Nat) : Nat := if w p = 0 then fat (tcn c) w p else if w p = 1 then fat (tcn c) w p + rnk c x else fat (tcn c) w p + tcn c * rnk c x + rnk c y
theorem c_Mod_atomOf (hst : K.1.stackTraces = false) {c p x y : Nat} (hm : gMb h Y F cd ty td nc nt th kk (nI (thg c)) AA) (hc : c < 8) {w : Nat → Int32} (hw : wok w) (hf : ∀ i, i < 4 → F 13 i = w i) (hp : p < 4) (hx : x < 3) (hy : y < 3) : Ct K r_Mod_atomOf M_Mod_atomOf [.ref (Y 0), .int (nI p), .int (nI x), .int (nI y)] h (gRt (some (.int (nI (mat c w p x y)))) h) := by
  have ht := thg_lt hc
  have e1 := ft_2 (thg c) ht x hx
  have e2 := ft_2 (thg c) ht y hy
  refine Ct.of hst (by decide) (Or.inl rfl) (Nat.le_of_ble_eq_true rfl) ?_
  refine g_aload_n d_Mod_atomOf_0 rfl ?_
  refine g_get d_Mod_atomOf_1 f_Mod_98 (hm.2) rfl ?_
  refine g_callR (c_Mod_bits hst ht) gm_Mod_bits d_Mod_atomOf_4 (gInv_s (As := [.int (nI (thg c))]) (rest := []) d_Mod_atomOf_4 gm_Mod_bits gs_Mod_71) (Nat.le_of_ble_eq_true rfl) (Nat.le_of_ble_eq_true rfl) (Nat.le_of_ble_eq_true rfl) (Nat.le_of_ble_eq_true rfl) (Nat.le_of_ble_eq_true rfl) ?_
  rw [(pc3_tcn c hc).2.2.1]
  refine g_istore d_Mod_atomOf_7 (Nat.le_of_ble_eq_true rfl) rfl ?_
  refine g_iconst (v := nI 0) d_Mod_atomOf_9 (by decide) ?_
  refine g_istore d_Mod_atomOf_10 (Nat.le_of_ble_eq_true rfl) rfl ?_
  refine g_iconst (v := nI 0) d_Mod_atomOf_12 (by decide) ?_
  refine g_istore d_Mod_atomOf_13 (Nat.le_of_ble_eq_true rfl) rfl ?_
  refine l_Mod_atomOf hm hw hf hp ?_ p 0 (by omega)
  refine g_aload_n d_Mod_atomOf_82 rfl ?_
  refine g_get d_Mod_atomOf_83 f_Mod_98 (hm.2) rfl ?_
  refine g_iconst (v := nI 1) d_Mod_atomOf_86 (by decide) ?_
  refine g_iload_n d_Mod_atomOf_87 rfl ?_
  refine g_ishl d_Mod_atomOf_88 ?_
  refine g_iconst (v := nI 1) d_Mod_atomOf_89 (by decide) ?_
  refine g_isub d_Mod_atomOf_90 ?_
  refine g_iand d_Mod_atomOf_91 ?_
  rw [e1.1]
  refine g_callR (c_Mod_bits hst e1.2) gm_Mod_bits d_Mod_atomOf_92 (gInv_s (As := [.int (nI (thg c % 2 ^ x))]) (rest := []) d_Mod_atomOf_92 gm_Mod_bits gs_Mod_71) (Nat.le_of_ble_eq_true rfl) (Nat.le_of_ble_eq_true rfl) (Nat.le_of_ble_eq_true rfl) (Nat.le_of_ble_eq_true rfl) (Nat.le_of_ble_eq_true rfl) ?_
  refine g_istore d_Mod_atomOf_95 (Nat.le_of_ble_eq_true rfl) rfl ?_
  refine g_aload_n d_Mod_atomOf_97 rfl ?_
  refine g_get d_Mod_atomOf_98 f_Mod_98 (hm.2) rfl ?_
  refine g_iconst (v := nI 1) d_Mod_atomOf_101 (by decide) ?_
  refine g_iload_n d_Mod_atomOf_102 rfl ?_
  refine g_ishl d_Mod_atomOf_103 ?_
  refine g_iconst (v := nI 1) d_Mod_atomOf_104 (by decide) ?_
  refine g_isub d_Mod_atomOf_105 ?_
  refine g_iand d_Mod_atomOf_106 ?_
  rw [e2.1]
  refine g_callR (c_Mod_bits hst e2.2) gm_Mod_bits d_Mod_atomOf_107 (gInv_s (As := [.int (nI (thg c % 2 ^ y))]) (rest := []) d_Mod_atomOf_107 gm_Mod_bits gs_Mod_71) (Nat.le_of_ble_eq_true rfl) (Nat.le_of_ble_eq_true rfl) (Nat.le_of_ble_eq_true rfl) (Nat.le_of_ble_eq_true rfl) (Nat.le_of_ble_eq_true rfl) ?_
  refine g_istore d_Mod_atomOf_110 (Nat.le_of_ble_eq_true rfl) rfl ?_
  refine g_aload_n d_Mod_atomOf_112 rfl ?_
  refine g_get d_Mod_atomOf_113 f_Mod_51 (hm.2) rfl ?_
  refine g_iload_n d_Mod_atomOf_116 rfl ?_
  refine g_iald d_Mod_atomOf_117 (hm.1.a13) (rfl) (hp) (by decide) ?_
  rw [hf p hp]
  unfold mat
  refine g_if_ne (tgt := 126) d_Mod_atomOf_118 (by decide) (fun q => ?_) (fun q => ?_)
  · have q0 := q
    rw [if_neg q]
    refine g_aload_n d_Mod_atomOf_126 rfl ?_
    refine g_get d_Mod_atomOf_127 f_Mod_51 (hm.2) rfl ?_
    refine g_iload_n d_Mod_atomOf_130 rfl ?_
    refine g_iald d_Mod_atomOf_131 (hm.1.a13) (rfl) (hp) (by decide) ?_
    refine g_iconst (v := nI 1) d_Mod_atomOf_132 (by decide) ?_
    rw [hf p hp]
    refine g_icmp_ne (tgt := 144) d_Mod_atomOf_133 (by decide) (fun q => ?_) (fun q => ?_)
    · rw [if_neg (show ¬ w p = 1 from q)]
      refine g_iload d_Mod_atomOf_144 rfl ?_
      refine g_iload d_Mod_atomOf_146 rfl ?_
      refine g_iload d_Mod_atomOf_148 rfl ?_
      refine g_imul d_Mod_atomOf_150 ?_
      refine g_iadd d_Mod_atomOf_151 ?_
      refine g_iload d_Mod_atomOf_152 rfl ?_
      refine g_iadd d_Mod_atomOf_154 ?_
      rw [pk_mul, nI_add, nI_add]
      exact g_ret_i d_Mod_atomOf_155 rfl rfl ⟨rfl, rfl⟩
    · rw [if_pos (show w p = 1 from q)]
      refine g_iload d_Mod_atomOf_136 rfl ?_
      refine g_iload d_Mod_atomOf_138 rfl ?_
      refine g_iadd d_Mod_atomOf_140 ?_
      refine g_goto (tgt := 155) d_Mod_atomOf_141 (by decide) ?_
      rw [nI_add]
      exact g_ret_i d_Mod_atomOf_155 rfl rfl ⟨rfl, rfl⟩
  · rw [if_pos q]
    refine g_iload d_Mod_atomOf_121 rfl ?_
    refine g_goto (tgt := 155) d_Mod_atomOf_123 (by decide) ?_
    exact g_ret_i d_Mod_atomOf_155 rfl rfl ⟨rfl, rfl⟩
/-- three things packed in one number -/
def gvn (x y z : Nat) : Nat := x + y * 16 + z * 256
def mvl (x y z a : Nat) : Nat := if a < 3 then a else if a = 3 then x else if a = 4 then y else z
theorem mv_3 : ∀ x, x < 3 → ∀ y, y < 3 → ∀ z, z < 3 → ∀ a, a < 6 → ¬ a < 3 → (nI (gvn x y z) >>> ((nI 4 * (nI a - nI 3)) &&& 31)) &&& nI 15 = nI (mvl x y z a) := by decide +kernel
theorem c_Mod_valueOf (hst : K.1.stackTraces = false) {a x y z : Nat} (ha : a < 6) (hx : x < 3) (hy : y < 3) (hz : z < 3) : Ct K r_Mod_valueOf M_Mod_valueOf [.int (nI a), .int (nI (gvn x y z))] h (gRt (some (.int (nI (mvl x y z a)))) h) := by
  refine Ct.of hst (by decide) (Or.inl rfl) (Nat.le_of_ble_eq_true rfl) ?_
  refine g_iload_n d_Mod_valueOf_0 rfl ?_
  refine g_iconst (v := nI 3) d_Mod_valueOf_1 (by decide) ?_
  refine g_icmpN_ge (tgt := 9) d_Mod_valueOf_2 (by decide) (rfl) (rfl) (by omega) (by decide) (fun q => ?_) (fun q => ?_)
  · refine g_iload_n d_Mod_valueOf_9 rfl ?_
    refine g_iconst (v := nI 4) d_Mod_valueOf_10 (by decide) ?_
    refine g_iload_n d_Mod_valueOf_11 rfl ?_
    refine g_iconst (v := nI 3) d_Mod_valueOf_12 (by decide) ?_
    refine g_isub d_Mod_valueOf_13 ?_
    refine g_imul d_Mod_valueOf_14 ?_
    refine g_ishr d_Mod_valueOf_15 ?_
    refine g_bipush (v := nI 15) d_Mod_valueOf_16 (by decide) ?_
    refine g_iand d_Mod_valueOf_18 ?_
    rw [mv_3 x hx y hy z hz a ha (by omega)]
    exact g_ret_i d_Mod_valueOf_19 rfl rfl ⟨rfl, rfl⟩
  · refine g_iload_n d_Mod_valueOf_5 rfl ?_
    refine g_goto (tgt := 19) d_Mod_valueOf_6 (by decide) ?_
    unfold mvl
    rw [if_pos q]
    exact g_ret_i d_Mod_valueOf_19 rfl rfl ⟨rfl, rfl⟩
theorem c_Mod_every (hst : K.1.stackTraces = false) {k : Nat} (hm : gMb h Y F cd ty td nc nt th (nI k) tg AA) (hk : k ≤ 12) : Ct K r_Mod_every M_Mod_every [.ref (Y 0)] h (gRt (some (.int (nI (2 ^ k - 1)))) h) := by
  refine Ct.of hst (by decide) (Or.inl rfl) (Nat.le_of_ble_eq_true rfl) ?_
  refine g_iconst (v := nI 1) d_Mod_every_0 (by decide) ?_
  refine g_aload_n d_Mod_every_1 rfl ?_
  refine g_get d_Mod_every_2 f_Mod_105 (hm.2) rfl ?_
  refine g_ishl d_Mod_every_5 ?_
  refine g_iconst (v := nI 1) d_Mod_every_6 (by decide) ?_
  refine g_isub d_Mod_every_7 ?_
  rw [nI_shl1 (by omega), pk_sub (Nat.one_le_two_pow)]
  exact g_ret_i d_Mod_every_8 rfl rfl ⟨rfl, rfl⟩
theorem c_Mod_isClause (hst : K.1.stackTraces = false) {k : Nat} (hm : gMb h Y F cd ty td nc nt th (nI k) tg AA) (x : Int32) : Ct K r_Mod_isClause M_Mod_isClause [.ref (Y 0), .int x] h (gRt (some (.int (bI (decide (¬ x < 0 ∧ x < nI k))))) h) := by
  refine Ct.of hst (by decide) (Or.inl rfl) (Nat.le_of_ble_eq_true rfl) ?_
  refine g_iload_n d_Mod_isClause_0 rfl ?_
  refine g_if_lt (tgt := 16) d_Mod_isClause_1 (by decide) (fun q => ?_) (fun q => ?_)
  · refine g_iconst (v := nI 0) d_Mod_isClause_16 (by decide) ?_
    rw [decide_eq_false fun z => z.1 q]
    exact g_ret_i d_Mod_isClause_17 rfl rfl ⟨rfl, rfl⟩
  · refine g_iload_n d_Mod_isClause_4 rfl ?_
    refine g_aload_n d_Mod_isClause_5 rfl ?_
    refine g_get d_Mod_isClause_6 f_Mod_105 (hm.2) rfl ?_
    have q0 := q
    refine g_icmp_ge (tgt := 16) d_Mod_isClause_9 (by decide) (fun q => ?_) (fun q => ?_)
    · refine g_iconst (v := nI 0) d_Mod_isClause_16 (by decide) ?_
      rw [decide_eq_false fun z => absurd z.2 (Int32.not_lt.mpr q)]
      exact g_ret_i d_Mod_isClause_17 rfl rfl ⟨rfl, rfl⟩
    · refine g_iconst (v := nI 1) d_Mod_isClause_12 (by decide) ?_
      refine g_goto (tgt := 17) d_Mod_isClause_13 (by decide) ?_
      rw [decide_eq_true ⟨q0, Int32.not_le.mp q⟩]
      exact g_ret_i d_Mod_isClause_17 rfl rfl ⟨rfl, rfl⟩
theorem c_Mod_thrown (hst : K.1.stackTraces = false) (hm : gMb h Y F cd ty td nc nt th kk tg AA) : Ct K r_Mod_thrown M_Mod_thrown [.ref (Y 0)] h (gRt (some (.int cd)) h) := by
  refine Ct.of hst (by decide) (Or.inl rfl) (Nat.le_of_ble_eq_true rfl) ?_
  refine g_aload_n d_Mod_thrown_0 rfl ?_
  refine g_get d_Mod_thrown_1 f_Mod_63 (hm.2) rfl ?_
  exact g_ret_i d_Mod_thrown_4 rfl rfl ⟨rfl, rfl⟩
/-- a table satisfies an instance -/
def rgt (e t : Nat) : Bool := decide (e % 4096 &&& t ≠ 0) || decide (e / 4096 &&& (4095 - t) ≠ 0)
theorem nI_not {t : Nat} (ht : t < 4096) {g : Nat} (hg : g < 4096) : nI g &&& (nI t ^^^ (-1)) = nI (g &&& (4095 - t)) := by
  refine b_ext fun i hi => ?_
  have hn : ∀ {m : Nat}, m < 4096 → bt (nI m) i = m.testBit i := fun {m} hm => by
    unfold bt nI
    show (BitVec.ofNat 32 m).getLsbD i = _
    rw [BitVec.getLsbD_ofNat]
    simp [hi]
  have h1 : (4095 - t).testBit i = (decide (i < 12) && !t.testBit i) := by
    have := Nat.testBit_two_pow_sub_succ (n := 12) ht i
    rw [show 2 ^ 12 - (t + 1) = 4095 - t by omega] at this
    exact this
  have hlt : g &&& (4095 - t) < 4096 := Nat.lt_of_le_of_lt Nat.and_le_left hg
  rw [b_and, b_xor, b_m1 i hi, hn hg, hn ht, hn hlt, Nat.testBit_and, h1]
  by_cases h12 : i < 12
  · simp [h12]
  · have : g.testBit i = false := Nat.testBit_lt_two_pow (Nat.lt_of_lt_of_le hg (Nat.pow_le_pow_right (n := 2) (i := 12) (by decide) (by omega)))
    simp [this]
theorem c_Mod_isRight (hst : K.1.stackTraces = false) {e t : Nat} (he : e < 16777216) (ht : t < 4096) : Ct K r_Mod_isRight M_Mod_isRight [.int (nI e), .int (nI t)] h (gRt (some (.int (bI (rgt e t)))) h) := by
  refine Ct.of hst (by decide) (Or.inl rfl) (Nat.le_of_ble_eq_true rfl) ?_
  have a1 : e % 4096 < 4096 := Nat.mod_lt _ (by decide)
  have a2 : e / 4096 < 4096 := by omega
  have l1 : e % 4096 &&& t < 2 ^ 31 := Nat.lt_of_le_of_lt Nat.and_le_left (by omega)
  have l2 : e / 4096 &&& (4095 - t) < 2 ^ 31 := Nat.lt_of_le_of_lt Nat.and_le_left (by omega)
  unfold rgt
  refine g_iload_n d_Mod_isRight_0 rfl ?_
  refine g_sipush (v := nI 4095) d_Mod_isRight_1 (by decide) ?_
  refine g_iand d_Mod_isRight_4 ?_
  refine g_iload_n d_Mod_isRight_5 rfl ?_
  refine g_iand d_Mod_isRight_6 ?_
  rw [pk_andN (n := e) (by omega) (m := nI 4095) 12 (by decide), nI_and2]
  refine g_if_ne (tgt := 22) d_Mod_isRight_7 (by decide) (fun q => ?_) (fun q => ?_)
  · refine g_iconst (v := nI 1) d_Mod_isRight_22 (by decide) ?_
    refine g_goto (tgt := 27) d_Mod_isRight_23 (by decide) ?_
    rw [decide_eq_true (show e % 4096 &&& t ≠ 0 from fun z => q ((nI_z l1).mpr z)), Bool.true_or]
    exact g_ret_i d_Mod_isRight_27 rfl rfl ⟨rfl, rfl⟩
  · rw [decide_eq_false (show ¬ e % 4096 &&& t ≠ 0 from fun z => z ((nI_z l1).mp q)), Bool.false_or]
    refine g_iload_n d_Mod_isRight_10 rfl ?_
    refine g_sipush (v := nI 4096) d_Mod_isRight_11 (by decide) ?_
    refine g_idiv d_Mod_isRight_14 (by decide) ?_
    refine g_iload_n d_Mod_isRight_15 rfl ?_
    refine g_iconst (v := -1) d_Mod_isRight_16 (by decide) ?_
    refine g_ixor d_Mod_isRight_17 ?_
    refine g_iand d_Mod_isRight_18 ?_
    rw [pk_div (by omega) (by decide) (by decide), nI_not ht a2]
    refine g_if_eq (tgt := 26) d_Mod_isRight_19 (by decide) (fun q => ?_) (fun q => ?_)
    · refine g_iconst (v := nI 0) d_Mod_isRight_26 (by decide) ?_
      rw [decide_eq_false (show ¬ e / 4096 &&& (4095 - t) ≠ 0 from fun z => z ((nI_z l2).mp q))]
      exact g_ret_i d_Mod_isRight_27 rfl rfl ⟨rfl, rfl⟩
    · refine g_iconst (v := nI 1) d_Mod_isRight_22 (by decide) ?_
      refine g_goto (tgt := 27) d_Mod_isRight_23 (by decide) ?_
      rw [decide_eq_true (show e / 4096 &&& (4095 - t) ≠ 0 from fun z => q ((nI_z l2).mpr z))]
      exact g_ret_i d_Mod_isRight_27 rfl rfl ⟨rfl, rfl⟩
/-- the instances of clause u, in the order in which they were found -/
def mls (F : Nat → Nat → Int32) (u : Nat) (l : List Nat) : Prop := F 15 u = nI l.length ∧ l.length ≤ 27 ∧ (∀ i, i < l.length → F 14 (27 * u + i) = nI (l.getD i 0)) ∧ ∀ e ∈ l, e < 16777216
theorem mls.lt {u : Nat} {l : List Nat} (hl : mls F u l) (i : Nat) : l.getD i 0 < 16777216 := by
  by_cases hp : i < l.length
  · rw [List.getD_eq_getElem?_getD, List.getElem?_eq_getElem hp]
    exact hl.2.2.2 _ (List.getElem_mem hp)
  · rw [List.getD_eq_getElem?_getD, List.getElem?_eq_none (by omega)]
    decide
theorem mem_take_s {l : List Nat} {i e : Nat} (hi : i < l.length) : e ∈ l.take (i + 1) ↔ e ∈ l.take i ∨ l.getD i 0 = e := by
  have e1 : l.take (i + 1) = l.take i ++ [l[i]] := by
    rw [List.take_add_one, List.getElem?_eq_getElem hi]
    rfl
  rw [List.getD_eq_getElem?_getD, List.getElem?_eq_getElem hi, Option.getD_some, e1, List.mem_append, List.mem_singleton]
  exact or_congr Iff.rfl eq_comm
theorem l_Mod_has (hm : gMb h Y F cd ty td nc nt th kk tg AA) {u e : Nat} {l : List Nat} (hu : u < 12) (he : e < 16777216) (hl : mls F u l) : ∀ (r i : Nat), i + r = l.length → Go K M_Mod_has r_Mod_has 5 [(0, .ref (Y 0)), (1, .int (nI u)), (2, .int (nI e)), (3, .int (bI (decide (e ∈ l.take i)))), (4, .int (nI i))] [] h 0 0 (gRt (some (.int (bI (decide (e ∈ l))))) h) := by
  obtain ⟨l1, l2, l3, l4⟩ := id hl
  intro r
  induction r with
  | zero =>
    intro i hi
    refine g_iload d_Mod_has_5 rfl ?_
    refine g_aload_n d_Mod_has_7 rfl ?_
    refine g_get d_Mod_has_8 f_Mod_57 (hm.2) rfl ?_
    refine g_iload_n d_Mod_has_11 rfl ?_
    refine g_iald d_Mod_has_12 (hm.1.a15) (rfl) (hu) (by decide) ?_
    rw [l1]
    refine g_icmpN_ge (tgt := 48) d_Mod_has_13 (by decide) (rfl) (rfl) (by omega) (by omega) (fun q => ?_) (fun q => ?_)
    · refine g_iload_n d_Mod_has_48 rfl ?_
      rw [List.take_of_length_le (by omega)]
      exact g_ret_i d_Mod_has_49 rfl (bI_n _) ⟨rfl, rfl⟩
    · omega
  | succ r ih =>
    intro i hi
    have hlt := hl.lt i
    have fin : ∀ b : Bool, b = decide (e ∈ l.take (i + 1)) → Go K M_Mod_has r_Mod_has 41 [(0, .ref (Y 0)), (1, .int (nI u)), (2, .int (nI e)), (3, .int (bI (decide (e ∈ l.take i)))), (4, .int (nI i))] [.int (bI b)] h 0 0 (gRt (some (.int (bI (decide (e ∈ l))))) h) := by
      rintro b rfl
      refine g_istore_n d_Mod_has_41 rfl (Nat.le_of_ble_eq_true rfl) rfl ?_
      refine g_iinc d_Mod_has_42 rfl (nI_inc _) (Nat.le_of_ble_eq_true rfl) rfl ?_
      refine g_goto (tgt := 5) d_Mod_has_45 (by decide) ?_
      exact ih (i + 1) (by omega)
    refine g_iload d_Mod_has_5 rfl ?_
    refine g_aload_n d_Mod_has_7 rfl ?_
    refine g_get d_Mod_has_8 f_Mod_57 (hm.2) rfl ?_
    refine g_iload_n d_Mod_has_11 rfl ?_
    refine g_iald d_Mod_has_12 (hm.1.a15) (rfl) (hu) (by decide) ?_
    rw [l1]
    refine g_icmpN_ge (tgt := 48) d_Mod_has_13 (by decide) (rfl) (rfl) (by omega) (by omega) (fun q => ?_) (fun q => ?_)
    · omega
    · have qi := q
      refine g_iload_n d_Mod_has_16 rfl ?_
      refine g_if_ne (tgt := 36) d_Mod_has_17 (by decide) (fun q => ?_) (fun q => ?_)
      · refine g_iconst (v := nI 1) d_Mod_has_36 (by decide) ?_
        refine g_goto (tgt := 41) d_Mod_has_37 (by decide) ?_
        refine fin true (decide_eq_true ((mem_take_s qi).mpr (Or.inl ?_))).symm
        exact Classical.byContradiction fun z => q ((bI_z _).mpr (decide_eq_false z))
      · have q0 : ¬ e ∈ l.take i := of_decide_eq_false ((bI_z _).mp q)
        refine g_aload_n d_Mod_has_20 rfl ?_
        refine g_get d_Mod_has_21 f_Mod_54 (hm.2) rfl ?_
        refine g_bipush (v := nI 27) d_Mod_has_24 (by decide) ?_
        refine g_iload_n d_Mod_has_26 rfl ?_
        refine g_imul d_Mod_has_27 ?_
        refine g_iload d_Mod_has_28 rfl ?_
        refine g_iadd d_Mod_has_30 ?_
        refine g_iald d_Mod_has_31 (hm.1.a14) (by rw [pk_mul, nI_add]) (by omega) (by decide) ?_
        refine g_iload_n d_Mod_has_32 rfl ?_
        rw [l3 i qi]
        refine g_icmpN_ne (tgt := 40) d_Mod_has_33 (by decide) (rfl) (rfl) (by omega) (by omega) (fun q => ?_) (fun q => ?_)
        · refine g_iconst (v := nI 0) d_Mod_has_40 (by decide) ?_
          exact fin false (decide_eq_false fun z => ((mem_take_s qi).mp z).elim q0 q).symm
        · refine g_iconst (v := nI 1) d_Mod_has_36 (by decide) ?_
          refine g_goto (tgt := 41) d_Mod_has_37 (by decide) ?_
          exact fin true (decide_eq_true ((mem_take_s qi).mpr (Or.inr q))).symm
theorem c_Mod_has (hst : K.1.stackTraces = false) (hm : gMb h Y F cd ty td nc nt th kk tg AA) {u e : Nat} {l : List Nat} (hu : u < 12) (he : e < 16777216) (hl : mls F u l) : Ct K r_Mod_has M_Mod_has [.ref (Y 0), .int (nI u), .int (nI e)] h (gRt (some (.int (bI (decide (e ∈ l))))) h) := by
  refine Ct.of hst (by decide) (Or.inl rfl) (Nat.le_of_ble_eq_true rfl) ?_
  refine g_iconst (v := nI 0) d_Mod_has_0 (by decide) ?_
  refine g_istore_n d_Mod_has_1 rfl (Nat.le_of_ble_eq_true rfl) rfl ?_
  refine g_iconst (v := nI 0) d_Mod_has_2 (by decide) ?_
  refine g_istore d_Mod_has_3 (Nat.le_of_ble_eq_true rfl) rfl ?_
  exact l_Mod_has hm hu he hl l.length 0 (by omega)
end MODEL3
