/-! ===== TableSet: has, first, last, hasTableWith, trueAtoms, size ===== -/
theorem lg_z (x : Int64) : lg_cmp x 0 = 0 ↔ x = 0 := by
  unfold lg_cmp
  by_cases h1 : x > 0
  · rw [if_pos h1]
    constructor
    · intro h; exact absurd h (by decide)
    · intro h; rw [h] at h1; exact absurd h1 (by decide)
  · rw [if_neg h1]
    by_cases h2 : x = 0
    · rw [if_pos h2]
      simp [h2]
    · rw [if_neg h2]
      constructor
      · intro h; exact absurd h (by decide)
      · intro h; exact absurd h h2
theorem sh_63 {n : Nat} (hn : n < 2 ^ 31) : ((nI n).toInt64.toUInt64 &&& Int64.toUInt64 63).toNat = n % 64 := by
  rw [nI_l hn]
  show ((BitVec.ofNat 64 n) &&& (63 : BitVec 64)).toNat = n % 64
  rw [BitVec.toNat_and, BitVec.toNat_ofNat, Nat.mod_eq_of_lt (by omega)]
  exact Nat.and_two_pow_sub_one_eq_mod n 6
theorem c_Tab_has {K : gK} {h : gH} (hst : K.1.stackTraces = false) {a wa A n : Nat} {f : Nat → Int64} (hv : gTb h a wa A f) (hn : n < 4096) : Ct K r_Tab_has M_Tab_has [.ref a, .int (nI n)] h (gRt (some (.int (bI (tbs f n)))) h) := by
  refine Ct.of hst (by decide) (Or.inl rfl) (Nat.le_of_ble_eq_true rfl) ?_
  refine g_aload_n d_Tab_has_0 rfl ?_
  refine g_get d_Tab_has_1 f_Tab_9 (hv.2.1) rfl ?_
  refine g_iload_n d_Tab_has_4 rfl ?_
  refine g_bipush (v := nI 6) d_Tab_has_5 (by decide) ?_
  refine g_ishr d_Tab_has_7 ?_
  rw [nI_shr (by omega) (by decide)]
  have hj : n / 2 ^ 6 < 64 := by omega
  refine g_lald d_Tab_has_8 (hv.2.2) (rfl) (hj) (by decide) ?_
  refine g_iload_n d_Tab_has_9 rfl ?_
  refine g_lushr d_Tab_has_10 ?_
  refine g_lconstV (v := 1) d_Tab_has_11 (by decide) ?_
  refine g_land d_Tab_has_12 ?_
  refine g_lconstV (v := 0) d_Tab_has_13 (by decide) ?_
  refine g_lcmp d_Tab_has_14 ?_
  have hb := ts_bit (w := f (n / 2 ^ 6)) (j := n % 64) (Nat.mod_lt _ (by decide)) (sh_63 (n := n) (by omega))
  refine g_if_eq (tgt := 22) d_Tab_has_15 (by decide) (fun q => ?_) (fun q => ?_)
  · have e := hb.mp ((lg_z _).mp q)
    refine g_iconst (v := nI 0) d_Tab_has_22 (by decide) ?_
    refine g_ret_i d_Tab_has_23 rfl rfl ⟨?_, rfl⟩
    have : tbs f n = false := e
    rw [this]
    rfl
  · have e : tbs f n = true := by
      cases hx : tbs f n
      · exact absurd ((lg_z _).mpr (hb.mpr hx)) q
      · rfl
    refine g_iconst (v := nI 1) d_Tab_has_18 (by decide) ?_
    refine g_goto (tgt := 23) d_Tab_has_19 (by decide) ?_
    refine g_ret_i d_Tab_has_23 rfl rfl ⟨?_, rfl⟩
    rw [e]
    rfl
theorem pow_12 {A : Nat} (hA : A ≤ 12) : 2 ^ A ≤ 4096 := Nat.pow_le_pow_right (by decide) hA
theorem l_Tab_first {K : gK} {h : gH} (hst : K.1.stackTraces = false) {a wa A : Nat} {f : Nat → Int64} (hv : gTb h a wa A f) : ∀ (r n : Nat), n + r = 2 ^ A → (∀ m, m < n → tbs f m = false) → Go K M_Tab_first r_Tab_first 2 [(0, .ref a), (1, .int (nI n))] [] h 0 0 (gRx fun v h' => h' = h ∧ ((∃ n, n < 2 ^ A ∧ tbs f n = true ∧ (∀ m, m < n → tbs f m = false) ∧ v = some (.int (nI n))) ∨ ((∀ m, m < 2 ^ A → tbs f m = false) ∧ v = some (.int (-1))))) := by
  have h12 := pow_12 hv.1
  have hA := hv.1
  intro r
  induction r with
  | zero =>
    intro n hn hm
    refine g_iload_n d_Tab_first_2 rfl ?_
    refine g_iconst (v := nI 1) d_Tab_first_3 (by decide) ?_
    refine g_aload_n d_Tab_first_4 rfl ?_
    refine g_get d_Tab_first_5 f_Tab_51 (hv.2.1) rfl ?_
    refine g_ishl d_Tab_first_8 ?_
    rw [nI_shl1 (by omega)]
    refine g_icmpN_ge (tgt := 28) d_Tab_first_9 (by decide) (rfl) (rfl) (by omega) (by omega) (fun q => ?_) (fun q => ?_)
    · refine g_iconst (v := -1) d_Tab_first_28 (by decide) ?_
      exact g_ret_i d_Tab_first_29 rfl rfl ⟨_, rfl, rfl, Or.inr ⟨fun m h => hm m (by omega), rfl⟩⟩
    · omega
  | succ r ih =>
    intro n hn hm
    refine g_iload_n d_Tab_first_2 rfl ?_
    refine g_iconst (v := nI 1) d_Tab_first_3 (by decide) ?_
    refine g_aload_n d_Tab_first_4 rfl ?_
    refine g_get d_Tab_first_5 f_Tab_51 (hv.2.1) rfl ?_
    refine g_ishl d_Tab_first_8 ?_
    rw [nI_shl1 (by omega)]
    refine g_icmpN_ge (tgt := 28) d_Tab_first_9 (by decide) (rfl) (rfl) (by omega) (by omega) (fun q => ?_) (fun q => ?_)
    · omega
    · refine g_aload_n d_Tab_first_12 rfl ?_
      refine g_iload_n d_Tab_first_13 rfl ?_
      refine g_callR (c_Tab_has hst hv (by omega)) gm_Tab_has d_Tab_first_14 (gInv_v (As := [.int (nI n)]) (rest := []) d_Tab_first_14 gm_Tab_has gv_Tab_54 (hv.2.1) rfl) (Nat.le_of_ble_eq_true rfl) (Nat.le_of_ble_eq_true rfl) (Nat.le_of_ble_eq_true rfl) (Nat.le_of_ble_eq_true rfl) (Nat.le_of_ble_eq_true rfl) ?_
      refine g_if_eq (tgt := 22) d_Tab_first_17 (by decide) (fun q => ?_) (fun q => ?_)
      · have e := (bI_z _).mp q
        refine g_iinc d_Tab_first_22 rfl (nI_inc _) (Nat.le_of_ble_eq_true rfl) rfl ?_
        refine g_goto (tgt := 2) d_Tab_first_25 (by decide) ?_
        exact ih (n + 1) (by omega) (fun m hm2 => by
          by_cases e2 : m = n
          · rw [e2]; exact e
          · exact hm m (by omega))
      · have e : tbs f n = true := by
          cases hx : tbs f n
          · exact absurd (by rw [hx]; rfl) q
          · rfl
        refine g_iload_n d_Tab_first_20 rfl ?_
        exact g_ret_i d_Tab_first_21 rfl rfl ⟨_, rfl, rfl, Or.inl ⟨n, by assumption, e, hm, rfl⟩⟩
theorem c_Tab_first {K : gK} {h : gH} (hst : K.1.stackTraces = false) {a wa A : Nat} {f : Nat → Int64} (hv : gTb h a wa A f) : Ct K r_Tab_first M_Tab_first [.ref a] h (gRx fun v h' => h' = h ∧ ((∃ n, n < 2 ^ A ∧ tbs f n = true ∧ (∀ m, m < n → tbs f m = false) ∧ v = some (.int (nI n))) ∨ ((∀ m, m < 2 ^ A → tbs f m = false) ∧ v = some (.int (-1))))) := by
  refine Ct.of hst (by decide) (Or.inl rfl) (Nat.le_of_ble_eq_true rfl) ?_
  refine g_iconst (v := nI 0) d_Tab_first_0 (by decide) ?_
  refine g_istore_n d_Tab_first_1 rfl (Nat.le_of_ble_eq_true rfl) rfl ?_
  exact l_Tab_first hst hv (2 ^ A) 0 (by omega) (fun m hm => absurd hm (Nat.not_lt_zero _))
theorem nI_dec (n : Nat) : nI (n + 1) + Int32.ofInt (-1) = nI n := pk_m1 n
theorem l_Tab_last {K : gK} {h : gH} (hst : K.1.stackTraces = false) {a wa A : Nat} {f : Nat → Int64} (hv : gTb h a wa A f) : ∀ (r : Nat), r ≤ 2 ^ A → (∀ m, r ≤ m → m < 2 ^ A → tbs f m = false) → Go K M_Tab_last r_Tab_last 9 [(0, .ref a), (1, .int (nI r + Int32.ofInt (-1)))] [] h 0 0 (gRx fun v h' => h' = h ∧ ((∃ n, n < 2 ^ A ∧ tbs f n = true ∧ (∀ m, n < m → m < 2 ^ A → tbs f m = false) ∧ v = some (.int (nI n))) ∨ ((∀ m, m < 2 ^ A → tbs f m = false) ∧ v = some (.int (-1))))) := by
  have h12 := pow_12 hv.1
  intro r
  induction r with
  | zero =>
    intro hn hm
    refine g_iload_n d_Tab_last_9 rfl ?_
    refine g_if_lt (tgt := 29) d_Tab_last_10 (by decide) (fun q => ?_) (fun q => ?_)
    · refine g_iconst (v := -1) d_Tab_last_29 (by decide) ?_
      exact g_ret_i d_Tab_last_30 rfl rfl ⟨_, rfl, rfl, Or.inr ⟨fun m h => hm m (Nat.zero_le _) h, rfl⟩⟩
    · exact absurd (by decide) q
  | succ r ih =>
    intro hn hm
    rw [nI_dec]
    refine g_iload_n d_Tab_last_9 rfl ?_
    refine g_if_lt (tgt := 29) d_Tab_last_10 (by decide) (fun q => ?_) (fun q => ?_)
    · exact absurd q (nI_pos (by omega))
    · refine g_aload_n d_Tab_last_13 rfl ?_
      refine g_iload_n d_Tab_last_14 rfl ?_
      refine g_callR (c_Tab_has hst hv (by omega)) gm_Tab_has d_Tab_last_15 (gInv_v (As := [.int (nI r)]) (rest := []) d_Tab_last_15 gm_Tab_has gv_Tab_54 (hv.2.1) rfl) (Nat.le_of_ble_eq_true rfl) (Nat.le_of_ble_eq_true rfl) (Nat.le_of_ble_eq_true rfl) (Nat.le_of_ble_eq_true rfl) (Nat.le_of_ble_eq_true rfl) ?_
      refine g_if_eq (tgt := 23) d_Tab_last_18 (by decide) (fun q => ?_) (fun q => ?_)
      · have e := (bI_z _).mp q
        refine g_iinc d_Tab_last_23 rfl (rfl) (Nat.le_of_ble_eq_true rfl) rfl ?_
        refine g_goto (tgt := 9) d_Tab_last_26 (by decide) ?_
        exact ih (by omega) (fun m h1 h2 => by
          by_cases e2 : m = r
          · rw [e2]; exact e
          · exact hm m (by omega) h2)
      · have e : tbs f r = true := by
          cases hx : tbs f r
          · exact absurd (by rw [hx]; rfl) q
          · rfl
        refine g_iload_n d_Tab_last_21 rfl ?_
        exact g_ret_i d_Tab_last_22 rfl rfl ⟨_, rfl, rfl, Or.inl ⟨r, by omega, e, fun m h1 h2 => hm m (by omega) h2, rfl⟩⟩
theorem c_Tab_last {K : gK} {h : gH} (hst : K.1.stackTraces = false) {a wa A : Nat} {f : Nat → Int64} (hv : gTb h a wa A f) : Ct K r_Tab_last M_Tab_last [.ref a] h (gRx fun v h' => h' = h ∧ ((∃ n, n < 2 ^ A ∧ tbs f n = true ∧ (∀ m, n < m → m < 2 ^ A → tbs f m = false) ∧ v = some (.int (nI n))) ∨ ((∀ m, m < 2 ^ A → tbs f m = false) ∧ v = some (.int (-1))))) := by
  have hA := hv.1
  refine Ct.of hst (by decide) (Or.inl rfl) (Nat.le_of_ble_eq_true rfl) ?_
  refine g_iconst (v := nI 1) d_Tab_last_0 (by decide) ?_
  refine g_aload_n d_Tab_last_1 rfl ?_
  refine g_get d_Tab_last_2 f_Tab_51 (hv.2.1) rfl ?_
  refine g_ishl d_Tab_last_5 ?_
  rw [nI_shl1 (by omega)]
  refine g_iconst (v := nI 1) d_Tab_last_6 (by decide) ?_
  refine g_isub d_Tab_last_7 ?_
  refine g_istore_n d_Tab_last_8 rfl (Nat.le_of_ble_eq_true rfl) rfl ?_
  have e : nI (2 ^ A) - nI 1 = nI (2 ^ A) + Int32.ofInt (-1) := by rw [Int32.sub_eq_add_neg]; rfl
  rw [e]
  exact l_Tab_last hst hv (2 ^ A) (Nat.le_refl _) (fun m h1 h2 => absurd h1 (by omega))
theorem l_Tab_hasWith {K : gK} {h : gH} (hst : K.1.stackTraces = false) {a wa A k : Nat} {f : Nat → Int64} (hv : gTb h a wa A f) (hk : k < A) (b : Bool) : ∀ (r i : Nat), i + r = wcn A → (∀ n, n < 64 * i → ¬ (tbs f n = true ∧ n.testBit (A - 1 - k) = b)) → Go K M_Tab_hasTableWith r_Tab_hasTableWith 2 [(0, .ref a), (1, .int (nI k)), (2, .int (bI b)), (3, .int (nI i))] [] h 0 0 (gRx fun v h' => h' = h ∧ ∃ z : Bool, v = some (.int (bI z)) ∧ (z = true ↔ ∃ n, n < 64 * wcn A ∧ tbs f n = true ∧ n.testBit (A - 1 - k) = b)) := by
  have hle := wcn_le hv.1
  intro r
  induction r with
  | zero =>
    intro i hi hm
    refine g_iload_n d_Tab_hasTableWith_2 rfl ?_
    refine g_aload_n d_Tab_hasTableWith_3 rfl ?_
    refine g_get d_Tab_hasTableWith_4 f_Tab_37 (hv.2.1) rfl ?_
    refine g_icmpN_ge (tgt := 37) d_Tab_hasTableWith_7 (by decide) (rfl) (rfl) (by omega) (by omega) (fun q => ?_) (fun q => ?_)
    · refine g_iconst (v := nI 0) d_Tab_hasTableWith_37 (by decide) ?_
      refine g_ret_i d_Tab_hasTableWith_38 rfl rfl ⟨_, rfl, rfl, false, rfl, ?_⟩
      constructor
      · intro h; cases h
      · rintro ⟨n, h1, h2⟩
        exact absurd h2 (hm n (by omega))
    · omega
  | succ r ih =>
    intro i hi hm
    refine g_iload_n d_Tab_hasTableWith_2 rfl ?_
    refine g_aload_n d_Tab_hasTableWith_3 rfl ?_
    refine g_get d_Tab_hasTableWith_4 f_Tab_37 (hv.2.1) rfl ?_
    refine g_icmpN_ge (tgt := 37) d_Tab_hasTableWith_7 (by decide) (rfl) (rfl) (by omega) (by omega) (fun q => ?_) (fun q => ?_)
    · omega
    · refine g_aload_n d_Tab_hasTableWith_10 rfl ?_
      refine g_get d_Tab_hasTableWith_11 f_Tab_9 (hv.2.1) rfl ?_
      refine g_iload_n d_Tab_hasTableWith_14 rfl ?_
      refine g_lald d_Tab_hasTableWith_15 (hv.2.2) (rfl) (by omega) (by decide) ?_
      refine g_aload_n d_Tab_hasTableWith_16 rfl ?_
      refine g_iload_n d_Tab_hasTableWith_17 rfl ?_
      refine g_iload_n d_Tab_hasTableWith_18 rfl ?_
      refine g_iload_n d_Tab_hasTableWith_19 rfl ?_
      refine g_callX (c_Tab_wordWith hst hv (by omega) hk b) gm_Tab_wordWith d_Tab_hasTableWith_20 (gInv_v (As := [.int (nI i), .int (nI k), .int (bI b)]) (rest := [.long (f i)]) d_Tab_hasTableWith_20 gm_Tab_wordWith gv_Tab_58 (hv.2.1) rfl) (Nat.le_of_ble_eq_true rfl) (Nat.le_of_ble_eq_true rfl) (Nat.le_of_ble_eq_true rfl) (Nat.le_of_ble_eq_true rfl) (Nat.le_of_ble_eq_true rfl) (fun v h1 hp => ?_)
      obtain ⟨rfl, x, rfl, hx⟩ := hp
      refine g_land d_Tab_hasTableWith_23 ?_
      refine g_lconstV (v := 0) d_Tab_hasTableWith_24 (by decide) ?_
      refine g_lcmp d_Tab_hasTableWith_25 ?_
      have hbit : ∀ n, n / 64 = i → (tbs f n = true ∧ n.testBit (A - 1 - k) = b ↔ (f i &&& x).toBitVec.getLsbD (n % 64) = true) := by
        intro n hn
        have e3 : 64 * i + n % 64 = n := by omega
        rw [tbs_and, hx _ (Nat.mod_lt _ (by decide)), e3, ← hn]
        unfold tbs
        simp
      refine g_if_eq (tgt := 31) d_Tab_hasTableWith_26 (by decide) (fun q => ?_) (fun q => ?_)
      · have e := (lg_z _).mp q
        refine g_iinc d_Tab_hasTableWith_31 rfl (nI_inc _) (Nat.le_of_ble_eq_true rfl) rfl ?_
        refine g_goto (tgt := 2) d_Tab_hasTableWith_34 (by decide) ?_
        refine ih (i + 1) (by omega) (fun n hn => ?_)
        by_cases e2 : n / 64 = i
        · intro hh
          have := (hbit n e2).mp hh
          rw [e] at this
          simp at this
        · exact hm n (by omega)
      · refine g_iconst (v := nI 1) d_Tab_hasTableWith_29 (by decide) ?_
        refine g_ret_i d_Tab_hasTableWith_30 rfl rfl ⟨_, rfl, rfl, true, rfl, ?_⟩
        refine ⟨fun _ => ?_, fun _ => rfl⟩
        have hne : f i &&& x ≠ 0 := fun z => q ((lg_z _).mpr z)
        have hex : ∃ j, j < 64 ∧ (f i &&& x).toBitVec.getLsbD j = true := by
          apply Classical.byContradiction
          intro hno
          apply hne
          apply Int64.toBitVec_inj.mp
          apply BitVec.eq_of_getLsbD_eq
          intro j hj
          cases hb : (f i &&& x).toBitVec.getLsbD j
          · simp
          · exact absurd ⟨j, hj, hb⟩ hno
        obtain ⟨j, hj, hb⟩ := hex
        have e1 : (64 * i + j) / 64 = i := by omega
        have e2 : (64 * i + j) % 64 = j := by omega
        have := (hbit (64 * i + j) e1).mpr (by rw [e2]; exact hb)
        exact ⟨64 * i + j, by omega, this⟩
theorem c_Tab_hasWith {K : gK} {h : gH} (hst : K.1.stackTraces = false) {a wa A k : Nat} {f : Nat → Int64} (hv : gTb h a wa A f) (hk : k < A) (b : Bool) : Ct K r_Tab_hasTableWith M_Tab_hasTableWith [.ref a, .int (nI k), .int (bI b)] h (gRx fun v h' => h' = h ∧ ∃ z : Bool, v = some (.int (bI z)) ∧ (z = true ↔ ∃ n, n < 64 * wcn A ∧ tbs f n = true ∧ n.testBit (A - 1 - k) = b)) := by
  refine Ct.of hst (by decide) (Or.inl rfl) (Nat.le_of_ble_eq_true rfl) ?_
  refine g_iconst (v := nI 0) d_Tab_hasTableWith_0 (by decide) ?_
  refine g_istore_n d_Tab_hasTableWith_1 rfl (Nat.le_of_ble_eq_true rfl) rfl ?_
  exact l_Tab_hasWith hst hv hk b (wcn A) 0 (by omega) (fun n hn => by omega)
/-- a table's number turned into the sum of 2^atom, by its first k atoms -/
def rvp (A n : Nat) : Nat → Nat
  | 0 => 0
  | k + 1 => rvp A n k ||| (n / 2 ^ (A - 1 - k) % 2) * 2 ^ k
theorem rvp_lt (A n : Nat) : ∀ k, rvp A n k < 2 ^ k := by
  intro k
  induction k with
  | zero => exact Nat.one_pos
  | succ k ih =>
    unfold rvp
    refine Nat.or_lt_two_pow (Nat.lt_trans ih (Nat.pow_lt_pow_right (by decide) (by omega))) ?_
    have h2 : n / 2 ^ (A - 1 - k) % 2 < 2 := Nat.mod_lt _ (by decide)
    rw [Nat.pow_succ, Nat.mul_comm (2 ^ k)]
    exact Nat.mul_lt_mul_of_pos_right h2 (Nat.two_pow_pos k)
theorem l_Tab_trueAtoms {K : gK} {h : gH} {a wa A n : Nat} {f : Nat → Int64} (hv : gTb h a wa A f) (hn : n < 4096) : ∀ (r k : Nat), k + r = A → Go K M_Tab_trueAtoms r_Tab_trueAtoms 4 [(0, .ref a), (1, .int (nI n)), (2, .int (nI (rvp A n k))), (3, .int (nI k))] [] h 0 0 (gRt (some (.int (nI (rvp A n A)))) h) := by
  have hA := hv.1
  intro r
  induction r with
  | zero =>
    intro k hk
    have e : k = A := by omega
    subst e
    refine g_iload_n d_Tab_trueAtoms_4 rfl ?_
    refine g_aload_n d_Tab_trueAtoms_5 rfl ?_
    refine g_get d_Tab_trueAtoms_6 f_Tab_51 (hv.2.1) rfl ?_
    refine g_icmpN_ge (tgt := 35) d_Tab_trueAtoms_9 (by decide) (rfl) (rfl) (by omega) (by omega) (fun q => ?_) (fun q => ?_)
    · refine g_iload_n d_Tab_trueAtoms_35 rfl ?_
      exact g_ret_i d_Tab_trueAtoms_36 rfl rfl ⟨rfl, rfl⟩
    · omega
  | succ r ih =>
    intro k hk
    have h2 : n / 2 ^ (A - 1 - k) % 2 < 2 := Nat.mod_lt _ (by decide)
    have h3 : 2 ^ k ≤ 4096 := pow_12 (by omega)
    have h4 : (n / 2 ^ (A - 1 - k) % 2) * 2 ^ k ≤ 1 * 2 ^ k := Nat.mul_le_mul_right _ (by omega)
    refine g_iload_n d_Tab_trueAtoms_4 rfl ?_
    refine g_aload_n d_Tab_trueAtoms_5 rfl ?_
    refine g_get d_Tab_trueAtoms_6 f_Tab_51 (hv.2.1) rfl ?_
    refine g_icmpN_ge (tgt := 35) d_Tab_trueAtoms_9 (by decide) (rfl) (rfl) (by omega) (by omega) (fun q => ?_) (fun q => ?_)
    · omega
    · refine g_iload_n d_Tab_trueAtoms_12 rfl ?_
      refine g_iload_n d_Tab_trueAtoms_13 rfl ?_
      refine g_aload_n d_Tab_trueAtoms_14 rfl ?_
      refine g_get d_Tab_trueAtoms_15 f_Tab_51 (hv.2.1) rfl ?_
      refine g_iconst (v := nI 1) d_Tab_trueAtoms_18 (by decide) ?_
      refine g_isub d_Tab_trueAtoms_19 ?_
      refine g_iload_n d_Tab_trueAtoms_20 rfl ?_
      refine g_isub d_Tab_trueAtoms_21 ?_
      refine g_ishr d_Tab_trueAtoms_22 ?_
      refine g_iconst (v := nI 1) d_Tab_trueAtoms_23 (by decide) ?_
      refine g_iand d_Tab_trueAtoms_24 ?_
      rw [pk_sub (by omega), pk_sub (by omega), nI_bit (by omega) (by omega)]
      refine g_iload_n d_Tab_trueAtoms_25 rfl ?_
      refine g_ishl d_Tab_trueAtoms_26 ?_
      refine g_ior d_Tab_trueAtoms_27 ?_
      rw [nI_shl (by omega) (by omega), nI_or]
      refine g_istore_n d_Tab_trueAtoms_28 rfl (Nat.le_of_ble_eq_true rfl) rfl ?_
      refine g_iinc d_Tab_trueAtoms_29 rfl (nI_inc _) (Nat.le_of_ble_eq_true rfl) rfl ?_
      refine g_goto (tgt := 4) d_Tab_trueAtoms_32 (by decide) ?_
      exact ih (k + 1) (by omega)
theorem c_Tab_trueAtoms {K : gK} {h : gH} (hst : K.1.stackTraces = false) {a wa A n : Nat} {f : Nat → Int64} (hv : gTb h a wa A f) (hn : n < 4096) : Ct K r_Tab_trueAtoms M_Tab_trueAtoms [.ref a, .int (nI n)] h (gRt (some (.int (nI (rvp A n A)))) h) := by
  refine Ct.of hst (by decide) (Or.inl rfl) (Nat.le_of_ble_eq_true rfl) ?_
  refine g_iconst (v := nI 0) d_Tab_trueAtoms_0 (by decide) ?_
  refine g_istore_n d_Tab_trueAtoms_1 rfl (Nat.le_of_ble_eq_true rfl) rfl ?_
  refine g_iconst (v := nI 0) d_Tab_trueAtoms_2 (by decide) ?_
  refine g_istore_n d_Tab_trueAtoms_3 rfl (Nat.le_of_ble_eq_true rfl) rfl ?_
  exact l_Tab_trueAtoms hv hn A 0 (by omega)
