/-! ===== TableSet ===== -/
theorem g_lconstV {K : gK} {M : gM} {R : Room} {pc : Nat} {lv : List (Nat × Value)} {st : List Value} {h : gH} {kc ks : Nat} {Q : Outcome → gH → Prop} {n : Fin 2} {v : Int64} (hd : decode M.2.1 pc = .ok (.lconst n, 1)) (hv : Int64.ofNat (n : Nat) = v) (k : Go K M R (pc + 1) lv (.long v :: st) h kc ks Q) : Go K M R pc lv st h kc ks Q := by
  subst hv
  exact g_lconst hd k
/-- how many words hold the tables of A atoms -/
def wcn (A : Nat) : Nat := if A < 6 then 1 else 2 ^ (A - 6)
theorem wcn_le {A : Nat} (hA : A ≤ 12) : wcn A ≤ 64 := by
  unfold wcn
  split
  · decide
  · exact Nat.le_trans (Nat.pow_le_pow_right (by decide) (show A - 6 ≤ 6 by omega)) (by decide)
theorem wcn_pos (A : Nat) : 1 ≤ wcn A := by
  unfold wcn
  split
  · decide
  · exact Nat.one_le_two_pow
theorem wcn_pow {A : Nat} (hA : 6 ≤ A) : 64 * wcn A = 2 ^ A := by
  unfold wcn
  rw [if_neg (by omega), show (64 : Nat) = 2 ^ 6 by decide, ← Nat.pow_add]
  congr 1
  omega
theorem pow_wcn (A : Nat) : 2 ^ A ≤ 64 * wcn A := by
  by_cases h : A < 6
  · unfold wcn
    rw [if_pos h]
    exact Nat.le_trans (Nat.pow_le_pow_right (by decide) (show A ≤ 6 by omega)) (by decide)
  · rw [wcn_pow (by omega)]
    exact Nat.le_refl _
/-- a table set: its object, its words -/
def gTb (h : gH) (a wa A : Nat) (f : Nat → Int64) : Prop := A ≤ 12 ∧ h a = some (.inr (8, [.ref wa, .int (nI (wcn A)), .int (nI A)])) ∧ h wa = some (.inl (1, 64, .inr (.inl f)))
def gTu (h : gH) (a wa : Nat) : Prop := ∃ (v1 v2 : Value) (f : Nat → Int64), h a = some (.inr (8, [.ref wa, v1, v2])) ∧ h wa = some (.inl (1, 64, .inr (.inl f)))
theorem gTb.u {h : gH} {a wa A : Nat} {f : Nat → Int64} (hv : gTb h a wa A f) : gTu h a wa := ⟨_, _, f, hv.2.1, hv.2.2⟩
theorem gTu.ne {h : gH} {a wa : Nat} (hv : gTu h a wa) : a ≠ wa := by
  obtain ⟨v1, v2, f, h1, h2⟩ := hv
  exact gne h1 h2 (by simp)
theorem c_Tab_measure {K : gK} {h : gH} (hst : K.1.stackTraces = false) {a wa A : Nat} {v1 v2 : Value} (h1 : h a = some (.inr (8, [.ref wa, v1, v2]))) (hA : A ≤ 12) : Ct K r_Tab_measure M_Tab_measure [.ref a, .int (nI A)] h (gRt none (gup h a (.inr (8, [.ref wa, .int (nI (wcn A)), .int (nI A)])))) := by
  refine Ct.of hst (by decide) (Or.inl rfl) (Nat.le_of_ble_eq_true rfl) ?_
  unfold wcn
  refine g_aload_n d_Tab_measure_0 rfl ?_
  refine g_iload_n d_Tab_measure_1 rfl ?_
  refine g_put (fs' := [_, _, _]) d_Tab_measure_2 f_Tab_51 (h1) rfl rfl (Nat.le_of_ble_eq_true rfl) rfl ?_
  refine g_aload_n d_Tab_measure_5 rfl ?_
  refine g_iload_n d_Tab_measure_6 rfl ?_
  refine g_bipush (v := nI 6) d_Tab_measure_7 (by decide) ?_
  refine g_icmpN_ge (tgt := 16) d_Tab_measure_9 (by decide) (rfl) (rfl) (by omega) (by decide) (fun q => ?_) (fun q => ?_)
  · rw [if_neg (by omega)]
    refine g_iconst (v := nI 1) d_Tab_measure_16 (by decide) ?_
    refine g_iload_n d_Tab_measure_17 rfl ?_
    refine g_bipush (v := nI 6) d_Tab_measure_18 (by decide) ?_
    refine g_isub d_Tab_measure_20 ?_
    refine g_ishl d_Tab_measure_21 ?_
    rw [pk_sub q, nI_shl1 (by omega)]
    refine g_put (fs' := [_, _, _]) d_Tab_measure_22 f_Tab_37 (gup_s _ _ _) rfl rfl (Nat.le_of_ble_eq_true rfl) rfl ?_
    exact g_ret_v d_Tab_measure_25 rfl ⟨rfl, gup_up _ _ _ _⟩
  · rw [if_pos q]
    refine g_iconst (v := nI 1) d_Tab_measure_12 (by decide) ?_
    refine g_goto (tgt := 22) d_Tab_measure_13 (by decide) ?_
    refine g_put (fs' := [_, _, _]) d_Tab_measure_22 f_Tab_37 (gup_s _ _ _) rfl rfl (Nat.le_of_ble_eq_true rfl) rfl ?_
    exact g_ret_v d_Tab_measure_25 rfl ⟨rfl, gup_up _ _ _ _⟩
/-- all tables of A atoms, in the first word -/
def allw (A : Nat) : Int64 := if A < 6 then (1 <<< ((nI (2 ^ A)).toInt64 &&& 63)) - 1 else -1
theorem allw_bit : ∀ A, A ≤ 12 → ∀ i, i < 64 → (allw A).toBitVec.getLsbD i = decide (6 ≤ A ∨ i < 2 ^ A) := by decide +kernel
theorem c_Tab_fill {K : gK} {h : gH} (hst : K.1.stackTraces = false) {a wa A : Nat} (hv : gTu h a wa) (hA : A ≤ 12) : Ct K r_Tab_fill M_Tab_fill [.ref a, .int (nI A)] h (gRx fun v h' => v = none ∧ ∃ f, gTb h' a wa A f ∧ (∀ j, j < 64 → f j = allw A) ∧ gKp h h' [a, wa]) := by
  have hne := hv.ne
  obtain ⟨v1, v2, f, h1, h2⟩ := hv
  have key : ∀ x : Int64, x = allw A → Go K M_Tab_fill r_Tab_fill 24 [(0, .ref a), (1, .int (nI A))] [.long x] (gup h a (.inr (8, [.ref wa, .int (nI (wcn A)), .int (nI A)]))) 0 0 (gRx fun v h' => v = none ∧ ∃ f, gTb h' a wa A f ∧ (∀ j, j < 64 → f j = allw A) ∧ gKp h h' [a, wa]) := by
    rintro x rfl
    refine g_lstore_n d_Tab_fill_24 rfl (Nat.le_of_ble_eq_true rfl) rfl ?_
    refine g_aload_n d_Tab_fill_25 rfl ?_
    refine g_get d_Tab_fill_26 f_Tab_9 (gup_s _ _ _) rfl ?_
    refine g_lload_n d_Tab_fill_29 rfl ?_
    refine g_callR (c_fillJ hst (by decide) (allw A) ((gup_n (Ne.symm hne)).trans h2)) gm_Arr_fillJ d_Tab_fill_30 (gInv_s (As := [.ref wa, .long (allw A)]) (rest := []) d_Tab_fill_30 gm_Arr_fillJ gs_Tab_21) (Nat.le_of_ble_eq_true rfl) (Nat.le_of_ble_eq_true rfl) (Nat.le_of_ble_eq_true rfl) (Nat.le_of_ble_eq_true rfl) (Nat.le_of_ble_eq_true rfl) ?_
    refine g_ret_v d_Tab_fill_33 rfl ⟨_, rfl, rfl, _, ⟨hA, ?_, gup_s _ _ _⟩, fun j hj => if_pos hj, (gKp.rf.up (by simp)).up (by simp)⟩
    rw [gup_n hne, gup_s]
  refine Ct.of hst (by decide) (Or.inl rfl) (Nat.le_of_ble_eq_true rfl) ?_
  refine g_aload_n d_Tab_fill_0 rfl ?_
  refine g_iload_n d_Tab_fill_1 rfl ?_
  refine g_callR (c_Tab_measure hst h1 hA) gm_Tab_measure d_Tab_fill_2 (gInv_v (As := [.int (nI A)]) (rest := []) d_Tab_fill_2 gm_Tab_measure gv_Tab_15 (h1) rfl) (Nat.le_of_ble_eq_true rfl) (Nat.le_of_ble_eq_true rfl) (Nat.le_of_ble_eq_true rfl) (Nat.le_of_ble_eq_true rfl) (Nat.le_of_ble_eq_true rfl) ?_
  refine g_iload_n d_Tab_fill_5 rfl ?_
  refine g_bipush (v := nI 6) d_Tab_fill_6 (by decide) ?_
  refine g_icmpN_ge (tgt := 21) d_Tab_fill_8 (by decide) (rfl) (rfl) (by omega) (by decide) (fun q => ?_) (fun q => ?_)
  · refine g_ldc2 d_Tab_fill_21 k_Tab_19 ?_
    exact key _ (by unfold allw; rw [if_neg (by omega)])
  · refine g_lconstV (v := 1) d_Tab_fill_11 (by decide) ?_
    refine g_iconst (v := nI 1) d_Tab_fill_12 (by decide) ?_
    refine g_iload_n d_Tab_fill_13 rfl ?_
    refine g_ishl d_Tab_fill_14 ?_
    rw [nI_shl1 (by omega)]
    refine g_lshl d_Tab_fill_15 ?_
    refine g_lconstV (v := 1) d_Tab_fill_16 (by decide) ?_
    refine g_lsub d_Tab_fill_17 ?_
    refine g_goto (tgt := 24) d_Tab_fill_18 (by decide) ?_
    exact key _ (by unfold allw; rw [if_pos q])
theorem l_Tab_keep {K : gK} {a wa b wb A B : Nat} {g : Nat → Int64} (hwb : wb ≠ wa) : ∀ (r i : Nat) (h : gH) (f : Nat → Int64), i + r = wcn A → gTb h a wa A f → gTb h b wb B g → Go K M_Tab_keepCommon r_Tab_keepCommon 2 [(0, .ref a), (1, .ref b), (2, .int (nI i))] [] h 0 0 (gRt none (gup h wa (.inl (1, 64, .inr (.inl (fun j => if i ≤ j ∧ j < wcn A then f j &&& g j else f j)))))) := by
  intro r
  induction r with
  | zero =>
    intro i h f hi hv hb
    obtain ⟨hA, h1, h2⟩ := hv
    have hle := wcn_le hA
    refine g_iload_n d_Tab_keepCommon_2 rfl ?_
    refine g_aload_n d_Tab_keepCommon_3 rfl ?_
    refine g_get d_Tab_keepCommon_4 f_Tab_37 (h1) rfl ?_
    refine g_icmpN_ge (tgt := 31) d_Tab_keepCommon_7 (by decide) (rfl) (rfl) (by omega) (by omega) (fun q => ?_) (fun q => ?_)
    · refine g_ret_v d_Tab_keepCommon_31 rfl ⟨rfl, ?_⟩
      have e : (fun j => if i ≤ j ∧ j < wcn A then f j &&& g j else f j) = f := by
        funext j
        rw [if_neg (by omega)]
      rw [e, gup_id h2]
    · omega
  | succ r ih =>
    intro i h f hi hv hb
    obtain ⟨hA, h1, h2⟩ := id hv
    obtain ⟨hB, h3, h4⟩ := id hb
    have hle := wcn_le hA
    have hne : a ≠ wa := hv.u.ne
    have hbw : b ≠ wa := gne h3 h2 (by simp)
    refine g_iload_n d_Tab_keepCommon_2 rfl ?_
    refine g_aload_n d_Tab_keepCommon_3 rfl ?_
    refine g_get d_Tab_keepCommon_4 f_Tab_37 (h1) rfl ?_
    refine g_icmpN_ge (tgt := 31) d_Tab_keepCommon_7 (by decide) (rfl) (rfl) (by omega) (by omega) (fun q => ?_) (fun q => ?_)
    · omega
    · refine g_aload_n d_Tab_keepCommon_10 rfl ?_
      refine g_get d_Tab_keepCommon_11 f_Tab_9 (h1) rfl ?_
      refine g_iload_n d_Tab_keepCommon_14 rfl ?_
      refine g_dup2_11 d_Tab_keepCommon_15 rfl rfl ?_
      refine g_lald d_Tab_keepCommon_16 (h2) (rfl) (by omega) (by decide) ?_
      refine g_aload_n d_Tab_keepCommon_17 rfl ?_
      refine g_get d_Tab_keepCommon_18 f_Tab_9 (h3) rfl ?_
      refine g_iload_n d_Tab_keepCommon_21 rfl ?_
      refine g_lald d_Tab_keepCommon_22 (h4) (rfl) (by omega) (by decide) ?_
      refine g_land d_Tab_keepCommon_23 ?_
      refine g_last d_Tab_keepCommon_24 (h2) (rfl) (by omega) (by decide) ?_
      refine g_iinc d_Tab_keepCommon_25 rfl (nI_inc _) (Nat.le_of_ble_eq_true rfl) rfl ?_
      refine g_goto (tgt := 2) d_Tab_keepCommon_28 (by decide) ?_
      refine g_post ?_ (ih (i + 1) _ (va_up f i (f i &&& g i)) (by omega) ⟨hA, (gup_n hne).trans h1, gup_s _ _ _⟩ ⟨hB, (gup_n hbw).trans h3, (gup_n hwb).trans h4⟩)
      rintro o h' ⟨rfl, rfl⟩
      refine ⟨rfl, ?_⟩
      rw [gup_up]
      refine congrArg (fun z : Nat → Int64 => gup h wa (.inl (1, 64, .inr (.inl z)))) (funext fun j => ?_)
      unfold va_up
      by_cases e : j = i
      · subst e
        rw [if_neg (by omega), if_pos rfl, if_pos (by omega)]
      · by_cases e2 : i + 1 ≤ j ∧ j < wcn A
        · rw [if_pos e2, if_neg e, if_pos (by omega)]
        · rw [if_neg e2, if_neg e, if_neg (by omega)]
/-- table n lies in the set -/
def tbs (f : Nat → Int64) (n : Nat) : Bool := (f (n / 64)).toBitVec.getLsbD (n % 64)
theorem c_Tab_keep {K : gK} {h : gH} (hst : K.1.stackTraces = false) {a wa b wb A B : Nat} {f g : Nat → Int64} (hv : gTb h a wa A f) (hb : gTb h b wb B g) (hwb : wb ≠ wa) : Ct K r_Tab_keepCommon M_Tab_keepCommon [.ref a, .ref b] h (gRx fun v h' => v = none ∧ ∃ f', gTb h' a wa A f' ∧ (∀ n, n < 64 * wcn A → tbs f' n = (tbs f n && tbs g n)) ∧ gKp h h' [wa]) := by
  have hne : a ≠ wa := hv.u.ne
  refine Ct.of hst (by decide) (Or.inl rfl) (Nat.le_of_ble_eq_true rfl) ?_
  refine g_iconst (v := nI 0) d_Tab_keepCommon_0 (by decide) ?_
  refine g_istore_n d_Tab_keepCommon_1 rfl (Nat.le_of_ble_eq_true rfl) rfl ?_
  refine g_post ?_ (l_Tab_keep hwb (wcn A) 0 h f (by omega) hv hb)
  rintro o h' ⟨rfl, rfl⟩
  refine ⟨_, rfl, rfl, _, ⟨hv.1, (gup_n hne).trans hv.2.1, gup_s _ _ _⟩, fun n hn => ?_, gKp.rf.up (by simp)⟩
  unfold tbs
  dsimp only
  rw [if_pos ⟨Nat.zero_le _, by omega⟩]
  exact BitVec.getLsbD_and
/-! bits of the masks -/
theorem gtw_bit : ∀ j, j < 6 → ∀ i, i < 64 → (gtw j).toBitVec.getLsbD i = i.testBit j := by decide +kernel
theorem tb_split {w i b : Nat} (hi : i < 64) : (64 * w + i).testBit b = if b < 6 then i.testBit b else w.testBit (b - 6) := by
  rw [show (64 : Nat) * w + i = 2 ^ 6 * w + i by rfl, Nat.testBit_two_pow_mul_add _ (by omega)]
theorem tb_div (x k : Nat) : x.testBit k = decide (x / 2 ^ k % 2 = 1) := Nat.testBit_eq_decide_div_mod_eq
theorem c_Tab_wordWith {K : gK} {h : gH} (hst : K.1.stackTraces = false) {a wa A w k : Nat} {f : Nat → Int64} (hv : gTb h a wa A f) (hw : w < 64) (hk : k < A) (b : Bool) : Ct K r_Tab_wordWith M_Tab_wordWith [.ref a, .int (nI w), .int (nI k), .int (bI b)] h (gRx fun v h' => h' = h ∧ ∃ x : Int64, v = some (.long x) ∧ ∀ i, i < 64 → x.toBitVec.getLsbD i = ((64 * w + i).testBit (A - 1 - k) == b)) := by
  obtain ⟨hA, h1, h2⟩ := hv
  have key : ∀ x : Int64, (∀ i, i < 64 → x.toBitVec.getLsbD i = (64 * w + i).testBit (A - 1 - k)) → Go K M_Tab_wordWith r_Tab_wordWith 49 [(0, .ref a), (1, .int (nI w)), (2, .int (nI k)), (3, .int (bI b)), (4, .int (nI (A - 1 - k))), (5, .long x)] [] h 0 0 (gRx fun v h' => h' = h ∧ ∃ x : Int64, v = some (.long x) ∧ ∀ i, i < 64 → x.toBitVec.getLsbD i = ((64 * w + i).testBit (A - 1 - k) == b)) := by
    intro x hx
    refine g_iload_n d_Tab_wordWith_49 rfl ?_
    refine g_if_eq (tgt := 58) d_Tab_wordWith_50 (by decide) (fun q => ?_) (fun q => ?_)
    · have e := (bI_z b).mp q
      subst e
      refine g_lload d_Tab_wordWith_58 rfl ?_
      refine g_ldc2 d_Tab_wordWith_60 k_Tab_19 ?_
      refine g_lxor d_Tab_wordWith_63 ?_
      refine g_ret_l d_Tab_wordWith_64 rfl ⟨_, rfl, rfl, _, rfl, fun i hi => ?_⟩
      have e1 : (x ^^^ (-1 : Int64)).toBitVec = x.toBitVec ^^^ (-1 : Int64).toBitVec := rfl
      have e2 : ∀ i, i < 64 → (-1 : Int64).toBitVec.getLsbD i = true := by decide
      rw [e1, BitVec.getLsbD_xor, hx i hi, e2 i hi]
      cases (64 * w + i).testBit (A - 1 - k) <;> rfl
    · have e : b = true := by
        cases b
        · exact absurd rfl q
        · rfl
      subst e
      refine g_lload d_Tab_wordWith_53 rfl ?_
      refine g_goto (tgt := 64) d_Tab_wordWith_55 (by decide) ?_
      refine g_ret_l d_Tab_wordWith_64 rfl ⟨_, rfl, rfl, _, rfl, fun i hi => ?_⟩
      rw [hx i hi]
      cases (64 * w + i).testBit (A - 1 - k) <;> rfl
  refine Ct.of hst (by decide) (Or.inl rfl) (Nat.le_of_ble_eq_true rfl) ?_
  refine g_aload_n d_Tab_wordWith_0 rfl ?_
  refine g_get d_Tab_wordWith_1 f_Tab_51 (h1) rfl ?_
  refine g_iconst (v := nI 1) d_Tab_wordWith_4 (by decide) ?_
  refine g_isub d_Tab_wordWith_5 ?_
  refine g_iload_n d_Tab_wordWith_6 rfl ?_
  refine g_isub d_Tab_wordWith_7 ?_
  rw [pk_sub (by omega), pk_sub (by omega)]
  refine g_istore d_Tab_wordWith_8 (Nat.le_of_ble_eq_true rfl) rfl ?_
  refine g_iload d_Tab_wordWith_10 rfl ?_
  refine g_bipush (v := nI 6) d_Tab_wordWith_12 (by decide) ?_
  refine g_icmpN_ge (tgt := 28) d_Tab_wordWith_14 (by decide) (rfl) (rfl) (by omega) (by decide) (fun q => ?_) (fun q => ?_)
  · refine g_iload_n d_Tab_wordWith_28 rfl ?_
    refine g_iload d_Tab_wordWith_29 rfl ?_
    refine g_bipush (v := nI 6) d_Tab_wordWith_31 (by decide) ?_
    refine g_isub d_Tab_wordWith_33 ?_
    refine g_ishr d_Tab_wordWith_34 ?_
    refine g_iconst (v := nI 1) d_Tab_wordWith_35 (by decide) ?_
    refine g_iand d_Tab_wordWith_36 ?_
    rw [pk_sub q, nI_bit (by omega) (by omega)]
    have h3 : w / 2 ^ (A - 1 - k - 6) % 2 < 2 := Nat.mod_lt _ (by decide)
    refine g_if_eq (tgt := 46) d_Tab_wordWith_37 (by decide) (fun q => ?_) (fun q => ?_)
    · have e := (nI_z (by omega)).mp q
      refine g_lconstV (v := 0) d_Tab_wordWith_46 (by decide) ?_
      refine g_lstore d_Tab_wordWith_47 (Nat.le_of_ble_eq_true rfl) rfl ?_
      refine key 0 (fun i hi => ?_)
      rw [tb_split hi, if_neg (by omega), tb_div, e]
      simp
    · have e : w / 2 ^ (A - 1 - k - 6) % 2 = 1 := by
        have : ¬ w / 2 ^ (A - 1 - k - 6) % 2 = 0 := fun z => q ((nI_z (by omega)).mpr z)
        omega
      refine g_ldc2 d_Tab_wordWith_40 k_Tab_19 ?_
      refine g_goto (tgt := 47) d_Tab_wordWith_43 (by decide) ?_
      refine g_lstore d_Tab_wordWith_47 (Nat.le_of_ble_eq_true rfl) rfl ?_
      refine key (-1) (fun i hi => ?_)
      have e2 : ∀ i, i < 64 → (-1 : Int64).toBitVec.getLsbD i = true := by decide
      rw [tb_split hi, if_neg (by omega), tb_div, e, e2 i hi]
      rfl
  · refine g_gets d_Tab_wordWith_17 fs_Tab_62 ?_
    refine g_iload d_Tab_wordWith_20 rfl ?_
    refine g_tald d_Tab_wordWith_22 rfl q ?_
    refine g_lstore d_Tab_wordWith_23 (Nat.le_of_ble_eq_true rfl) rfl ?_
    refine g_goto (tgt := 49) d_Tab_wordWith_25 (by decide) ?_
    refine key _ (fun i hi => ?_)
    rw [gtw_bit _ q i hi, tb_split hi, if_pos q]
theorem tbs_or {x y : Int64} {i : Nat} : (x ||| y).toBitVec.getLsbD i = (x.toBitVec.getLsbD i || y.toBitVec.getLsbD i) := BitVec.getLsbD_or
theorem tbs_and {x y : Int64} {i : Nat} : (x &&& y).toBitVec.getLsbD i = (x.toBitVec.getLsbD i && y.toBitVec.getLsbD i) := BitVec.getLsbD_and
theorem l_Tab_addWith {K : gK} (hst : K.1.stackTraces = false) {a wa A k : Nat} (hk : k < A) (b : Bool) : ∀ (r i : Nat) (h : gH) (f : Nat → Int64), i + r = wcn A → gTb h a wa A f → Go K M_Tab_addTablesWith r_Tab_addTablesWith 2 [(0, .ref a), (1, .int (nI k)), (2, .int (bI b)), (3, .int (nI i))] [] h 0 0 (gRx fun v h' => v = none ∧ ∃ f', gTb h' a wa A f' ∧ gKp h h' [wa] ∧ ∀ n, n < 64 * wcn A → tbs f' n = if i ≤ n / 64 then (tbs f n || (n.testBit (A - 1 - k) == b)) else tbs f n) := by
  intro r
  induction r with
  | zero =>
    intro i h f hi hv
    have hle := wcn_le hv.1
    refine g_iload_n d_Tab_addTablesWith_2 rfl ?_
    refine g_aload_n d_Tab_addTablesWith_3 rfl ?_
    refine g_get d_Tab_addTablesWith_4 f_Tab_37 (hv.2.1) rfl ?_
    refine g_icmpN_ge (tgt := 32) d_Tab_addTablesWith_7 (by decide) (rfl) (rfl) (by omega) (by omega) (fun q => ?_) (fun q => ?_)
    · refine g_ret_v d_Tab_addTablesWith_32 rfl ⟨_, rfl, rfl, f, hv, gKp.rf, fun n hn => ?_⟩
      rw [if_neg (by omega)]
    · omega
  | succ r ih =>
    intro i h f hi hv
    have hle := wcn_le hv.1
    have hne : a ≠ wa := hv.u.ne
    refine g_iload_n d_Tab_addTablesWith_2 rfl ?_
    refine g_aload_n d_Tab_addTablesWith_3 rfl ?_
    refine g_get d_Tab_addTablesWith_4 f_Tab_37 (hv.2.1) rfl ?_
    refine g_icmpN_ge (tgt := 32) d_Tab_addTablesWith_7 (by decide) (rfl) (rfl) (by omega) (by omega) (fun q => ?_) (fun q => ?_)
    · omega
    · refine g_aload_n d_Tab_addTablesWith_10 rfl ?_
      refine g_get d_Tab_addTablesWith_11 f_Tab_9 (hv.2.1) rfl ?_
      refine g_iload_n d_Tab_addTablesWith_14 rfl ?_
      refine g_dup2_11 d_Tab_addTablesWith_15 rfl rfl ?_
      refine g_lald d_Tab_addTablesWith_16 (hv.2.2) (rfl) (by omega) (by decide) ?_
      refine g_aload_n d_Tab_addTablesWith_17 rfl ?_
      refine g_iload_n d_Tab_addTablesWith_18 rfl ?_
      refine g_iload_n d_Tab_addTablesWith_19 rfl ?_
      refine g_iload_n d_Tab_addTablesWith_20 rfl ?_
      refine g_callX (c_Tab_wordWith hst hv (by omega) hk b) gm_Tab_wordWith d_Tab_addTablesWith_21 (gInv_v (As := [.int (nI i), .int (nI k), .int (bI b)]) (rest := [.long (f i), .int (nI i), .ref wa]) d_Tab_addTablesWith_21 gm_Tab_wordWith gv_Tab_58 (hv.2.1) rfl) (Nat.le_of_ble_eq_true rfl) (Nat.le_of_ble_eq_true rfl) (Nat.le_of_ble_eq_true rfl) (Nat.le_of_ble_eq_true rfl) (Nat.le_of_ble_eq_true rfl) (fun v h1 hp => ?_)
      obtain ⟨rfl, x, rfl, hx⟩ := hp
      refine g_lor d_Tab_addTablesWith_24 ?_
      refine g_last d_Tab_addTablesWith_25 (hv.2.2) (rfl) (by omega) (by decide) ?_
      refine g_iinc d_Tab_addTablesWith_26 rfl (nI_inc _) (Nat.le_of_ble_eq_true rfl) rfl ?_
      refine g_goto (tgt := 2) d_Tab_addTablesWith_29 (by decide) ?_
      refine g_post ?_ (ih (i + 1) _ (va_up f i (f i ||| x)) (by omega) ⟨hv.1, (gup_n hne).trans hv.2.1, gup_s _ _ _⟩)
      rintro o h' ⟨v, rfl, rfl, f', h9, hk9, e⟩
      refine ⟨_, rfl, rfl, f', h9, (gKp.rf.up (by simp)).tr hk9, fun n hn => ?_⟩
      rw [e n hn]
      by_cases e1 : n / 64 = i
      · have e2 : n % 64 < 64 := Nat.mod_lt _ (by decide)
        rw [if_neg (by omega), if_pos (by omega)]
        unfold tbs va_up
        rw [if_pos e1, e1, tbs_or, hx _ e2]
        have e3 : 64 * i + n % 64 = n := by omega
        rw [e3]
      · have e2 : tbs (va_up f i (f i ||| x)) n = tbs f n := by
          unfold tbs va_up
          rw [if_neg e1]
        rw [e2]
        by_cases e3 : i + 1 ≤ n / 64
        · rw [if_pos e3, if_pos (by omega)]
        · rw [if_neg e3, if_neg (by omega)]
theorem c_Tab_addWith {K : gK} {h : gH} (hst : K.1.stackTraces = false) {a wa A k : Nat} {f : Nat → Int64} (hv : gTb h a wa A f) (hk : k < A) (b : Bool) : Ct K r_Tab_addTablesWith M_Tab_addTablesWith [.ref a, .int (nI k), .int (bI b)] h (gRx fun v h' => v = none ∧ ∃ f', gTb h' a wa A f' ∧ gKp h h' [wa] ∧ ∀ n, n < 64 * wcn A → tbs f' n = (tbs f n || (n.testBit (A - 1 - k) == b))) := by
  refine Ct.of hst (by decide) (Or.inl rfl) (Nat.le_of_ble_eq_true rfl) ?_
  refine g_iconst (v := nI 0) d_Tab_addTablesWith_0 (by decide) ?_
  refine g_istore_n d_Tab_addTablesWith_1 rfl (Nat.le_of_ble_eq_true rfl) rfl ?_
  refine g_post ?_ (l_Tab_addWith hst hk b (wcn A) 0 h f (by omega) hv)
  rintro o h' ⟨v, rfl, rfl, f', h9, hk9, e⟩
  refine ⟨_, rfl, rfl, f', h9, hk9, fun n hn => ?_⟩
  rw [e n hn, if_pos (Nat.zero_le _)]
/-- table n of A atoms satisfies a clause's instance, by its first k atoms: t are to be true, g false -/
def sat (A t g n : Nat) : Nat → Bool
  | 0 => false
  | k + 1 => sat A t g n k || (t.testBit k && n.testBit (A - 1 - k)) || (g.testBit k && !(n.testBit (A - 1 - k)))
theorem l_Tab_become {K : gK} (hst : K.1.stackTraces = false) {a wa A ia t g : Nat} (hia : ia ≠ wa) : ∀ (r k : Nat) (h : gH) (f : Nat → Int64), k + r = A → gTb h a wa A f → gIn h ia t g → (∀ n, n < 64 * wcn A → tbs f n = sat A t g n k) → Go K M_Tab_becomeTablesOf r_Tab_becomeTablesOf 15 [(0, .ref a), (1, .ref ia), (2, .int (nI A)), (3, .int (nI k))] [] h 0 0 (gRx fun v h' => v = none ∧ ∃ f', gTb h' a wa A f' ∧ gKp h h' [wa] ∧ ∀ n, n < 64 * wcn A → tbs f' n = sat A t g n A) := by
  intro r
  induction r with
  | zero =>
    intro k h f hr hv hi he
    have hA := hv.1
    have ek : k = A := by omega
    subst ek
    refine g_iload_n d_Tab_becomeTablesOf_15 rfl ?_
    refine g_iload_n d_Tab_becomeTablesOf_16 rfl ?_
    refine g_icmpN_ge (tgt := 56) d_Tab_becomeTablesOf_17 (by decide) (rfl) (rfl) (by omega) (by omega) (fun q => ?_) (fun q => ?_)
    · exact g_ret_v d_Tab_becomeTablesOf_56 rfl ⟨_, rfl, rfl, f, hv, gKp.rf, he⟩
    · omega
  | succ r ih =>
    intro k h f hr hv hi he
    have hA := hv.1
    have hkA : k < A := by omega
    have hk12 : k < 12 := by omega
    have two : ∀ (h2 : gH) (f2 : Nat → Int64), gTb h2 a wa A f2 → gIn h2 ia t g → gKp h h2 [wa] → (∀ n, n < 64 * wcn A → tbs f2 n = (sat A t g n k || (t.testBit k && n.testBit (A - 1 - k)))) → Go K M_Tab_becomeTablesOf r_Tab_becomeTablesOf 35 [(0, .ref a), (1, .ref ia), (2, .int (nI A)), (3, .int (nI k))] [] h2 0 0 (gRx fun v h' => v = none ∧ ∃ f', gTb h' a wa A f' ∧ gKp h h' [wa] ∧ ∀ n, n < 64 * wcn A → tbs f' n = sat A t g n A) := by
      intro h2 f2 hv2 hi2 hk2 he2
      refine g_aload_n d_Tab_becomeTablesOf_35 rfl ?_
      refine g_iload_n d_Tab_becomeTablesOf_36 rfl ?_
      refine g_iconst (v := nI 0) d_Tab_becomeTablesOf_37 (by decide) ?_
      refine g_callR (c_Ins_wants hst hi2 hk12 false) gm_Ins_wants d_Tab_becomeTablesOf_38 (gInv_v (As := [.int (nI k), .int (bI false)]) (rest := []) d_Tab_becomeTablesOf_38 gm_Ins_wants gv_Tab_27 (hi2.1) rfl) (Nat.le_of_ble_eq_true rfl) (Nat.le_of_ble_eq_true rfl) (Nat.le_of_ble_eq_true rfl) (Nat.le_of_ble_eq_true rfl) (Nat.le_of_ble_eq_true rfl) ?_
      refine g_if_eq (tgt := 50) d_Tab_becomeTablesOf_41 (by decide) (fun q => ?_) (fun q => ?_)
      · have e := (bI_z _).mp q
        refine g_iinc d_Tab_becomeTablesOf_50 rfl (nI_inc _) (Nat.le_of_ble_eq_true rfl) rfl ?_
        refine g_goto (tgt := 15) d_Tab_becomeTablesOf_53 (by decide) ?_
        refine g_post ?_ (ih (k + 1) h2 f2 (by omega) hv2 hi2 (fun n hn => ?_))
        · rintro o h' ⟨v, rfl, rfl, f', h9, hk9, e9⟩
          exact ⟨_, rfl, rfl, f', h9, hk2.tr hk9, e9⟩
        · have e3 : g.testBit k = false := by rw [tb_div]; exact e
          rw [he2 n hn]
          simp [sat, e3]
      · have e : decide ((if false = true then t else g) / 2 ^ k % 2 = 1) = true := by
          cases hb : decide ((if false = true then t else g) / 2 ^ k % 2 = 1)
          · exact absurd (by rw [hb]; rfl) q
          · rfl
        refine g_aload_n d_Tab_becomeTablesOf_44 rfl ?_
        refine g_iload_n d_Tab_becomeTablesOf_45 rfl ?_
        refine g_iconst (v := nI 0) d_Tab_becomeTablesOf_46 (by decide) ?_
        refine g_callX (c_Tab_addWith hst hv2 hkA false) gm_Tab_addTablesWith d_Tab_becomeTablesOf_47 (gInv_v (As := [.int (nI k), .int (bI false)]) (rest := []) d_Tab_becomeTablesOf_47 gm_Tab_addTablesWith gv_Tab_33 (hv2.2.1) rfl) (Nat.le_of_ble_eq_true rfl) (Nat.le_of_ble_eq_true rfl) (Nat.le_of_ble_eq_true rfl) (Nat.le_of_ble_eq_true rfl) (Nat.le_of_ble_eq_true rfl) (fun v h1 hp => ?_)
        obtain ⟨rfl, f3, hv3, hk3, he3⟩ := hp
        refine g_iinc d_Tab_becomeTablesOf_50 rfl (nI_inc _) (Nat.le_of_ble_eq_true rfl) rfl ?_
        refine g_goto (tgt := 15) d_Tab_becomeTablesOf_53 (by decide) ?_
        refine g_post ?_ (ih (k + 1) h1 f3 (by omega) hv3 ⟨(hk3 ia (by simp [hia])).trans hi2.1, hi2.2⟩ (fun n hn => ?_))
        · rintro o h' ⟨v, rfl, rfl, f', h9, hk9, e9⟩
          exact ⟨_, rfl, rfl, f', h9, (hk2.tr hk3).tr hk9, e9⟩
        · have e3 : g.testBit k = true := by rw [tb_div]; exact e
          rw [he3 n hn, he2 n hn]
          simp only [sat, e3, Bool.true_and]
          cases n.testBit (A - 1 - k) <;> rfl
    refine g_iload_n d_Tab_becomeTablesOf_15 rfl ?_
    refine g_iload_n d_Tab_becomeTablesOf_16 rfl ?_
    refine g_icmpN_ge (tgt := 56) d_Tab_becomeTablesOf_17 (by decide) (rfl) (rfl) (by omega) (by omega) (fun q => ?_) (fun q => ?_)
    · omega
    · refine g_aload_n d_Tab_becomeTablesOf_20 rfl ?_
      refine g_iload_n d_Tab_becomeTablesOf_21 rfl ?_
      refine g_iconst (v := nI 1) d_Tab_becomeTablesOf_22 (by decide) ?_
      refine g_callR (c_Ins_wants hst hi hk12 true) gm_Ins_wants d_Tab_becomeTablesOf_23 (gInv_v (As := [.int (nI k), .int (bI true)]) (rest := []) d_Tab_becomeTablesOf_23 gm_Ins_wants gv_Tab_27 (hi.1) rfl) (Nat.le_of_ble_eq_true rfl) (Nat.le_of_ble_eq_true rfl) (Nat.le_of_ble_eq_true rfl) (Nat.le_of_ble_eq_true rfl) (Nat.le_of_ble_eq_true rfl) ?_
      refine g_if_eq (tgt := 35) d_Tab_becomeTablesOf_26 (by decide) (fun q => ?_) (fun q => ?_)
      · have e := (bI_z _).mp q
        refine two h f hv hi gKp.rf (fun n hn => ?_)
        have e3 : t.testBit k = false := by rw [tb_div]; exact e
        rw [he n hn]
        simp [e3]
      · have e : decide ((if true = true then t else g) / 2 ^ k % 2 = 1) = true := by
          cases hb : decide ((if true = true then t else g) / 2 ^ k % 2 = 1)
          · exact absurd (by rw [hb]; rfl) q
          · rfl
        refine g_aload_n d_Tab_becomeTablesOf_29 rfl ?_
        refine g_iload_n d_Tab_becomeTablesOf_30 rfl ?_
        refine g_iconst (v := nI 1) d_Tab_becomeTablesOf_31 (by decide) ?_
        refine g_callX (c_Tab_addWith hst hv hkA true) gm_Tab_addTablesWith d_Tab_becomeTablesOf_32 (gInv_v (As := [.int (nI k), .int (bI true)]) (rest := []) d_Tab_becomeTablesOf_32 gm_Tab_addTablesWith gv_Tab_33 (hv.2.1) rfl) (Nat.le_of_ble_eq_true rfl) (Nat.le_of_ble_eq_true rfl) (Nat.le_of_ble_eq_true rfl) (Nat.le_of_ble_eq_true rfl) (Nat.le_of_ble_eq_true rfl) (fun v h1 hp => ?_)
        obtain ⟨rfl, f3, hv3, hk3, he3⟩ := hp
        refine two h1 f3 hv3 ⟨(hk3 ia (by simp [hia])).trans hi.1, hi.2⟩ hk3 (fun n hn => ?_)
        have e3 : t.testBit k = true := by rw [tb_div]; exact e
        rw [he3 n hn, he n hn, e3]
        cases n.testBit (A - 1 - k) <;> simp
theorem c_Tab_become {K : gK} {h : gH} (hst : K.1.stackTraces = false) {a wa A ia t g : Nat} (hv : gTu h a wa) (hi : gIn h ia t g) (hA : A ≤ 12) : Ct K r_Tab_becomeTablesOf M_Tab_becomeTablesOf [.ref a, .ref ia, .int (nI A)] h (gRx fun v h' => v = none ∧ ∃ f', gTb h' a wa A f' ∧ gKp h h' [a, wa] ∧ ∀ n, n < 64 * wcn A → tbs f' n = sat A t g n A) := by
  have hne := hv.ne
  obtain ⟨v1, v2, f, h1, h2⟩ := hv
  have hiw : ia ≠ wa := gne hi.1 h2 (by simp)
  have hia : ia ≠ a := gne hi.1 h1 (by simp)
  refine Ct.of hst (by decide) (Or.inl rfl) (Nat.le_of_ble_eq_true rfl) ?_
  refine g_aload_n d_Tab_becomeTablesOf_0 rfl ?_
  refine g_iload_n d_Tab_becomeTablesOf_1 rfl ?_
  refine g_callR (c_Tab_measure hst h1 hA) gm_Tab_measure d_Tab_becomeTablesOf_2 (gInv_v (As := [.int (nI A)]) (rest := []) d_Tab_becomeTablesOf_2 gm_Tab_measure gv_Tab_15 (h1) rfl) (Nat.le_of_ble_eq_true rfl) (Nat.le_of_ble_eq_true rfl) (Nat.le_of_ble_eq_true rfl) (Nat.le_of_ble_eq_true rfl) (Nat.le_of_ble_eq_true rfl) ?_
  refine g_aload_n d_Tab_becomeTablesOf_5 rfl ?_
  refine g_get d_Tab_becomeTablesOf_6 f_Tab_9 (gup_s _ _ _) rfl ?_
  refine g_lconstV (v := 0) d_Tab_becomeTablesOf_9 (by decide) ?_
  refine g_callR (c_fillJ hst (by decide) 0 ((gup_n (Ne.symm hne)).trans h2)) gm_Arr_fillJ d_Tab_becomeTablesOf_10 (gInv_s (As := [.ref wa, .long 0]) (rest := []) d_Tab_becomeTablesOf_10 gm_Arr_fillJ gs_Tab_21) (Nat.le_of_ble_eq_true rfl) (Nat.le_of_ble_eq_true rfl) (Nat.le_of_ble_eq_true rfl) (Nat.le_of_ble_eq_true rfl) (Nat.le_of_ble_eq_true rfl) ?_
  refine g_iconst (v := nI 0) d_Tab_becomeTablesOf_13 (by decide) ?_
  refine g_istore_n d_Tab_becomeTablesOf_14 rfl (Nat.le_of_ble_eq_true rfl) rfl ?_
  refine g_post ?_ (l_Tab_become hst hiw A 0 _ _ (by omega) ⟨hA, (gup_n hne).trans (gup_s _ _ _), gup_s _ _ _⟩ ⟨(gup_n hiw).trans ((gup_n hia).trans hi.1), hi.2⟩ (fun n hn => ?_))
  · rintro o h' ⟨v, rfl, rfl, f', h9, hk9, e9⟩
    exact ⟨_, rfl, rfl, f', h9, ((gKp.rf.up (by simp)).up (by simp)).tr (hk9.mono (by simp)), e9⟩
  · have hle := wcn_le hA
    unfold tbs sat
    dsimp only
    rw [if_pos (by omega)]
    simp
