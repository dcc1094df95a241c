/-! ===== Text ===== -/
def lall : List (Nat × Value) → List (Nat × Value) → Prop
  | [], _ => True
  | q :: t, lv => lget lv q.1 = some q.2 ∧ lall t lv
theorem lall_in {lv : List (Nat × Value)} : ∀ {lv' : List (Nat × Value)}, lall lv' lv → ∀ q ∈ lv', q ∈ lv := by
  intro lv'
  induction lv' with
  | nil => intro _ q hq; cases hq
  | cons x t ih =>
    intro h q hq
    rcases List.mem_cons.mp hq with rfl | hq
    · obtain ⟨k, hk⟩ := lget_mem h.1
      exact List.mem_of_getElem? hk
    · exact ih h.2 q hq
/-- locals that are no longer wanted -/
theorem g_drop {K : gK} {M : gM} {R : Room} {pc : Nat} {lv : List (Nat × Value)} {st : List Value} {h : gH} {kc ks : Nat} {Q : Outcome → gH → Prop} (lv' : List (Nat × Value)) (hs : lall lv' lv) (k : Go K M R pc lv' st h kc ks Q) : Go K M R pc lv st h kc ks Q := g_sub (lall_in hs) k
/-- character k of a row -/
def rc (row : Int64) (k : Nat) : Nat := row.toBitVec.toNat / 2 ^ (8 * k) % 256
theorem rc_lt (row : Int64) (k : Nat) : rc row k < 256 := Nat.mod_lt _ (by decide)
theorem rc_c (row : Int64) {k : Nat} (hk : k < 8) : ((row.toUInt64 >>> ((nI 8 * nI k).toInt64.toUInt64 &&& Int64.toUInt64 63)).toInt64).toInt32 &&& nI 255 = nI (rc row k) := by
  obtain ⟨n, hn, rfl⟩ := wb_of row
  rw [pk_mul, wb_shr hn (by omega), lN_i]
  rw [pk_and (nI (n / 2 ^ (8 * k))) 8 (by decide)]
  unfold rc
  rw [wb_tn hn]
  congr 1
  show (BitVec.ofNat 32 (n / 2 ^ (8 * k))).toNat % 2 ^ 8 = _
  rw [BitVec.toNat_ofNat]
  omega
theorem c_Text_empty {K : gK} {h : gH} (hst : K.1.stackTraces = false) {a ca : Nat} {n : Int32} (ht : h a = some (.inr (1, [.ref ca, .int n]))) : Ct K r_Text_empty M_Text_empty [.ref a] h (gRt (some (.int n)) (gup h a (.inr (1, [.ref ca, .int (nI 0)])))) := by
  refine Ct.of hst (by decide) (Or.inl rfl) (Nat.le_of_ble_eq_true rfl) ?_
  refine g_aload_n d_Text_empty_0 rfl ?_
  refine g_get d_Text_empty_1 f_Text_19 (ht) rfl ?_
  refine g_istore_n d_Text_empty_4 rfl (Nat.le_of_ble_eq_true rfl) rfl ?_
  refine g_aload_n d_Text_empty_5 rfl ?_
  refine g_iconst (v := nI 0) d_Text_empty_6 (by decide) ?_
  refine g_put (fs' := [_, _]) d_Text_empty_7 f_Text_19 (ht) rfl rfl (Nat.le_of_ble_eq_true rfl) rfl ?_
  refine g_iload_n d_Text_empty_10 rfl ?_
  exact g_ret_i d_Text_empty_11 rfl rfl ⟨rfl, rfl⟩
theorem c_Text_character {K : gK} {h : gH} (hst : K.1.stackTraces = false) (row : Int64) {k : Nat} (hk : k < 8) : Ct K r_Text_character M_Text_character [.long row, .int (nI k)] h (gRt (some (.int (nI (rc row k)))) h) := by
  refine Ct.of hst (by decide) (Or.inl rfl) (Nat.le_of_ble_eq_true rfl) ?_
  refine g_lload_n d_Text_character_0 rfl ?_
  refine g_bipush (v := nI 8) d_Text_character_1 (by decide) ?_
  refine g_iload_n d_Text_character_3 rfl ?_
  refine g_imul d_Text_character_4 ?_
  refine g_lushr d_Text_character_5 ?_
  refine g_l2i d_Text_character_6 ?_
  refine g_sipush (v := nI 255) d_Text_character_7 (by decide) ?_
  refine g_iand d_Text_character_10 ?_
  rw [rc_c row hk]
  exact g_ret_i d_Text_character_11 rfl rfl ⟨rfl, rfl⟩
/-- how many characters a row begins with, all of them in order; none if one isn't -/
def rcnt (row : Int64) : Nat → Nat → Option Nat
  | 0, i => some i
  | r + 1, i => if rc row i = 0 then some i else if rc row i < 33 ∨ 126 < rc row i then none else rcnt row r (i + 1)
def rcv (o : Option Nat) : Int32 := match o with
  | none => -1
  | some n => nI n
theorem rcnt_le {row : Int64} : ∀ {r i n : Nat}, rcnt row r i = some n → i ≤ n ∧ n ≤ i + r := by
  intro r
  induction r with
  | zero => intro i n h; cases h; omega
  | succ r ih =>
    intro i n h
    unfold rcnt at h
    split at h
    · cases h; omega
    · split at h
      · cases h
      · have := ih h; omega
theorem rcnt_in {row : Int64} : ∀ {r i n : Nat}, rcnt row r i = some n → ∀ k, i ≤ k → k < n → 33 ≤ rc row k ∧ rc row k ≤ 126 := by
  intro r
  induction r with
  | zero => intro i n h k h1 h2; cases h; omega
  | succ r ih =>
    intro i n h k h1 h2
    unfold rcnt at h
    split at h
    · cases h; omega
    · split at h
      · cases h
      · by_cases e : k = i
        · subst e; omega
        · exact ih h k (by omega) h2
theorem l_Text_count {K : gK} {h : gH} (hst : K.1.stackTraces = false) (row : Int64) : ∀ (r i : Nat), i + r = 8 → Go K M_Text_countCharacters r_Text_countCharacters 2 [(0, .long row), (2, .int (nI i))] [] h 0 0 (gRt (some (.int (rcv (rcnt row r i)))) h) := by
  intro r
  induction r with
  | zero =>
    intro i hi
    refine g_iload_n d_Text_countCharacters_2 rfl ?_
    refine g_bipush (v := nI 8) d_Text_countCharacters_3 (by decide) ?_
    refine g_icmpN_ge (tgt := 40) d_Text_countCharacters_5 (by decide) (rfl) (rfl) (by omega) (by decide) (fun q => ?_) (fun q => ?_)
    · refine g_bipush (v := nI 8) d_Text_countCharacters_40 (by decide) ?_
      refine g_ret_i d_Text_countCharacters_42 rfl rfl ⟨?_, rfl⟩
      have : i = 8 := by omega
      subst this
      rfl
    · omega
  | succ r ih =>
    intro i hi
    refine g_iload_n d_Text_countCharacters_2 rfl ?_
    refine g_bipush (v := nI 8) d_Text_countCharacters_3 (by decide) ?_
    refine g_icmpN_ge (tgt := 40) d_Text_countCharacters_5 (by decide) (rfl) (rfl) (by omega) (by decide) (fun q => ?_) (fun q => ?_)
    · omega
    · refine g_lload_n d_Text_countCharacters_8 rfl ?_
      refine g_iload_n d_Text_countCharacters_9 rfl ?_
      refine g_callR (c_Text_character hst row q) gm_Text_character d_Text_countCharacters_10 (gInv_s (As := [.long row, .int (nI i)]) (rest := []) d_Text_countCharacters_10 gm_Text_character gs_Text_23) (Nat.le_of_ble_eq_true rfl) (Nat.le_of_ble_eq_true rfl) (Nat.le_of_ble_eq_true rfl) (Nat.le_of_ble_eq_true rfl) (Nat.le_of_ble_eq_true rfl) ?_
      refine g_istore_n d_Text_countCharacters_13 rfl (Nat.le_of_ble_eq_true rfl) rfl ?_
      refine g_iload_n d_Text_countCharacters_14 rfl ?_
      have hlt := rc_lt row i
      refine g_if_ne (tgt := 20) d_Text_countCharacters_15 (by decide) (fun q => ?_) (fun q => ?_)
      · refine g_iload_n d_Text_countCharacters_20 rfl ?_
        refine g_bipush (v := nI 33) d_Text_countCharacters_21 (by decide) ?_
        have hne : ¬ rc row i = 0 := fun z => q (by rw [z]; rfl)
        refine g_icmpN_lt (tgt := 32) d_Text_countCharacters_23 (by decide) (rfl) (rfl) (by omega) (by decide) (fun q => ?_) (fun q => ?_)
        · refine g_iconst (v := -1) d_Text_countCharacters_32 (by decide) ?_
          refine g_ret_i d_Text_countCharacters_33 rfl rfl ⟨?_, rfl⟩
          simp [rcnt, hne, q, rcv]
        · refine g_iload_n d_Text_countCharacters_26 rfl ?_
          refine g_bipush (v := nI 126) d_Text_countCharacters_27 (by decide) ?_
          refine g_icmpN_le (tgt := 34) d_Text_countCharacters_29 (by decide) (rfl) (rfl) (by omega) (by decide) (fun q => ?_) (fun q => ?_)
          · refine g_iinc d_Text_countCharacters_34 rfl (nI_inc _) (Nat.le_of_ble_eq_true rfl) rfl ?_
            refine g_goto (tgt := 2) d_Text_countCharacters_37 (by decide) ?_
            refine g_drop [(0, .long row), (2, .int (nI (i + 1)))] ⟨rfl, rfl, trivial⟩ ?_
            have e : rcnt row (r + 1) i = rcnt row r (i + 1) := by
              have h1 : ¬ (rc row i < 33 ∨ 126 < rc row i) := by omega
              simp [rcnt, hne, h1]
            rw [e]
            exact ih (i + 1) (by omega)
          · refine g_iconst (v := -1) d_Text_countCharacters_32 (by decide) ?_
            refine g_ret_i d_Text_countCharacters_33 rfl rfl ⟨?_, rfl⟩
            simp [rcnt, hne, q, rcv]
      · refine g_iload_n d_Text_countCharacters_18 rfl ?_
        refine g_ret_i d_Text_countCharacters_19 rfl rfl ⟨?_, rfl⟩
        have h0 : rc row i = 0 := (nI_eq (by omega) (by decide)).mp q
        simp [rcnt, h0, rcv]
theorem c_Text_count {K : gK} {h : gH} (hst : K.1.stackTraces = false) (row : Int64) : Ct K r_Text_countCharacters M_Text_countCharacters [.long row] h (gRt (some (.int (rcv (rcnt row 8 0)))) h) := by
  refine Ct.of hst (by decide) (Or.inl rfl) (Nat.le_of_ble_eq_true rfl) ?_
  refine g_iconst (v := nI 0) d_Text_countCharacters_0 (by decide) ?_
  refine g_istore_n d_Text_countCharacters_1 rfl (Nat.le_of_ble_eq_true rfl) rfl ?_
  exact l_Text_count hst row 8 0 rfl
/-- a text: its object, its characters -/
def gTx (h : gH) (a ca : Nat) (tx : List Nat) : Prop := ∃ f : Nat → Int32, h a = some (.inr (1, [.ref ca, .int (nI tx.length)])) ∧ h ca = some (.inl (2, 96, .inl f)) ∧ tx.length ≤ 96 ∧ (∀ i, i < tx.length → f i = nI (tx.getD i 0)) ∧ ∀ c ∈ tx, 33 ≤ c ∧ c ≤ 126
theorem gTx.ne {h : gH} {a ca : Nat} {tx : List Nat} (ht : gTx h a ca tx) : a ≠ ca := by
  obtain ⟨f, h1, h2, -⟩ := ht
  exact gne h1 h2 (by simp)
theorem gTx.chr {h : gH} {a ca : Nat} {tx : List Nat} (ht : gTx h a ca tx) (p : Nat) : tx.getD p 0 < 127 := by
  obtain ⟨f, -, -, -, -, h5⟩ := ht
  by_cases hp : p < tx.length
  · have := h5 (tx.getD p 0) (by simp [hp])
    omega
  · simp [List.getD, Nat.not_lt.mp hp]
theorem c_Text_at {K : gK} {h : gH} (hst : K.1.stackTraces = false) {a ca : Nat} {tx : List Nat} (ht : gTx h a ca tx) {p : Nat} (hp : p < 2 ^ 31) : Ct K r_Text_at M_Text_at [.ref a, .int (nI p)] h (gRt (some (.int (nI (tx.getD p 0)))) h) := by
  have hc := ht.chr p
  obtain ⟨f, h1, h2, h3, h4, h5⟩ := ht
  refine Ct.of hst (by decide) (Or.inl rfl) (Nat.le_of_ble_eq_true rfl) ?_
  refine g_iload_n d_Text_at_0 rfl ?_
  refine g_if_lt (tgt := 21) d_Text_at_1 (by decide) (fun q => ?_) (fun q => ?_)
  · exact absurd q (nI_pos hp)
  · refine g_iload_n d_Text_at_4 rfl ?_
    refine g_aload_n d_Text_at_5 rfl ?_
    refine g_get d_Text_at_6 f_Text_19 (h1) rfl ?_
    refine g_icmpN_ge (tgt := 21) d_Text_at_9 (by decide) (rfl) (rfl) (hp) (by omega) (fun q => ?_) (fun q => ?_)
    · refine g_iconst (v := nI 0) d_Text_at_21 (by decide) ?_
      refine g_ret_i d_Text_at_22 rfl rfl ⟨?_, rfl⟩
      simp [List.getD, q]
    · refine g_aload_n d_Text_at_12 rfl ?_
      refine g_get d_Text_at_13 f_Text_9 (h1) rfl ?_
      refine g_iload_n d_Text_at_16 rfl ?_
      refine g_cald d_Text_at_17 (h2) (rfl) (by omega) (by decide) ?_
      refine g_goto (tgt := 22) d_Text_at_18 (by decide) ?_
      rw [h4 p q]
      exact g_ret_i d_Text_at_22 rfl (pk_charN (by omega)).1 ⟨rfl, rfl⟩
theorem nI_neg1 {n : Nat} (h : n < 2 ^ 31) : ¬ nI n = -1 := fun e => by
  have h1 := congrArg Int32.toInt e
  rw [nI_toInt h] at h1
  have h2 : (-1 : Int32).toInt = -1 := by decide
  omega
theorem i2c_N {c : Nat} (hc : c < 65536) : ((nI c).toUInt32 % 65536).toInt32 = nI c := by
  rw [pk_char, pk_tn (by omega), Nat.mod_eq_of_lt hc]
/-- the characters of a row, from i on, k of them -/
def rchs (row : Int64) : Nat → Nat → List Nat
  | 0, _ => []
  | k + 1, i => rc row i :: rchs row k (i + 1)
theorem rchs_len (row : Int64) : ∀ (k i : Nat), (rchs row k i).length = k := by
  intro k
  induction k with
  | zero => intro i; rfl
  | succ k ih => intro i; simp [rchs, ih]
theorem rchs_get (row : Int64) : ∀ (k i j : Nat), j < k → (rchs row k i).getD j 0 = rc row (i + j) := by
  intro k
  induction k with
  | zero => intro i j hj; omega
  | succ k ih =>
    intro i j hj
    cases j with
    | zero => simp [rchs]
    | succ j =>
      have := ih (i + 1) j (by omega)
      simp only [rchs, List.getD_cons_succ]
      rw [this]
      congr 1
      omega
theorem l_Text_append {K : gK} (hst : K.1.stackTraces = false) (row : Int64) {a ca m n : Nat} (hmn : m + n ≤ 96) (hn8 : n ≤ 8) (hch : ∀ k, k < n → rc row k < 128) : ∀ (r i : Nat) (h : gH) (f : Nat → Int32), i + r = n → h a = some (.inr (1, [.ref ca, .int (nI m)])) → h ca = some (.inl (2, 96, .inl f)) → Go K M_Text_append r_Text_append 26 [(0, .ref a), (1, .long row), (3, .int (nI n)), (4, .int (nI i))] [] h 0 0 (gRx fun v h' => v = some (.int 1) ∧ ∃ f' : Nat → Int32, h' = gup (gup h ca (.inl (2, 96, .inl f'))) a (.inr (1, [.ref ca, .int (nI (m + n))])) ∧ (∀ j, j < m + i → f' j = f j) ∧ ∀ j, i ≤ j → j < n → f' (m + j) = nI (rc row j)) := by
  intro r
  induction r with
  | zero =>
    intro i h f hi h1 h2
    have hne : ca ≠ a := gne h2 h1 (by simp)
    refine g_iload d_Text_append_26 rfl ?_
    refine g_iload_n d_Text_append_28 rfl ?_
    refine g_icmpN_ge (tgt := 57) d_Text_append_29 (by decide) (rfl) (rfl) (by omega) (by omega) (fun q => ?_) (fun q => ?_)
    · refine g_aload_n d_Text_append_57 rfl ?_
      refine g_dup d_Text_append_58 rfl ?_
      refine g_get d_Text_append_59 f_Text_19 (h1) rfl ?_
      refine g_iload_n d_Text_append_62 rfl ?_
      refine g_iadd d_Text_append_63 ?_
      refine g_put (fs' := [_, _]) d_Text_append_64 f_Text_19 (h1) rfl rfl (Nat.le_of_ble_eq_true rfl) rfl ?_
      refine g_iconst (v := nI 1) d_Text_append_67 (by decide) ?_
      refine g_ret_i d_Text_append_68 rfl rfl ⟨_, rfl, rfl, f, ?_, fun j _ => rfl, fun j _ _ => by omega⟩
      rw [nI_add, gup_id h2]
    · omega
  | succ r ih =>
    intro i h f hi h1 h2
    have hne : a ≠ ca := gne h1 h2 (by simp)
    refine g_iload d_Text_append_26 rfl ?_
    refine g_iload_n d_Text_append_28 rfl ?_
    refine g_icmpN_ge (tgt := 57) d_Text_append_29 (by decide) (rfl) (rfl) (by omega) (by omega) (fun q => ?_) (fun q => ?_)
    · omega
    · refine g_aload_n d_Text_append_32 rfl ?_
      refine g_get d_Text_append_33 f_Text_9 (h1) rfl ?_
      refine g_aload_n d_Text_append_36 rfl ?_
      refine g_get d_Text_append_37 f_Text_19 (h1) rfl ?_
      refine g_iload d_Text_append_40 rfl ?_
      refine g_iadd d_Text_append_42 ?_
      refine g_lload_n d_Text_append_43 rfl ?_
      refine g_iload d_Text_append_44 rfl ?_
      refine g_callR (c_Text_character hst row (by omega)) gm_Text_character d_Text_append_46 (gInv_s (As := [.long row, .int (nI i)]) (rest := [.int (nI m + nI i), .ref ca]) d_Text_append_46 gm_Text_character gs_Text_23) (Nat.le_of_ble_eq_true rfl) (Nat.le_of_ble_eq_true rfl) (Nat.le_of_ble_eq_true rfl) (Nat.le_of_ble_eq_true rfl) (Nat.le_of_ble_eq_true rfl) ?_
      have hc := hch i q
      refine g_i2c d_Text_append_49 ?_
      rw [i2c_N (by omega)]
      refine g_cast d_Text_append_50 (h2) (nI_add m i) (by omega) (by decide) ((pk_charN (by omega)).1) ?_
      refine g_iinc d_Text_append_51 rfl (nI_inc _) (Nat.le_of_ble_eq_true rfl) rfl ?_
      refine g_goto (tgt := 26) d_Text_append_54 (by decide) ?_
      refine g_post ?_ (ih (i + 1) _ (va_up f (m + i) (nI (rc row i))) (by omega) ((gup_n hne).trans h1) (gup_s _ _ _))
      rintro o h' ⟨v, rfl, rfl, f', rfl, e1, e2⟩
      refine ⟨_, rfl, rfl, f', by rw [gup_up], fun j hj => ?_, fun j hj hj2 => ?_⟩
      · rw [e1 j (by omega)]
        unfold va_up
        rw [if_neg (by omega)]
      · by_cases e : j = i
        · subst e
          rw [e1 (m + j) (by omega)]
          unfold va_up
          rw [if_pos rfl]
        · exact e2 j (by omega) hj2
/-- what type does: whether the row is taken, and the text behind it -/
def tyOk (row : Int64) (tx : List Nat) : Option Nat := match rcnt row 8 0 with
  | none => none
  | some n => if 96 < tx.length + n then none else some n
theorem c_Text_append {K : gK} {h : gH} (hst : K.1.stackTraces = false) (row : Int64) {a ca : Nat} {tx : List Nat} (ht : gTx h a ca tx) : Ct K r_Text_append M_Text_append [.ref a, .long row] h (gRx fun v h' => match tyOk row tx with
    | none => v = some (.int 0) ∧ h' = h
    | some n => v = some (.int 1) ∧ gTx h' a ca (tx ++ rchs row n 0) ∧ ∀ b, b ≠ a → b ≠ ca → h' b = h b) := by
  have hne := ht.ne
  obtain ⟨f, h1, h2, h3, h4, h5⟩ := ht
  refine Ct.of hst (by decide) (Or.inl rfl) (Nat.le_of_ble_eq_true rfl) ?_
  refine g_lload_n d_Text_append_0 rfl ?_
  refine g_callR (c_Text_count hst row) gm_Text_countCharacters d_Text_append_1 (gInv_s (As := [.long row]) (rest := []) d_Text_append_1 gm_Text_countCharacters gs_Text_15) (Nat.le_of_ble_eq_true rfl) (Nat.le_of_ble_eq_true rfl) (Nat.le_of_ble_eq_true rfl) (Nat.le_of_ble_eq_true rfl) (Nat.le_of_ble_eq_true rfl) ?_
  unfold tyOk
  cases hr : rcnt row 8 0 with
  | none =>
    refine g_istore_n d_Text_append_4 rfl (Nat.le_of_ble_eq_true rfl) rfl ?_
    refine g_iload_n d_Text_append_5 rfl ?_
    refine g_iconst (v := -1) d_Text_append_6 (by decide) ?_
    refine g_icmp_eq (tgt := 21) d_Text_append_7 (by decide) (fun q => ?_) (fun q => ?_)
    · refine g_iconst (v := nI 0) d_Text_append_21 (by decide) ?_
      exact g_ret_i d_Text_append_22 rfl rfl ⟨_, rfl, rfl, rfl⟩
    · exact absurd rfl q
  | some n =>
    have hle := rcnt_le hr
    refine g_istore_n d_Text_append_4 rfl (Nat.le_of_ble_eq_true rfl) rfl ?_
    refine g_iload_n d_Text_append_5 rfl ?_
    refine g_iconst (v := -1) d_Text_append_6 (by decide) ?_
    refine g_icmp_eq (tgt := 21) d_Text_append_7 (by decide) (fun q => ?_) (fun q => ?_)
    · exact absurd q (nI_neg1 (by omega))
    · refine g_aload_n d_Text_append_10 rfl ?_
      refine g_get d_Text_append_11 f_Text_19 (h1) rfl ?_
      refine g_iload_n d_Text_append_14 rfl ?_
      refine g_iadd d_Text_append_15 ?_
      refine g_bipush (v := nI 96) d_Text_append_16 (by decide) ?_
      refine g_icmpN_le (tgt := 23) d_Text_append_18 (by decide) (nI_add _ _) (rfl) (by omega) (by decide) (fun q => ?_) (fun q => ?_)
      · refine g_iconst (v := nI 0) d_Text_append_23 (by decide) ?_
        refine g_istore d_Text_append_24 (Nat.le_of_ble_eq_true rfl) rfl ?_
        refine g_post ?_ (l_Text_append hst row q (by omega) (fun k hk => by have := (rcnt_in hr k (by omega) hk).2; omega) n 0 h f (by omega) h1 h2)
        rintro o h' ⟨v, rfl, rfl, f', rfl, e1, e2⟩
        refine ⟨_, rfl, ?_⟩
        dsimp only
        rw [if_neg (by omega)]
        refine ⟨rfl, ⟨f', ?_, ?_, ?_, ?_, ?_⟩, ?_⟩
        · rw [gup_s, List.length_append, rchs_len]
        · rw [gup_n hne.symm, gup_s]
        · rw [List.length_append, rchs_len]; exact q
        · intro i hi
          rw [List.length_append, rchs_len] at hi
          by_cases hlt : i < tx.length
          · rw [e1 i (by omega), h4 i hlt]
            simp [List.getD, hlt, List.getElem?_append_left hlt]
          · obtain ⟨j, rfl⟩ : ∃ j, i = tx.length + j := ⟨i - tx.length, by omega⟩
            rw [e2 j (by omega) (by omega)]
            congr 1
            have := rchs_get row n 0 j (by omega)
            rw [Nat.zero_add] at this
            rw [← this]
            simp [List.getD, List.getElem?_append_right]
        · intro c hc
          rcases List.mem_append.mp hc with hc | hc
          · exact h5 c hc
          · obtain ⟨j, hj, e⟩ := List.getElem_of_mem hc
            rw [rchs_len] at hj
            have h9 := rchs_get row n 0 j hj
            have h8 : (rchs row n 0).getD j 0 = c := by simp [List.getD, rchs_len, hj, e]
            rw [h8, Nat.zero_add] at h9
            rw [h9]
            exact rcnt_in hr j (by omega) hj
        · intro b hb1 hb2
          rw [gup_n hb1, gup_n hb2]
      · refine g_iconst (v := nI 0) d_Text_append_21 (by decide) ?_
        refine g_ret_i d_Text_append_22 rfl rfl ⟨_, rfl, ?_⟩
        dsimp only
        rw [if_pos q]
        exact ⟨rfl, rfl⟩
