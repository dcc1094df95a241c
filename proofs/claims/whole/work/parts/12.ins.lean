/-! ===== numbers: or, shifts, bits of small naturals ===== -/
theorem nI_or (a b : Nat) : nI a ||| nI b = nI (a ||| b) := by
  apply Int32.toBitVec_inj.mp
  show BitVec.ofNat 32 a ||| BitVec.ofNat 32 b = BitVec.ofNat 32 (a ||| b)
  rw [BitVec.ofNat_or]
theorem nI_and2 (a b : Nat) : nI a &&& nI b = nI (a &&& b) := nx_and a b
theorem nI_shl {n k : Nat} (hk : k < 32) (h : n * 2 ^ k < 2 ^ 32) : nI n <<< (nI k &&& 31) = nI (n * 2 ^ k) := pk_shlN _ k (s_l k hk) h
theorem nI_shl1 {k : Nat} (hk : k < 32) : nI 1 <<< (nI k &&& 31) = nI (2 ^ k) := by
  have h : 1 * 2 ^ k < 2 ^ 32 := by
    rw [Nat.one_mul]
    exact Nat.pow_lt_pow_right (by decide) hk
  rw [nI_shl hk h, Nat.one_mul]
theorem nI_shr {n k : Nat} (hn : n < 2 ^ 31) (hk : k < 32) : nI n >>> (nI k &&& 31) = nI (n / 2 ^ k) := pk_shrN hn _ k (s_l k hk)
theorem nI_bit {n k : Nat} (hn : n < 2 ^ 31) (hk : k < 32) : (nI n >>> (nI k &&& 31)) &&& nI 1 = nI (n / 2 ^ k % 2) := by
  rw [nI_shr hn hk]
  have h1 : n / 2 ^ k < 2 ^ 32 := Nat.lt_of_le_of_lt (Nat.div_le_self _ _) (by omega)
  rw [pk_andN h1 1 (by decide)]
theorem nI_z {n : Nat} (hn : n < 2 ^ 31) : nI n = 0 ↔ n = 0 := nI_eq hn (by decide)
def bI (b : Bool) : Int32 := if b then 1 else 0
theorem bI_n (b : Bool) : narrow .boolean (.int (bI b)) = .int (bI b) := by cases b <;> rfl
theorem bI_z (b : Bool) : bI b = 0 ↔ b = false := by cases b <;> decide
/-- a mask of twelve -/
theorem or_lt {t k : Nat} (ht : t < 4096) (hk : k < 12) : t ||| 2 ^ k < 4096 := Nat.or_lt_two_pow (n := 12) ht (Nat.pow_lt_pow_right (by decide) hk)
/-! ===== Instance ===== -/
def gIn (h : gH) (a t f : Nat) : Prop := h a = some (.inr (6, [.int (nI t), .int (nI f)])) ∧ t < 4096 ∧ f < 4096
theorem c_Ins_clear {K : gK} {h : gH} (hst : K.1.stackTraces = false) {a t f : Nat} (hv : gIn h a t f) : Ct K r_Ins_clear M_Ins_clear [.ref a] h (gRx fun v h' => v = none ∧ gIn h' a 0 0 ∧ gKp h h' [a]) := by
  refine Ct.of hst (by decide) (Or.inl rfl) (Nat.le_of_ble_eq_true rfl) ?_
  refine g_aload_n d_Ins_clear_0 rfl ?_
  refine g_iconst (v := nI 0) d_Ins_clear_1 (by decide) ?_
  refine g_put (fs' := [_, _]) d_Ins_clear_2 f_Ins_9 (hv.1) rfl rfl (Nat.le_of_ble_eq_true rfl) rfl ?_
  refine g_aload_n d_Ins_clear_5 rfl ?_
  refine g_iconst (v := nI 0) d_Ins_clear_6 (by decide) ?_
  refine g_put (fs' := [_, _]) d_Ins_clear_7 f_Ins_15 (gup_s _ _ _) rfl rfl (Nat.le_of_ble_eq_true rfl) rfl ?_
  refine g_ret_v d_Ins_clear_10 rfl ⟨_, rfl, rfl, ⟨gup_s _ _ _, by decide, by decide⟩, (gKp.rf.up (by simp)).up (by simp)⟩
theorem c_Ins_add {K : gK} {h : gH} (hst : K.1.stackTraces = false) {a t f k : Nat} (hv : gIn h a t f) (hk : k < 12) (b : Bool) : Ct K r_Ins_add M_Ins_add [.ref a, .int (nI k), .int (bI b)] h (gRx fun v h' => v = none ∧ gIn h' a (if b then t else t ||| 2 ^ k) (if b then f ||| 2 ^ k else f) ∧ gKp h h' [a]) := by
  refine Ct.of hst (by decide) (Or.inl rfl) (Nat.le_of_ble_eq_true rfl) ?_
  refine g_iload_n d_Ins_add_0 rfl ?_
  refine g_if_eq (tgt := 19) d_Ins_add_1 (by decide) (fun q => ?_) (fun q => ?_)
  · have e := (bI_z b).mp q
    subst e
    refine g_aload_n d_Ins_add_19 rfl ?_
    refine g_dup d_Ins_add_20 rfl ?_
    refine g_get d_Ins_add_21 f_Ins_9 (hv.1) rfl ?_
    refine g_iconst (v := nI 1) d_Ins_add_24 (by decide) ?_
    refine g_iload_n d_Ins_add_25 rfl ?_
    refine g_ishl d_Ins_add_26 ?_
    refine g_ior d_Ins_add_27 ?_
    refine g_put (fs' := [_, _]) d_Ins_add_28 f_Ins_9 (hv.1) rfl rfl (Nat.le_of_ble_eq_true rfl) rfl ?_
    rw [nI_shl1 (by omega), nI_or]
    exact g_ret_v d_Ins_add_31 rfl ⟨_, rfl, rfl, ⟨gup_s _ _ _, or_lt hv.2.1 hk, hv.2.2⟩, gKp.rf.up (by simp)⟩
  · have e : b = true := by
      cases b
      · exact absurd rfl q
      · rfl
    subst e
    refine g_aload_n d_Ins_add_4 rfl ?_
    refine g_dup d_Ins_add_5 rfl ?_
    refine g_get d_Ins_add_6 f_Ins_15 (hv.1) rfl ?_
    refine g_iconst (v := nI 1) d_Ins_add_9 (by decide) ?_
    refine g_iload_n d_Ins_add_10 rfl ?_
    refine g_ishl d_Ins_add_11 ?_
    refine g_ior d_Ins_add_12 ?_
    refine g_put (fs' := [_, _]) d_Ins_add_13 f_Ins_15 (hv.1) rfl rfl (Nat.le_of_ble_eq_true rfl) rfl ?_
    refine g_goto (tgt := 31) d_Ins_add_16 (by decide) ?_
    rw [nI_shl1 (by omega), nI_or]
    exact g_ret_v d_Ins_add_31 rfl ⟨_, rfl, rfl, ⟨gup_s _ _ _, hv.2.1, or_lt hv.2.2 hk⟩, gKp.rf.up (by simp)⟩
theorem c_Ins_wants {K : gK} {h : gH} (hst : K.1.stackTraces = false) {a t f k : Nat} (hv : gIn h a t f) (hk : k < 12) (b : Bool) : Ct K r_Ins_wants M_Ins_wants [.ref a, .int (nI k), .int (bI b)] h (gRt (some (.int (bI (decide ((if b then t else f) / 2 ^ k % 2 = 1))))) h) := by
  refine Ct.of hst (by decide) (Or.inl rfl) (Nat.le_of_ble_eq_true rfl) ?_
  have key : ∀ x : Nat, x < 4096 → Go K M_Ins_wants r_Ins_wants 15 [(0, .ref a), (1, .int (nI k)), (2, .int (bI b))] [.int (nI x)] h 0 0 (gRt (some (.int (bI (decide (x / 2 ^ k % 2 = 1))))) h) := by
    intro x hx
    refine g_iload_n d_Ins_wants_15 rfl ?_
    refine g_ishr d_Ins_wants_16 ?_
    refine g_iconst (v := nI 1) d_Ins_wants_17 (by decide) ?_
    refine g_iand d_Ins_wants_18 ?_
    rw [nI_bit (by omega) (by omega)]
    have h2 : x / 2 ^ k % 2 < 2 := Nat.mod_lt _ (by decide)
    refine g_if_eq (tgt := 26) d_Ins_wants_19 (by decide) (fun q => ?_) (fun q => ?_)
    · have e := (nI_z (by omega)).mp q
      refine g_iconst (v := nI 0) d_Ins_wants_26 (by decide) ?_
      refine g_ret_i d_Ins_wants_27 rfl rfl ⟨?_, rfl⟩
      rw [e]
      rfl
    · have e : x / 2 ^ k % 2 = 1 := by
        have : ¬ x / 2 ^ k % 2 = 0 := fun z => q ((nI_z (by omega)).mpr z)
        omega
      refine g_iconst (v := nI 1) d_Ins_wants_22 (by decide) ?_
      refine g_goto (tgt := 27) d_Ins_wants_23 (by decide) ?_
      refine g_ret_i d_Ins_wants_27 rfl rfl ⟨?_, rfl⟩
      rw [e]
      rfl
  refine g_iload_n d_Ins_wants_0 rfl ?_
  refine g_if_eq (tgt := 11) d_Ins_wants_1 (by decide) (fun q => ?_) (fun q => ?_)
  · have e := (bI_z b).mp q
    subst e
    refine g_aload_n d_Ins_wants_11 rfl ?_
    refine g_get d_Ins_wants_12 f_Ins_15 (hv.1) rfl ?_
    exact key f hv.2.2
  · have e : b = true := by
      cases b
      · exact absurd rfl q
      · rfl
    subst e
    refine g_aload_n d_Ins_wants_4 rfl ?_
    refine g_get d_Ins_wants_5 f_Ins_9 (hv.1) rfl ?_
    refine g_goto (tgt := 15) d_Ins_wants_8 (by decide) ?_
    exact key t hv.2.1
theorem c_Ins_isLeftOut {K : gK} {h : gH} (hst : K.1.stackTraces = false) {a t f : Nat} (hv : gIn h a t f) : Ct K r_Ins_isLeftOut M_Ins_isLeftOut [.ref a] h (gRt (some (.int (bI (decide (¬ t &&& f = 0))))) h) := by
  have hlt : t &&& f < 4096 := Nat.lt_of_le_of_lt Nat.and_le_left hv.2.1
  refine Ct.of hst (by decide) (Or.inl rfl) (Nat.le_of_ble_eq_true rfl) ?_
  refine g_aload_n d_Ins_isLeftOut_0 rfl ?_
  refine g_get d_Ins_isLeftOut_1 f_Ins_9 (hv.1) rfl ?_
  refine g_aload_n d_Ins_isLeftOut_4 rfl ?_
  refine g_get d_Ins_isLeftOut_5 f_Ins_15 (hv.1) rfl ?_
  refine g_iand d_Ins_isLeftOut_8 ?_
  rw [nI_and2]
  refine g_if_eq (tgt := 16) d_Ins_isLeftOut_9 (by decide) (fun q => ?_) (fun q => ?_)
  · have e := (nI_z (by omega)).mp q
    refine g_iconst (v := nI 0) d_Ins_isLeftOut_16 (by decide) ?_
    refine g_ret_i d_Ins_isLeftOut_17 rfl rfl ⟨?_, rfl⟩
    rw [e]
    rfl
  · have e : ¬ t &&& f = 0 := fun z => q ((nI_z (by omega)).mpr z)
    refine g_iconst (v := nI 1) d_Ins_isLeftOut_12 (by decide) ?_
    refine g_goto (tgt := 17) d_Ins_isLeftOut_13 (by decide) ?_
    refine g_ret_i d_Ins_isLeftOut_17 rfl rfl ⟨?_, rfl⟩
    simp [e, bI]
    rfl
theorem c_Ins_code {K : gK} {h : gH} (hst : K.1.stackTraces = false) {a t f : Nat} (hv : gIn h a t f) : Ct K r_Ins_code M_Ins_code [.ref a] h (gRt (some (.int (nI (f * 4096 + t)))) h) := by
  refine Ct.of hst (by decide) (Or.inl rfl) (Nat.le_of_ble_eq_true rfl) ?_
  refine g_aload_n d_Ins_code_0 rfl ?_
  refine g_get d_Ins_code_1 f_Ins_15 (hv.1) rfl ?_
  refine g_bipush (v := nI 12) d_Ins_code_4 (by decide) ?_
  refine g_ishl d_Ins_code_6 ?_
  refine g_aload_n d_Ins_code_7 rfl ?_
  refine g_get d_Ins_code_8 f_Ins_9 (hv.1) rfl ?_
  refine g_ior d_Ins_code_11 ?_
  have h1 := hv.2.1
  have h2 := hv.2.2
  rw [nI_shl (by decide) (by omega), nI_or]
  have e : f * 2 ^ 12 ||| t = f * 4096 + t := by
    rw [Nat.mul_comm f (2 ^ 12), ← Nat.two_pow_add_eq_or_of_lt (i := 12) (by omega)]
  rw [e]
  exact g_ret_i d_Ins_code_12 rfl rfl ⟨rfl, rfl⟩
/-! ===== InstanceSet ===== -/
def gIs (h : gH) (a ca cap : Nat) (l : List Nat) : Prop := cap < 65536 ∧ l.length ≤ cap ∧ (∀ c ∈ l, c < 2 ^ 31) ∧ ∃ f : Nat → Int32, h a = some (.inr (7, [.ref ca, .int (nI l.length)])) ∧ h ca = some (.inl (0, cap, .inl f)) ∧ ∀ i, i < l.length → f i = nI (l.getD i 0)
theorem gIs.ne {h : gH} {a ca cap : Nat} {l : List Nat} (hv : gIs h a ca cap l) : a ≠ ca := by
  obtain ⟨-, -, -, f, h1, h2, -⟩ := hv
  exact gne h1 h2 (by simp)
theorem c_Iset_clear {K : gK} {h : gH} (hst : K.1.stackTraces = false) {a ca cap : Nat} {l : List Nat} (hv : gIs h a ca cap l) : Ct K r_Iset_clear M_Iset_clear [.ref a] h (gRx fun v h' => v = none ∧ gIs h' a ca cap [] ∧ gKp h h' [a]) := by
  have hne := hv.ne
  obtain ⟨h0, h1, h2, f, h3, h4, h5⟩ := hv
  refine Ct.of hst (by decide) (Or.inl rfl) (Nat.le_of_ble_eq_true rfl) ?_
  refine g_aload_n d_Iset_clear_0 rfl ?_
  refine g_iconst (v := nI 0) d_Iset_clear_1 (by decide) ?_
  refine g_put (fs' := [_, _]) d_Iset_clear_2 f_Iset_13 (h3) rfl rfl (Nat.le_of_ble_eq_true rfl) rfl ?_
  exact g_ret_v d_Iset_clear_5 rfl ⟨_, rfl, rfl, ⟨h0, Nat.zero_le _, (fun c hc => absurd hc List.not_mem_nil), f, gup_s _ _ _, (gup_n (Ne.symm hne)).trans h4, fun i hi => absurd hi (Nat.not_lt_zero _)⟩, gKp.rf.up (by simp)⟩
theorem l_Iset_add {K : gK} {h : gH} {a ca cap c : Nat} {l : List Nat} (hv : gIs h a ca cap l) (hc : c < 2 ^ 31) (hcap : c ∉ l → l.length < cap) : ∀ (r i : Nat), i + r = l.length → (∀ j, j < i → l.getD j 0 ≠ c) → Go K M_Iset_add r_Iset_add 2 [(0, .ref a), (1, .int (nI c)), (2, .int (nI i))] [] h 0 0 (gRx fun v h' => if c ∈ l then v = some (.int 0) ∧ h' = h else v = some (.int 1) ∧ gIs h' a ca cap (l ++ [c]) ∧ gKp h h' [a, ca]) := by
  have hne := hv.ne
  obtain ⟨h0, h1, h2, f, h3, h4, h5⟩ := hv
  intro r
  induction r with
  | zero =>
    intro i hi hj
    have hni : c ∉ l := fun hm => by
      obtain ⟨j, hj2, e⟩ := List.getElem_of_mem hm
      exact hj j (by omega) (by simp [List.getD, hj2, e])
    have hlt := hcap hni
    refine g_iload_n d_Iset_add_2 rfl ?_
    refine g_aload_n d_Iset_add_3 rfl ?_
    refine g_get d_Iset_add_4 f_Iset_13 (h3) rfl ?_
    refine g_icmpN_ge (tgt := 28) d_Iset_add_7 (by decide) (rfl) (rfl) (by omega) (by omega) (fun q => ?_) (fun q => ?_)
    · refine g_aload_n d_Iset_add_28 rfl ?_
      refine g_get d_Iset_add_29 f_Iset_13 (h3) rfl ?_
      refine g_aload_n d_Iset_add_32 rfl ?_
      refine g_get d_Iset_add_33 f_Iset_7 (h3) rfl ?_
      refine g_alen d_Iset_add_36 (by decide) (h4) ?_
      refine g_icmpN_ge (tgt := 60) d_Iset_add_37 (by decide) (rfl) (rfl) (by omega) (by omega) (fun q => ?_) (fun q => ?_)
      · omega
      · refine g_aload_n d_Iset_add_40 rfl ?_
        refine g_get d_Iset_add_41 f_Iset_7 (h3) rfl ?_
        refine g_aload_n d_Iset_add_44 rfl ?_
        refine g_get d_Iset_add_45 f_Iset_13 (h3) rfl ?_
        refine g_iload_n d_Iset_add_48 rfl ?_
        refine g_iast d_Iset_add_49 h4 rfl hlt (by omega) ?_
        refine g_aload_n d_Iset_add_50 rfl ?_
        refine g_dup d_Iset_add_51 rfl ?_
        refine g_get d_Iset_add_52 f_Iset_13 ((gup_n hne).trans h3) rfl ?_
        refine g_iconst (v := nI 1) d_Iset_add_55 (by decide) ?_
        refine g_iadd d_Iset_add_56 ?_
        refine g_put (fs' := [_, _]) d_Iset_add_57 f_Iset_13 ((gup_n hne).trans h3) rfl rfl (Nat.le_of_ble_eq_true rfl) rfl ?_
        refine g_iconst (v := nI 1) d_Iset_add_60 (by decide) ?_
        refine g_ret_i d_Iset_add_61 rfl rfl ⟨_, rfl, ?_⟩
        dsimp only
        rw [if_neg hni]
        refine ⟨rfl, ⟨h0, by simp; omega, fun x hx => ?_, va_up f l.length (nI c), ?_, ?_, fun j hj => ?_⟩, (gKp.rf.up (by simp)).up (by simp)⟩
        · rcases List.mem_append.mp hx with hx | hx
          · exact h2 x hx
          · rw [List.mem_singleton.mp hx]
            exact hc
        · rw [gup_s, nI_add]
          simp
        · rw [gup_n (Ne.symm hne), gup_s]
        · simp at hj
          unfold va_up
          by_cases e : j = l.length
          · rw [if_pos e, e]
            simp [List.getD]
          · rw [if_neg e, h5 j (by omega)]
            simp [List.getD, List.getElem?_append_left (show j < l.length by omega)]
    · omega
  | succ r ih =>
    intro i hi hj
    refine g_iload_n d_Iset_add_2 rfl ?_
    refine g_aload_n d_Iset_add_3 rfl ?_
    refine g_get d_Iset_add_4 f_Iset_13 (h3) rfl ?_
    refine g_icmpN_ge (tgt := 28) d_Iset_add_7 (by decide) (rfl) (rfl) (by omega) (by omega) (fun q => ?_) (fun q => ?_)
    · omega
    · refine g_aload_n d_Iset_add_10 rfl ?_
      refine g_get d_Iset_add_11 f_Iset_7 (h3) rfl ?_
      refine g_iload_n d_Iset_add_14 rfl ?_
      refine g_iald d_Iset_add_15 h4 rfl (by omega) (by omega) ?_
      rw [h5 i q]
      refine g_iload_n d_Iset_add_16 rfl ?_
      have hl : l.getD i 0 ∈ l := by simp [List.getD, q]
      refine g_icmpN_ne (tgt := 22) d_Iset_add_17 (by decide) (rfl) (rfl) (h2 _ hl) (hc) (fun q => ?_) (fun q => ?_)
      · refine g_iinc d_Iset_add_22 rfl (nI_inc _) (Nat.le_of_ble_eq_true rfl) rfl ?_
        refine g_goto (tgt := 2) d_Iset_add_25 (by decide) ?_
        exact ih (i + 1) (by omega) (fun j hj2 => by
          by_cases e : j = i
          · rw [e]; assumption
          · exact hj j (by omega))
      · refine g_iconst (v := nI 0) d_Iset_add_20 (by decide) ?_
        refine g_ret_i d_Iset_add_21 rfl rfl ⟨_, rfl, ?_⟩
        dsimp only
        rw [if_pos (q ▸ hl)]
        exact ⟨rfl, rfl⟩
theorem c_Iset_add {K : gK} {h : gH} (hst : K.1.stackTraces = false) {a ca cap c : Nat} {l : List Nat} (hv : gIs h a ca cap l) (hc : c < 2 ^ 31) (hcap : c ∉ l → l.length < cap) : Ct K r_Iset_add M_Iset_add [.ref a, .int (nI c)] h (gRx fun v h' => if c ∈ l then v = some (.int 0) ∧ h' = h else v = some (.int 1) ∧ gIs h' a ca cap (l ++ [c]) ∧ gKp h h' [a, ca]) := by
  refine Ct.of hst (by decide) (Or.inl rfl) (Nat.le_of_ble_eq_true rfl) ?_
  refine g_iconst (v := nI 0) d_Iset_add_0 (by decide) ?_
  refine g_istore_n d_Iset_add_1 rfl (Nat.le_of_ble_eq_true rfl) rfl ?_
  exact l_Iset_add hv hc hcap l.length 0 (by omega) (fun j hj => absurd hj (Nat.not_lt_zero _))
