/-! ===== what a text says: characters, arguments, literals, joints ===== -/
def prd (c : Nat) : Option Nat := if 80 ≤ c ∧ c ≤ 83 then some (c - 80) else none
def arg (c : Nat) : Option Nat := if 97 ≤ c ∧ c ≤ 99 then some (c - 97) else if 120 ≤ c ∧ c ≤ 122 then some (c - 120 + 3) else none
theorem prd_lt {c x : Nat} (h : prd c = some x) : x < 4 ∧ c ≠ 0 := by
  unfold prd at h
  split at h
  · cases h; omega
  · cases h
theorem arg_lt {c x : Nat} (h : arg c = some x) : x < 6 ∧ c ≠ 0 := by
  unfold arg at h
  split at h
  · cases h; omega
  · split at h
    · cases h; omega
    · cases h
theorem getD_len {tx : List Nat} {p : Nat} (h : tx.getD p 0 ≠ 0) : p < tx.length := by
  apply Classical.byContradiction
  intro hn
  apply h
  simp [List.getD, Nat.not_lt.mp hn]
/-- how many atoms there are -/
def atc (w : Nat → Int32) (c : Nat) : Nat := fat (tcn c) w 4
theorem cnt_le {n : Nat} (hn : n ≤ 3) (x : Int32) : cnt n x ≤ 9 := by
  have : n * n ≤ 3 * 3 := Nat.mul_le_mul hn hn
  unfold cnt
  repeat' split
  all_goals omega
theorem atc_le (w : Nat → Int32) (c : Nat) : atc w c ≤ 36 := by
  have h := tcn_le c
  have h0 := cnt_le h (w 0)
  have h1 := cnt_le h (w 1)
  have h2 := cnt_le h (w 2)
  have h3 := cnt_le h (w 3)
  unfold atc fat fat fat fat fat
  omega
theorem c_Rd_predicateOf {K : gK} {h : gH} (hst : K.1.stackTraces = false) {c : Nat} (hc : c < 65536) : Ct K r_Rd_predicateOf M_Rd_predicateOf [.int (nI c)] h (gRt (some (.int (rcv (prd c)))) h) := by
  refine Ct.of hst (by decide) (Or.inl rfl) (Nat.le_of_ble_eq_true rfl) ?_
  unfold prd
  refine g_iload_n d_Rd_predicateOf_0 rfl ?_
  refine g_bipush (v := nI 80) d_Rd_predicateOf_1 (by decide) ?_
  refine g_icmpN_lt (tgt := 19) d_Rd_predicateOf_3 (by decide) (rfl) (rfl) (by omega) (by decide) (fun q => ?_) (fun q => ?_)
  · refine g_iconst (v := -1) d_Rd_predicateOf_19 (by decide) ?_
    refine g_ret_i d_Rd_predicateOf_20 rfl rfl ⟨?_, rfl⟩
    rw [if_neg (by omega)]
    rfl
  · refine g_iload_n d_Rd_predicateOf_6 rfl ?_
    refine g_bipush (v := nI 83) d_Rd_predicateOf_7 (by decide) ?_
    refine g_icmpN_gt (tgt := 19) d_Rd_predicateOf_9 (by decide) (rfl) (rfl) (by omega) (by decide) (fun q => ?_) (fun q => ?_)
    · refine g_iconst (v := -1) d_Rd_predicateOf_19 (by decide) ?_
      refine g_ret_i d_Rd_predicateOf_20 rfl rfl ⟨?_, rfl⟩
      rw [if_neg (by omega)]
      rfl
    · refine g_iload_n d_Rd_predicateOf_12 rfl ?_
      refine g_bipush (v := nI 80) d_Rd_predicateOf_13 (by decide) ?_
      refine g_isub d_Rd_predicateOf_15 ?_
      refine g_goto (tgt := 20) d_Rd_predicateOf_16 (by decide) ?_
      rw [pk_sub (by omega)]
      refine g_ret_i d_Rd_predicateOf_20 rfl rfl ⟨?_, rfl⟩
      rw [if_pos (by omega)]
      rfl
theorem c_Rd_argumentOf {K : gK} {h : gH} (hst : K.1.stackTraces = false) {c : Nat} (hc : c < 65536) : Ct K r_Rd_argumentOf M_Rd_argumentOf [.int (nI c)] h (gRt (some (.int (rcv (arg c)))) h) := by
  have key : ¬ (97 ≤ c ∧ c ≤ 99) → Go K M_Rd_argumentOf r_Rd_argumentOf 17 [(0, .int (nI c))] [] h 0 0 (gRt (some (.int (rcv (arg c)))) h) := by
    intro hn
    unfold arg
    rw [if_neg hn]
    refine g_iload_n d_Rd_argumentOf_17 rfl ?_
    refine g_bipush (v := nI 120) d_Rd_argumentOf_18 (by decide) ?_
    refine g_icmpN_lt (tgt := 38) d_Rd_argumentOf_20 (by decide) (rfl) (rfl) (by omega) (by decide) (fun q => ?_) (fun q => ?_)
    · refine g_iconst (v := -1) d_Rd_argumentOf_38 (by decide) ?_
      refine g_ret_i d_Rd_argumentOf_39 rfl rfl ⟨?_, rfl⟩
      rw [if_neg (by omega)]
      rfl
    · refine g_iload_n d_Rd_argumentOf_23 rfl ?_
      refine g_bipush (v := nI 122) d_Rd_argumentOf_24 (by decide) ?_
      refine g_icmpN_gt (tgt := 38) d_Rd_argumentOf_26 (by decide) (rfl) (rfl) (by omega) (by decide) (fun q => ?_) (fun q => ?_)
      · refine g_iconst (v := -1) d_Rd_argumentOf_38 (by decide) ?_
        refine g_ret_i d_Rd_argumentOf_39 rfl rfl ⟨?_, rfl⟩
        rw [if_neg (by omega)]
        rfl
      · refine g_iconst (v := nI 3) d_Rd_argumentOf_29 (by decide) ?_
        refine g_iload_n d_Rd_argumentOf_30 rfl ?_
        refine g_iadd d_Rd_argumentOf_31 ?_
        refine g_bipush (v := nI 120) d_Rd_argumentOf_32 (by decide) ?_
        refine g_isub d_Rd_argumentOf_34 ?_
        refine g_goto (tgt := 39) d_Rd_argumentOf_35 (by decide) ?_
        rw [nI_add, pk_sub (by omega)]
        refine g_ret_i d_Rd_argumentOf_39 rfl rfl ⟨?_, rfl⟩
        rw [if_pos (by omega), show 3 + c - 120 = c - 120 + 3 by omega]
        rfl
  refine Ct.of hst (by decide) (Or.inl rfl) (Nat.le_of_ble_eq_true rfl) ?_
  refine g_iload_n d_Rd_argumentOf_0 rfl ?_
  refine g_bipush (v := nI 97) d_Rd_argumentOf_1 (by decide) ?_
  refine g_icmpN_lt (tgt := 17) d_Rd_argumentOf_3 (by decide) (rfl) (rfl) (by omega) (by decide) (fun q => ?_) (fun q => ?_)
  · exact key (by omega)
  · refine g_iload_n d_Rd_argumentOf_6 rfl ?_
    refine g_bipush (v := nI 99) d_Rd_argumentOf_7 (by decide) ?_
    refine g_icmpN_gt (tgt := 17) d_Rd_argumentOf_9 (by decide) (rfl) (rfl) (by omega) (by decide) (fun q => ?_) (fun q => ?_)
    · exact key (by omega)
    · refine g_iload_n d_Rd_argumentOf_12 rfl ?_
      refine g_bipush (v := nI 97) d_Rd_argumentOf_13 (by decide) ?_
      refine g_isub d_Rd_argumentOf_15 ?_
      rw [pk_sub (by omega)]
      refine g_ret_i d_Rd_argumentOf_16 rfl rfl ⟨?_, rfl⟩
      unfold arg
      rw [if_pos (by omega)]
      rfl
/-- arguments from place p on, at most r more of them, n were read: (good, how many, place, constants, first, second) -/
def rdA (tx : List Nat) (w : Nat → Int32) : Nat → Nat → Nat → Nat → Nat → Nat → Bool × Nat × Nat × Nat × Nat × Nat
  | 0, n, p, c, a1, a2 => (true, n, p, c, a1, a2)
  | r + 1, n, p, c, a1, a2 => match arg (tx.getD p 0) with
    | none => (true, n, p, c, a1, a2)
    | some a => if 12 < atc w (if a < 3 then c ||| 2 ^ a else c) then (false, n, p, (if a < 3 then c ||| 2 ^ a else c), a1, a2) else rdA tx w r (n + 1) (p + 1) (if a < 3 then c ||| 2 ^ a else c) (if n = 0 then a else a1) (if n = 1 then a else a2)
/-- .. and what follows them: (good, place, widths, constants, how many, first, second) -/
def rdT (w : Nat → Int32) (x : Nat) (q : Bool × Nat × Nat × Nat × Nat × Nat) : Bool × Nat × (Nat → Int32) × Nat × Nat × Nat × Nat :=
  if q.1 = false then (false, q.2.2.1, w, q.2.2.2.1, q.2.1, q.2.2.2.2.1, q.2.2.2.2.2)
  else if w x = -1 then (decide (atc (va_up w x (nI q.2.1)) q.2.2.2.1 ≤ 12), q.2.2.1, va_up w x (nI q.2.1), q.2.2.2.1, q.2.1, q.2.2.2.2.1, q.2.2.2.2.2)
  else (decide (nI q.2.1 = w x), q.2.2.1, w, q.2.2.2.1, q.2.1, q.2.2.2.2.1, q.2.2.2.2.2)
theorem gTx.kp {h h' : gH} {a ca : Nat} {tx : List Nat} {L : List Nat} (ht : gTx h a ca tx) (hk : gKp h h' L) (h1 : a ∉ L) (h2 : ca ∉ L) : gTx h' a ca tx := by
  obtain ⟨f, q1, q2, q3⟩ := ht
  exact ⟨f, (hk a h1).trans q1, (hk ca h2).trans q2, q3⟩
/-- a literal's two arguments, n of them read -/
def gAr (h : gH) (g n a1 a2 : Nat) : Prop := ∃ f : Nat → Int32, h g = some (.inl (0, 2, .inl f)) ∧ (0 < n → f 0 = nI a1) ∧ (1 < n → f 1 = nI a2) ∧ ∀ j, j < 2 → ∃ k, k < 6 ∧ f j = nI k
/-- what readArguments leaves -/
def rdP (h : gH) (a va vaa vfa g : Nat) (v1 v2 v3 : Value) (z : Bool × Nat × (Nat → Int32) × Nat × Nat × Nat × Nat) (v : Option Value) (h' : gH) : Prop :=
  v = some (.int (bI z.1)) ∧ h' a = some (.inr (4, [.ref va, v1, v2, v3, .int (nI z.2.1)])) ∧ gVc h' va vaa vfa z.2.2.1 z.2.2.2.1 ∧ gAr h' g z.2.2.2.2.1 z.2.2.2.2.2.1 z.2.2.2.2.2.2 ∧ gKp h h' [a, va, vaa, vfa, g]
