section MODEL4
variable {K : gK} {h : gH} {Y : Nat → Nat} {F : Nat → Nat → Int32} {cd ty td nc nt th kk tg AA : Int32}
/-- bit t of the row of clause u's tables -/
def mhb (F : Nat → Nat → Int32) (u t : Nat) : Bool := bt (F 16 (128 * u + t / 32)) (t % 32)
/-- every clause of the sum s below u holds in table t -/
def hin (F : Nat → Nat → Int32) (s t : Nat) : Nat → Bool
  | 0 => true
  | u + 1 => hin F s t u && (decide (s / 2 ^ u % 2 = 0) || mhb F u t)
theorem bt_sh {x : Int32} {j : Nat} (hj : j < 32) : (x >>> (nI j &&& 31)) &&& nI 1 = nI (bt x j).toNat := by
  refine b_ext fun i hi => ?_
  have h1 : ∀ i, i < 32 → bt (nI 1) i = decide (i = 0) := by decide +kernel
  have h2 : ∀ b : Bool, ∀ i, i < 32 → bt (nI b.toNat) i = (decide (i = 0) && b) := by decide +kernel
  rw [b_and, b_sshr j hj x hi, h1 i hi, h2 _ i hi]
  by_cases e : i = 0
  · subst e
    simp [hj]
  · simp [e]
theorem l_Mod_holdsIn {k s t : Nat} (hm : gMb h Y F cd ty td nc nt th (nI k) tg AA) (hk : k ≤ 12) (hs : s < 2 ^ 31) (ht : t < 4096) : ∀ (r u : Nat), u + r = k → Go K M_Mod_holdsIn r_Mod_holdsIn 5 [(0, .ref (Y 0)), (1, .int (nI s)), (2, .int (nI t)), (3, .int (bI (hin F s t u))), (4, .int (nI u))] [] h 0 0 (gRt (some (.int (bI (hin F s t k)))) h) := by
  intro r
  induction r with
  | zero =>
    intro u hu
    have e : u = k := by omega
    subst e
    refine g_iload d_Mod_holdsIn_5 rfl ?_
    refine g_aload_n d_Mod_holdsIn_7 rfl ?_
    refine g_get d_Mod_holdsIn_8 f_Mod_105 (hm.2) rfl ?_
    refine g_icmpN_ge (tgt := 66) d_Mod_holdsIn_11 (by decide) (rfl) (rfl) (by omega) (by omega) (fun q => ?_) (fun q => ?_)
    · refine g_iload_n d_Mod_holdsIn_66 rfl ?_
      exact g_ret_i d_Mod_holdsIn_67 rfl (bI_n _) ⟨rfl, rfl⟩
    · omega
  | succ r ih =>
    intro u hu
    have fin : ∀ b : Bool, b = (hin F s t u && (decide (s / 2 ^ u % 2 = 0) || mhb F u t)) → Go K M_Mod_holdsIn r_Mod_holdsIn 59 [(0, .ref (Y 0)), (1, .int (nI s)), (2, .int (nI t)), (3, .int (bI (hin F s t u))), (4, .int (nI u))] [.int (bI b)] h 0 0 (gRt (some (.int (bI (hin F s t k)))) h) := by
      rintro b rfl
      refine g_istore_n d_Mod_holdsIn_59 rfl (Nat.le_of_ble_eq_true rfl) rfl ?_
      refine g_iinc d_Mod_holdsIn_60 rfl (nI_inc _) (Nat.le_of_ble_eq_true rfl) rfl ?_
      refine g_goto (tgt := 5) d_Mod_holdsIn_63 (by decide) ?_
      exact ih (u + 1) (by omega)
    refine g_iload d_Mod_holdsIn_5 rfl ?_
    refine g_aload_n d_Mod_holdsIn_7 rfl ?_
    refine g_get d_Mod_holdsIn_8 f_Mod_105 (hm.2) rfl ?_
    refine g_icmpN_ge (tgt := 66) d_Mod_holdsIn_11 (by decide) (rfl) (rfl) (by omega) (by omega) (fun q => ?_) (fun q => ?_)
    · omega
    · refine g_iload_n d_Mod_holdsIn_14 rfl ?_
      refine g_if_eq (tgt := 58) d_Mod_holdsIn_15 (by decide) (fun q => ?_) (fun q => ?_)
      · refine g_iconst (v := nI 0) d_Mod_holdsIn_58 (by decide) ?_
        refine fin false ?_
        rw [(bI_z _).mp q, Bool.false_and]
      · have q0 : hin F s t u = true := by
          cases e : hin F s t u
          · exact absurd ((bI_z _).mpr e) q
          · rfl
        rw [q0, Bool.true_and] at fin
        refine g_iload_n d_Mod_holdsIn_18 rfl ?_
        refine g_iload d_Mod_holdsIn_19 rfl ?_
        refine g_ishr d_Mod_holdsIn_21 ?_
        refine g_iconst (v := nI 1) d_Mod_holdsIn_22 (by decide) ?_
        refine g_iand d_Mod_holdsIn_23 ?_
        rw [nI_bit hs (by omega), q0]
        refine g_if_eq (tgt := 54) d_Mod_holdsIn_24 (by decide) (fun q => ?_) (fun q => ?_)
        · refine g_iconst (v := nI 1) d_Mod_holdsIn_54 (by decide) ?_
          refine g_goto (tgt := 59) d_Mod_holdsIn_55 (by decide) ?_
          refine fin true ?_
          rw [decide_eq_true ((nI_z (Nat.lt_trans (Nat.mod_lt _ (by decide)) (by decide))).mp q), Bool.true_or]
        · have q1 : ¬ s / 2 ^ u % 2 = 0 := fun z => q (by rw [z]; rfl)
          rw [decide_eq_false q1, Bool.false_or] at fin
          refine g_aload_n d_Mod_holdsIn_27 rfl ?_
          refine g_get d_Mod_holdsIn_28 f_Mod_60 (hm.2) rfl ?_
          refine g_sipush (v := nI 128) d_Mod_holdsIn_31 (by decide) ?_
          refine g_iload d_Mod_holdsIn_34 rfl ?_
          refine g_imul d_Mod_holdsIn_36 ?_
          refine g_iload_n d_Mod_holdsIn_37 rfl ?_
          refine g_bipush (v := nI 32) d_Mod_holdsIn_38 (by decide) ?_
          refine g_idiv d_Mod_holdsIn_40 (by decide) ?_
          refine g_iadd d_Mod_holdsIn_41 ?_
          refine g_iald d_Mod_holdsIn_42 (hm.1.a16) (by rw [pk_mul, pk_div (by omega) (by decide) (by decide), nI_add]) (by omega) (by decide) ?_
          refine g_iload_n d_Mod_holdsIn_43 rfl ?_
          refine g_bipush (v := nI 32) d_Mod_holdsIn_44 (by decide) ?_
          refine g_irem d_Mod_holdsIn_46 (by decide) ?_
          refine g_ishr d_Mod_holdsIn_47 ?_
          refine g_iconst (v := nI 1) d_Mod_holdsIn_48 (by decide) ?_
          refine g_iand d_Mod_holdsIn_49 ?_
          refine g_iconst (v := nI 1) d_Mod_holdsIn_50 (by decide) ?_
          rw [pk_rem (by omega) (by decide) (by decide), bt_sh (Nat.mod_lt _ (by decide))]
          refine g_icmpN_ne (tgt := 58) d_Mod_holdsIn_51 (by decide) (rfl) (rfl) (Nat.lt_of_le_of_lt (Bool.toNat_le _) (by decide)) (by decide) (fun q => ?_) (fun q => ?_)
          · refine g_iconst (v := nI 0) d_Mod_holdsIn_58 (by decide) ?_
            refine fin false ?_
            show false = bt _ _
            cases e : bt (F 16 (128 * u + t / 32)) (t % 32)
            · rfl
            · rw [e] at q
              exact absurd rfl q
          · refine g_iconst (v := nI 1) d_Mod_holdsIn_54 (by decide) ?_
            refine g_goto (tgt := 59) d_Mod_holdsIn_55 (by decide) ?_
            refine fin true ?_
            show true = bt _ _
            cases e : bt (F 16 (128 * u + t / 32)) (t % 32)
            · rw [e] at q
              cases q
            · rfl
theorem c_Mod_holdsIn (hst : K.1.stackTraces = false) {k s t : Nat} (hm : gMb h Y F cd ty td nc nt th (nI k) tg AA) (hk : k ≤ 12) (hs : s < 2 ^ 31) (ht : t < 4096) : Ct K r_Mod_holdsIn M_Mod_holdsIn [.ref (Y 0), .int (nI s), .int (nI t)] h (gRt (some (.int (bI (hin F s t k)))) h) := by
  refine Ct.of hst (by decide) (Or.inl rfl) (Nat.le_of_ble_eq_true rfl) ?_
  refine g_iconst (v := nI 1) d_Mod_holdsIn_0 (by decide) ?_
  refine g_istore_n d_Mod_holdsIn_1 rfl (Nat.le_of_ble_eq_true rfl) rfl ?_
  refine g_iconst (v := nI 0) d_Mod_holdsIn_2 (by decide) ?_
  refine g_istore d_Mod_holdsIn_3 (Nat.le_of_ble_eq_true rfl) rfl ?_
  exact l_Mod_holdsIn hm hk hs ht k 0 (by omega)
theorem pwA {A : Nat} (hA : A ≤ 12) : 2 ^ A ≤ 4096 := Nat.pow_le_pow_right (n := 2) (by decide) hA
theorem l_Mod_count (hst : K.1.stackTraces = false) {k s A : Nat} (hm : gMb h Y F cd ty td nc nt th (nI k) tg (nI A)) (hk : k ≤ 12) (hs : s < 2 ^ 31) (hA : A ≤ 12) : ∀ (r t : Nat), t + r = 2 ^ A → Go K M_Mod_count r_Mod_count 4 [(0, .ref (Y 0)), (1, .int (nI s)), (2, .int (nI (cnB (fun t => hin F s t k) t))), (3, .int (nI t))] [] h 0 0 (gRt (some (.int (nI (cnB (fun t => hin F s t k) (2 ^ A))))) h) := by
  have h12 := pwA hA
  intro r
  induction r with
  | zero =>
    intro t ht
    have e : t = 2 ^ A := by omega
    subst e
    refine g_iload_n d_Mod_count_4 rfl ?_
    refine g_iconst (v := nI 1) d_Mod_count_5 (by decide) ?_
    refine g_aload_n d_Mod_count_6 rfl ?_
    refine g_get d_Mod_count_7 f_Mod_108 (hm.2) rfl ?_
    refine g_ishl d_Mod_count_10 ?_
    rw [nI_shl1 (by omega)]
    refine g_icmpN_ge (tgt := 37) d_Mod_count_11 (by decide) (rfl) (rfl) (by omega) (by omega) (fun q => ?_) (fun q => ?_)
    · refine g_iload_n d_Mod_count_37 rfl ?_
      exact g_ret_i d_Mod_count_38 rfl rfl ⟨rfl, rfl⟩
    · omega
  | succ r ih =>
    intro t ht
    have go := ih (t + 1) (by omega)
    rw [cnB_s] at go
    refine g_iload_n d_Mod_count_4 rfl ?_
    refine g_iconst (v := nI 1) d_Mod_count_5 (by decide) ?_
    refine g_aload_n d_Mod_count_6 rfl ?_
    refine g_get d_Mod_count_7 f_Mod_108 (hm.2) rfl ?_
    refine g_ishl d_Mod_count_10 ?_
    rw [nI_shl1 (by omega)]
    refine g_icmpN_ge (tgt := 37) d_Mod_count_11 (by decide) (rfl) (rfl) (by omega) (by omega) (fun q => ?_) (fun q => ?_)
    · omega
    · refine g_aload_n d_Mod_count_14 rfl ?_
      refine g_iload_n d_Mod_count_15 rfl ?_
      refine g_iload_n d_Mod_count_16 rfl ?_
      refine g_callR (c_Mod_holdsIn hst hm hk hs (by omega)) gm_Mod_holdsIn d_Mod_count_17 (gInv_v (As := [.int (nI s), .int (nI t)]) (rest := []) d_Mod_count_17 gm_Mod_holdsIn gv_Mod_152 (hm.2) rfl) (Nat.le_of_ble_eq_true rfl) (Nat.le_of_ble_eq_true rfl) (Nat.le_of_ble_eq_true rfl) (Nat.le_of_ble_eq_true rfl) (Nat.le_of_ble_eq_true rfl) ?_
      refine g_if_eq (tgt := 29) d_Mod_count_20 (by decide) (fun q => ?_) (fun q => ?_)
      · refine g_iload_n d_Mod_count_29 rfl ?_
        refine g_istore_n d_Mod_count_30 rfl (Nat.le_of_ble_eq_true rfl) rfl ?_
        refine g_iinc d_Mod_count_31 rfl (nI_inc _) (Nat.le_of_ble_eq_true rfl) rfl ?_
        refine g_goto (tgt := 4) d_Mod_count_34 (by decide) ?_
        rw [if_neg (by rw [(bI_z _).mp q]; decide)] at go
        exact go
      · refine g_iload_n d_Mod_count_23 rfl ?_
        refine g_iconst (v := nI 1) d_Mod_count_24 (by decide) ?_
        refine g_iadd d_Mod_count_25 ?_
        rw [nI_add]
        refine g_goto (tgt := 30) d_Mod_count_26 (by decide) ?_
        refine g_istore_n d_Mod_count_30 rfl (Nat.le_of_ble_eq_true rfl) rfl ?_
        refine g_iinc d_Mod_count_31 rfl (nI_inc _) (Nat.le_of_ble_eq_true rfl) rfl ?_
        refine g_goto (tgt := 4) d_Mod_count_34 (by decide) ?_
        rw [if_pos (by
          cases e : hin F s t k
          · exact absurd ((bI_z _).mpr e) q
          · rfl)] at go
        exact go
theorem c_Mod_count (hst : K.1.stackTraces = false) {k s A : Nat} (hm : gMb h Y F cd ty td nc nt th (nI k) tg (nI A)) (hk : k ≤ 12) (hs : s < 2 ^ 31) (hA : A ≤ 12) : Ct K r_Mod_count M_Mod_count [.ref (Y 0), .int (nI s)] h (gRt (some (.int (nI (cnB (fun t => hin F s t k) (2 ^ A))))) h) := by
  refine Ct.of hst (by decide) (Or.inl rfl) (Nat.le_of_ble_eq_true rfl) ?_
  refine g_iconst (v := nI 0) d_Mod_count_0 (by decide) ?_
  refine g_istore_n d_Mod_count_1 rfl (Nat.le_of_ble_eq_true rfl) rfl ?_
  refine g_iconst (v := nI 0) d_Mod_count_2 (by decide) ?_
  refine g_istore_n d_Mod_count_3 rfl (Nat.le_of_ble_eq_true rfl) rfl ?_
  exact l_Mod_count hst hm hk hs hA (2 ^ A) 0 (by omega)
theorem l_Mod_tableOf {n A : Nat} (hm : gMb h Y F cd ty td nc nt th kk tg (nI A)) (hn : n < 4096) (hA : A ≤ 12) : ∀ (r k : Nat), k + r = A → Go K M_Mod_tableOf r_Mod_tableOf 4 [(0, .ref (Y 0)), (1, .int (nI n)), (2, .int (nI (rvp A n k))), (3, .int (nI k))] [] h 0 0 (gRt (some (.int (nI (rvp A n A)))) h) := by
  intro r
  induction r with
  | zero =>
    intro k hk
    have e : k = A := by omega
    subst e
    refine g_iload_n d_Mod_tableOf_4 rfl ?_
    refine g_aload_n d_Mod_tableOf_5 rfl ?_
    refine g_get d_Mod_tableOf_6 f_Mod_108 (hm.2) rfl ?_
    refine g_icmpN_ge (tgt := 44) d_Mod_tableOf_9 (by decide) (rfl) (rfl) (by omega) (by omega) (fun q => ?_) (fun q => ?_)
    · refine g_iload_n d_Mod_tableOf_44 rfl ?_
      exact g_ret_i d_Mod_tableOf_45 rfl rfl ⟨rfl, rfl⟩
    · omega
  | succ r ih =>
    intro k hk
    have go := ih (k + 1) (by omega)
    rw [show rvp A n (k + 1) = rvp A n k ||| (n / 2 ^ (A - 1 - k) % 2) * 2 ^ k from rfl] at go
    refine g_iload_n d_Mod_tableOf_4 rfl ?_
    refine g_aload_n d_Mod_tableOf_5 rfl ?_
    refine g_get d_Mod_tableOf_6 f_Mod_108 (hm.2) rfl ?_
    refine g_icmpN_ge (tgt := 44) d_Mod_tableOf_9 (by decide) (rfl) (rfl) (by omega) (by omega) (fun q => ?_) (fun q => ?_)
    · omega
    · refine g_iload_n d_Mod_tableOf_12 rfl ?_
      refine g_aload_n d_Mod_tableOf_13 rfl ?_
      refine g_get d_Mod_tableOf_14 f_Mod_108 (hm.2) rfl ?_
      refine g_iconst (v := nI 1) d_Mod_tableOf_17 (by decide) ?_
      refine g_isub d_Mod_tableOf_18 ?_
      refine g_iload_n d_Mod_tableOf_19 rfl ?_
      refine g_isub d_Mod_tableOf_20 ?_
      refine g_ishr d_Mod_tableOf_21 ?_
      refine g_iconst (v := nI 1) d_Mod_tableOf_22 (by decide) ?_
      refine g_iand d_Mod_tableOf_23 ?_
      refine g_iconst (v := nI 1) d_Mod_tableOf_24 (by decide) ?_
      rw [pk_sub (by omega), pk_sub (by omega), nI_bit (by omega) (by omega)]
      have h2 : n / 2 ^ (A - 1 - k) % 2 < 2 := Nat.mod_lt _ (by decide)
      refine g_icmpN_ne (tgt := 36) d_Mod_tableOf_25 (by decide) (rfl) (rfl) (by omega) (by decide) (fun q => ?_) (fun q => ?_)
      · refine g_iload_n d_Mod_tableOf_36 rfl ?_
        refine g_istore_n d_Mod_tableOf_37 rfl (Nat.le_of_ble_eq_true rfl) rfl ?_
        refine g_iinc d_Mod_tableOf_38 rfl (nI_inc _) (Nat.le_of_ble_eq_true rfl) rfl ?_
        refine g_goto (tgt := 4) d_Mod_tableOf_41 (by decide) ?_
        rw [show n / 2 ^ (A - 1 - k) % 2 = 0 by omega, Nat.zero_mul, Nat.or_zero] at go
        exact go
      · refine g_iload_n d_Mod_tableOf_28 rfl ?_
        refine g_iconst (v := nI 1) d_Mod_tableOf_29 (by decide) ?_
        refine g_iload_n d_Mod_tableOf_30 rfl ?_
        refine g_ishl d_Mod_tableOf_31 ?_
        refine g_ior d_Mod_tableOf_32 ?_
        rw [nI_shl1 (by omega), nI_or]
        refine g_goto (tgt := 37) d_Mod_tableOf_33 (by decide) ?_
        refine g_istore_n d_Mod_tableOf_37 rfl (Nat.le_of_ble_eq_true rfl) rfl ?_
        refine g_iinc d_Mod_tableOf_38 rfl (nI_inc _) (Nat.le_of_ble_eq_true rfl) rfl ?_
        refine g_goto (tgt := 4) d_Mod_tableOf_41 (by decide) ?_
        rw [q, Nat.one_mul] at go
        exact go
theorem c_Mod_tableOf (hst : K.1.stackTraces = false) {n A : Nat} (hm : gMb h Y F cd ty td nc nt th kk tg (nI A)) (hn : n < 4096) (hA : A ≤ 12) : Ct K r_Mod_tableOf M_Mod_tableOf [.ref (Y 0), .int (nI n)] h (gRt (some (.int (nI (rvp A n A)))) h) := by
  refine Ct.of hst (by decide) (Or.inl rfl) (Nat.le_of_ble_eq_true rfl) ?_
  refine g_iconst (v := nI 0) d_Mod_tableOf_0 (by decide) ?_
  refine g_istore_n d_Mod_tableOf_1 rfl (Nat.le_of_ble_eq_true rfl) rfl ?_
  refine g_iconst (v := nI 0) d_Mod_tableOf_2 (by decide) ?_
  refine g_istore_n d_Mod_tableOf_3 rfl (Nat.le_of_ble_eq_true rfl) rfl ?_
  exact l_Mod_tableOf hm hn hA A 0 (by omega)
/-! all instances -/
/-- some clause below q has e -/
def mold (L : Nat → List Nat) (e : Nat) : Nat → Bool
  | 0 => false
  | q + 1 => mold L e q || decide (e ∈ L q)
theorem mold_iff {L : Nat → List Nat} {e : Nat} : ∀ {q : Nat}, mold L e q = true ↔ ∃ u, u < q ∧ e ∈ L u := by
  intro q
  induction q with
  | zero => exact ⟨fun z => (by cases z), fun ⟨u, hu, _⟩ => absurd hu (Nat.not_lt_zero _)⟩
  | succ q ih =>
    unfold mold
    rw [Bool.or_eq_true, ih, decide_eq_true_iff]
    constructor
    · rintro (⟨u, h1, h2⟩ | h1)
      · exact ⟨u, by omega, h2⟩
      · exact ⟨q, by omega, h1⟩
    · rintro ⟨u, h1, h2⟩
      by_cases e2 : u = q
      · subst e2
        exact Or.inr h2
      · exact Or.inl ⟨u, by omega, h2⟩
/-- the count so far: clauses below u, and the first i of clause u -/
def mcn (L : Nat → List Nat) (u i : Nat) (n : Nat) : Prop := ∃ al : List Nat, al.Nodup ∧ al.length = n ∧ n ≤ 27 * u + i ∧ ∀ e, e ∈ al ↔ (∃ v, v < u ∧ e ∈ L v) ∨ e ∈ (L u).take i
theorem l_Mod_all_in (hst : K.1.stackTraces = false) {k u i n e : Nat} (hm : gMb h Y F cd ty td nc nt th (nI k) tg AA) (hk : k ≤ 12) (hu : u < k) {L : Nat → List Nat} (hL : ∀ v, v < k → mls F v (L v)) (hi : i < (L u).length) (he : (L u).getD i 0 = e) {Q : Outcome → gH → Prop}
    (kq : Go K M_Mod_allInstances r_Mod_allInstances 74 [(0, .ref (Y 0)), (1, .int (nI n)), (2, .int (nI u)), (3, .int (nI i)), (4, .int (bI (mold L e u))), (5, .int (nI u))] [] h 0 0 Q) : ∀ (r v : Nat), v + r = u → Go K M_Mod_allInstances r_Mod_allInstances 30 [(0, .ref (Y 0)), (1, .int (nI n)), (2, .int (nI u)), (3, .int (nI i)), (4, .int (bI (mold L e v))), (5, .int (nI v))] [] h 0 0 Q := by
  have hlu := hL u hu
  have h27 := hlu.2.1
  intro r
  induction r with
  | zero =>
    intro v hv
    have ev : v = u := by omega
    subst ev
    refine g_iload d_Mod_allInstances_30 rfl ?_
    refine g_iload_n d_Mod_allInstances_32 rfl ?_
    refine g_icmpN_ge (tgt := 74) d_Mod_allInstances_33 (by decide) (rfl) (rfl) (by omega) (by omega) (fun q => ?_) (fun q => ?_)
    · exact kq
    · omega
  | succ r ih =>
    intro v hv
    have fin : ∀ b : Bool, b = (mold L e v || decide (e ∈ L v)) → Go K M_Mod_allInstances r_Mod_allInstances 66 [(0, .ref (Y 0)), (1, .int (nI n)), (2, .int (nI u)), (3, .int (nI i)), (4, .int (bI (mold L e v))), (5, .int (nI v))] [.int (bI b)] h 0 0 Q := by
      rintro b rfl
      refine g_istore d_Mod_allInstances_66 (Nat.le_of_ble_eq_true rfl) rfl ?_
      refine g_iinc d_Mod_allInstances_68 rfl (nI_inc _) (Nat.le_of_ble_eq_true rfl) rfl ?_
      refine g_goto (tgt := 30) d_Mod_allInstances_71 (by decide) ?_
      exact ih (v + 1) (by omega)
    refine g_iload d_Mod_allInstances_30 rfl ?_
    refine g_iload_n d_Mod_allInstances_32 rfl ?_
    refine g_icmpN_ge (tgt := 74) d_Mod_allInstances_33 (by decide) (rfl) (rfl) (by omega) (by omega) (fun q => ?_) (fun q => ?_)
    · omega
    · refine g_iload d_Mod_allInstances_36 rfl ?_
      refine g_if_ne (tgt := 61) d_Mod_allInstances_38 (by decide) (fun q => ?_) (fun q => ?_)
      · refine g_iconst (v := nI 1) d_Mod_allInstances_61 (by decide) ?_
        refine g_goto (tgt := 66) d_Mod_allInstances_62 (by decide) ?_
        refine fin true ?_
        cases ee : mold L e v
        · exact absurd ((bI_z _).mpr ee) q
        · rfl
      · rw [(bI_z _).mp q, Bool.false_or] at fin
        refine g_aload_n d_Mod_allInstances_41 rfl ?_
        refine g_iload d_Mod_allInstances_42 rfl ?_
        refine g_aload_n d_Mod_allInstances_44 rfl ?_
        refine g_get d_Mod_allInstances_45 f_Mod_54 (hm.2) rfl ?_
        refine g_bipush (v := nI 27) d_Mod_allInstances_48 (by decide) ?_
        refine g_iload_n d_Mod_allInstances_50 rfl ?_
        refine g_imul d_Mod_allInstances_51 ?_
        refine g_iload_n d_Mod_allInstances_52 rfl ?_
        refine g_iadd d_Mod_allInstances_53 ?_
        refine g_iald d_Mod_allInstances_54 (hm.1.a14) (by rw [pk_mul, nI_add]) (by omega) (by decide) ?_
        rw [hlu.2.2.1 i hi, he, (bI_z _).mp q]
        refine g_callR (c_Mod_has hst hm (by omega) (by rw [← he]; exact hlu.lt i) (hL v (by omega))) gm_Mod_has d_Mod_allInstances_55 (gInv_v (As := [.int (nI v), .int (nI e)]) (rest := []) d_Mod_allInstances_55 gm_Mod_has gv_Mod_125 (hm.2) rfl) (Nat.le_of_ble_eq_true rfl) (Nat.le_of_ble_eq_true rfl) (Nat.le_of_ble_eq_true rfl) (Nat.le_of_ble_eq_true rfl) (Nat.le_of_ble_eq_true rfl) ?_
        refine g_if_eq (tgt := 65) d_Mod_allInstances_58 (by decide) (fun q => ?_) (fun q => ?_)
        · refine g_iconst (v := nI 0) d_Mod_allInstances_65 (by decide) ?_
          exact fin false ((bI_z _).mp q).symm
        · refine g_iconst (v := nI 1) d_Mod_allInstances_61 (by decide) ?_
          refine g_goto (tgt := 66) d_Mod_allInstances_62 (by decide) ?_
          refine fin true ?_
          cases ee : decide (e ∈ L v)
          · exact absurd ((bI_z _).mpr ee) q
          · rfl
theorem mcn.next {L : Nat → List Nat} {u i n : Nat} (hc : mcn L u i n) (hi : i < (L u).length) (hn : (L u).Nodup) : mcn L u (i + 1) (if mold L ((L u).getD i 0) u = true then n else n + 1) := by
  obtain ⟨al, a1, a2, a3, a4⟩ := hc
  have ht : ¬ (L u).getD i 0 ∈ (L u).take i := by
    rw [List.getD_eq_getElem?_getD, List.getElem?_eq_getElem hi, Option.getD_some]
    intro z
    obtain ⟨j, hj, e⟩ := List.getElem_of_mem z
    rw [List.length_take] at hj
    rw [List.getElem_take] at e
    exact List.pairwise_iff_getElem.mp hn j i (by omega) hi (by omega) e
  by_cases hx : mold L ((L u).getD i 0) u = true
  · rw [if_pos hx]
    refine ⟨al, a1, a2, by omega, fun e => ?_⟩
    rw [a4, mem_take_s hi]
    constructor
    · rintro (z | z)
      · exact Or.inl z
      · exact Or.inr (Or.inl z)
    · rintro (z | z | z)
      · exact Or.inl z
      · exact Or.inr z
      · exact Or.inl (z ▸ mold_iff.mp hx)
  · rw [if_neg hx]
    refine ⟨(L u).getD i 0 :: al, List.nodup_cons.mpr ⟨fun z => ?_, a1⟩, by rw [List.length_cons, a2], by omega, fun e => ?_⟩
    · rcases (a4 _).mp z with y | y
      · exact hx (mold_iff.mpr y)
      · exact ht y
    · rw [List.mem_cons, a4, mem_take_s hi]
      constructor
      · rintro (z | z | z)
        · exact Or.inr (Or.inr z.symm)
        · exact Or.inl z
        · exact Or.inr (Or.inl z)
      · rintro (z | z | z)
        · exact Or.inr (Or.inl z)
        · exact Or.inr (Or.inr z)
        · exact Or.inl z.symm
theorem l_Mod_all_i (hst : K.1.stackTraces = false) {k u : Nat} (hm : gMb h Y F cd ty td nc nt th (nI k) tg AA) (hk : k ≤ 12) (hu : u < k) {L : Nat → List Nat} (hL : ∀ v, v < k → mls F v (L v) ∧ (L v).Nodup) {Q : Outcome → gH → Prop}
    (kq : ∀ n z, mcn L u (L u).length n → Go K M_Mod_allInstances r_Mod_allInstances 93 [(0, .ref (Y 0)), (1, .int (nI n)), (2, .int (nI u)), (3, .int z)] [] h 0 0 Q) : ∀ (r i n : Nat), i + r = (L u).length → mcn L u i n → Go K M_Mod_allInstances r_Mod_allInstances 14 [(0, .ref (Y 0)), (1, .int (nI n)), (2, .int (nI u)), (3, .int (nI i))] [] h 0 0 Q := by
  have hlu := (hL u hu).1
  have h27 := hlu.2.1
  intro r
  induction r with
  | zero =>
    intro i n hi hc
    have ei : i = (L u).length := by omega
    subst ei
    refine g_iload_n d_Mod_allInstances_14 rfl ?_
    refine g_aload_n d_Mod_allInstances_15 rfl ?_
    refine g_get d_Mod_allInstances_16 f_Mod_57 (hm.2) rfl ?_
    refine g_iload_n d_Mod_allInstances_19 rfl ?_
    refine g_iald d_Mod_allInstances_20 (hm.1.a15) (rfl) (by omega) (by decide) ?_
    rw [hlu.1]
    refine g_icmpN_ge (tgt := 93) d_Mod_allInstances_21 (by decide) (rfl) (rfl) (by omega) (by omega) (fun q => ?_) (fun q => ?_)
    · exact kq n _ hc
    · omega
  | succ r ih =>
    intro i n hi hc
    refine g_iload_n d_Mod_allInstances_14 rfl ?_
    refine g_aload_n d_Mod_allInstances_15 rfl ?_
    refine g_get d_Mod_allInstances_16 f_Mod_57 (hm.2) rfl ?_
    refine g_iload_n d_Mod_allInstances_19 rfl ?_
    refine g_iald d_Mod_allInstances_20 (hm.1.a15) (rfl) (by omega) (by decide) ?_
    rw [hlu.1]
    refine g_icmpN_ge (tgt := 93) d_Mod_allInstances_21 (by decide) (rfl) (rfl) (by omega) (by omega) (fun q => ?_) (fun q => ?_)
    · omega
    · refine g_iconst (v := nI 0) d_Mod_allInstances_24 (by decide) ?_
      refine g_istore d_Mod_allInstances_25 (Nat.le_of_ble_eq_true rfl) rfl ?_
      refine g_iconst (v := nI 0) d_Mod_allInstances_27 (by decide) ?_
      refine g_istore d_Mod_allInstances_28 (Nat.le_of_ble_eq_true rfl) rfl ?_
      refine l_Mod_all_in hst hm hk hu (fun v hv => (hL v hv).1) (by omega) rfl ?_ u 0 (by omega)
      have hx := hc.next (by omega) (hL u hu).2
      refine g_iload d_Mod_allInstances_74 rfl ?_
      refine g_if_eq (tgt := 83) d_Mod_allInstances_76 (by decide) (fun q => ?_) (fun q => ?_)
      · rw [if_neg (by rw [(bI_z _).mp q]; decide)] at hx
        refine g_iload_n d_Mod_allInstances_83 rfl ?_
        refine g_iconst (v := nI 1) d_Mod_allInstances_84 (by decide) ?_
        refine g_iadd d_Mod_allInstances_85 ?_
        rw [nI_add]
        refine g_istore_n d_Mod_allInstances_86 rfl (Nat.le_of_ble_eq_true rfl) rfl ?_
        refine g_iinc d_Mod_allInstances_87 rfl (nI_inc _) (Nat.le_of_ble_eq_true rfl) rfl ?_
        refine g_goto (tgt := 14) d_Mod_allInstances_90 (by decide) ?_
        refine g_sub (lv' := [(0, .ref (Y 0)), (1, .int (nI (n + 1))), (2, .int (nI u)), (3, .int (nI (i + 1)))]) (lall_in ⟨rfl, rfl, rfl, rfl, trivial⟩) (ih (i + 1) _ (by omega) hx)
      · rw [if_pos (by
          cases ee : mold L ((L u).getD i 0) u
          · exact absurd ((bI_z _).mpr ee) q
          · rfl)] at hx
        refine g_iload_n d_Mod_allInstances_79 rfl ?_
        refine g_goto (tgt := 86) d_Mod_allInstances_80 (by decide) ?_
        refine g_istore_n d_Mod_allInstances_86 rfl (Nat.le_of_ble_eq_true rfl) rfl ?_
        refine g_iinc d_Mod_allInstances_87 rfl (nI_inc _) (Nat.le_of_ble_eq_true rfl) rfl ?_
        refine g_goto (tgt := 14) d_Mod_allInstances_90 (by decide) ?_
        refine g_sub (lv' := [(0, .ref (Y 0)), (1, .int (nI n)), (2, .int (nI u)), (3, .int (nI (i + 1)))]) (lall_in ⟨rfl, rfl, rfl, rfl, trivial⟩) (ih (i + 1) _ (by omega) hx)
theorem l_Mod_all (hst : K.1.stackTraces = false) {k : Nat} (hm : gMb h Y F cd ty td nc nt th (nI k) tg AA) (hk : k ≤ 12) {L : Nat → List Nat} (hL : ∀ v, v < k → mls F v (L v) ∧ (L v).Nodup) : ∀ (r u n : Nat), u + r = k → mcn L u 0 n → Go K M_Mod_allInstances r_Mod_allInstances 4 [(0, .ref (Y 0)), (1, .int (nI n)), (2, .int (nI u))] [] h 0 0 (gRx fun o h' => h' = h ∧ ∃ al : List Nat, al.Nodup ∧ al.length ≤ 324 ∧ (∀ e, e ∈ al ↔ ∃ u, u < k ∧ e ∈ L u) ∧ o = some (.int (nI al.length))) := by
  intro r
  induction r with
  | zero =>
    intro u n hu hc
    have ei : u = k := by omega
    subst ei
    refine g_iload_n d_Mod_allInstances_4 rfl ?_
    refine g_aload_n d_Mod_allInstances_5 rfl ?_
    refine g_get d_Mod_allInstances_6 f_Mod_105 (hm.2) rfl ?_
    refine g_icmpN_ge (tgt := 99) d_Mod_allInstances_9 (by decide) (rfl) (rfl) (by omega) (by omega) (fun q => ?_) (fun q => ?_)
    · refine g_iload_n d_Mod_allInstances_99 rfl ?_
      obtain ⟨al, a1, a2, a3, a4⟩ := hc
      refine g_ret_i d_Mod_allInstances_100 rfl rfl ⟨_, rfl, rfl, al, a1, by omega, fun e => ?_, by rw [a2]⟩
      rw [a4]
      simp
    · omega
  | succ r ih =>
    intro u n hu hc
    refine g_iload_n d_Mod_allInstances_4 rfl ?_
    refine g_aload_n d_Mod_allInstances_5 rfl ?_
    refine g_get d_Mod_allInstances_6 f_Mod_105 (hm.2) rfl ?_
    refine g_icmpN_ge (tgt := 99) d_Mod_allInstances_9 (by decide) (rfl) (rfl) (by omega) (by omega) (fun q => ?_) (fun q => ?_)
    · omega
    · refine g_iconst (v := nI 0) d_Mod_allInstances_12 (by decide) ?_
      refine g_istore_n d_Mod_allInstances_13 rfl (Nat.le_of_ble_eq_true rfl) rfl ?_
      refine l_Mod_all_i hst hm hk q hL (fun n' z hc' => ?_) (L u).length 0 n (by omega) hc
      refine g_iinc d_Mod_allInstances_93 rfl (nI_inc _) (Nat.le_of_ble_eq_true rfl) rfl ?_
      refine g_goto (tgt := 4) d_Mod_allInstances_96 (by decide) ?_
      refine g_sub (lv' := [(0, .ref (Y 0)), (1, .int (nI n')), (2, .int (nI (u + 1)))]) (lall_in ⟨rfl, rfl, rfl, trivial⟩) (ih (u + 1) n' (by omega) ?_)
      obtain ⟨al, a1, a2, a3, a4⟩ := hc'
      have h27 := (hL u q).1.2.1
      refine ⟨al, a1, a2, by omega, fun e => ?_⟩
      rw [a4, List.take_of_length_le (Nat.le_refl _)]
      simp only [List.take_zero, List.not_mem_nil, or_false]
      constructor
      · rintro (⟨v, h1, h2⟩ | h1)
        · exact ⟨v, by omega, h2⟩
        · exact ⟨u, by omega, h1⟩
      · rintro ⟨v, h1, h2⟩
        by_cases e2 : v = u
        · subst e2
          exact Or.inr h2
        · exact Or.inl ⟨v, by omega, h2⟩
theorem c_Mod_allInstances (hst : K.1.stackTraces = false) {k : Nat} (hm : gMb h Y F cd ty td nc nt th (nI k) tg AA) (hk : k ≤ 12) {L : Nat → List Nat} (hL : ∀ v, v < k → mls F v (L v) ∧ (L v).Nodup) : Ct K r_Mod_allInstances M_Mod_allInstances [.ref (Y 0)] h (gRx fun o h' => h' = h ∧ ∃ al : List Nat, al.Nodup ∧ al.length ≤ 324 ∧ (∀ e, e ∈ al ↔ ∃ u, u < k ∧ e ∈ L u) ∧ o = some (.int (nI al.length))) := by
  refine Ct.of hst (by decide) (Or.inl rfl) (Nat.le_of_ble_eq_true rfl) ?_
  refine g_iconst (v := nI 0) d_Mod_allInstances_0 (by decide) ?_
  refine g_istore_n d_Mod_allInstances_1 rfl (Nat.le_of_ble_eq_true rfl) rfl ?_
  refine g_iconst (v := nI 0) d_Mod_allInstances_2 (by decide) ?_
  refine g_istore_n d_Mod_allInstances_3 rfl (Nat.le_of_ble_eq_true rfl) rfl ?_
  exact l_Mod_all hst hm hk hL k 0 0 (by omega) ⟨[], List.nodup_nil, rfl, by omega, fun e => by simp⟩
end MODEL4
