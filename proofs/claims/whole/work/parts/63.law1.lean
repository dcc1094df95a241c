/-! ===== the law's helpers: what the class throws becomes a code ===== -/
section LAWH
variable {K : gK} {h : gH} {X : Nat → Nat} {tx : List Nat} {fl : Int32} {k c : Nat} {w : Nat → Int32} {A : Nat} {CS : Nat → Nat → Prop} {o : Nat} {f : Nat → Int64}
/-- what a helper leaves: the class's object, its own row, the rest -/
def lhP (h : gH) (X : Nat → Nat) (o : Nat) (tx : List Nat) (fl : Int32) (k c : Nat) (w : Nat → Int32) (A : Nat) (CS : Nat → Nat → Prop) (h' : gH) (x : Int64) : Prop := gHt h' X tx fl k c w A CS ∧ gKx h h' (fun y => gOf X 145 y ∨ y = o) ∧ ∃ f', h' o = some (.inl (1, 1, .inr (.inl f'))) ∧ f' 0 = x
theorem gKx.or {h' : gH} {P : Nat → Prop} (hk : gKx h h' P) : gKx h h' (fun y => P y ∨ y = o) := fun x hx hn => hk x (fun z => hx (Or.inl z)) hn
theorem lh_o {h' : gH} (hk : gKx h h' (gOf X 145)) (hX : ∀ i, i < 145 → X i ≠ o) (ho : h o = some (.inl (1, 1, .inr (.inl f)))) : h' o = some (.inl (1, 1, .inr (.inl f))) := by
  rw [hk o (fun ⟨i, hi, e⟩ => hX i hi e.symm) (by rw [ho]; simp)]
  exact ho
/-- thrown: nothing was written -/
theorem lh_t {h' : gH} {tx' : List Nat} {fl' : Int32} {k' c' : Nat} {w' : Nat → Int32} {A' : Nat} {CS' : Nat → Nat → Prop} (hh : gHt h' X tx' fl' k' c' w' A' CS') (hk : gKx h h' (gOf X 145)) (hX : ∀ i, i < 145 → X i ≠ o) (ho : h o = some (.inl (1, 1, .inr (.inl f)))) : lhP h X o tx' fl' k' c' w' A' CS' h' (f 0) := ⟨hh, hk.or, f, lh_o hk hX ho, rfl⟩
/-- answered: x is laid -/
theorem lh_a {h' : gH} {x : Int64} {tx' : List Nat} {fl' : Int32} {k' c' : Nat} {w' : Nat → Int32} {A' : Nat} {CS' : Nat → Nat → Prop} (hh : gHt h' X tx' fl' k' c' w' A' CS') (hk : gKx h h' (gOf X 145)) (hX : ∀ i, i < 145 → X i ≠ o) : lhP h X o tx' fl' k' c' w' A' CS' (gup h' o (.inl (1, 1, .inr (.inl (va_up f 0 x))))) x := by
  refine ⟨hh.of fun i hi => gup_n (hX i hi), fun y hy hn => ?_, _, gup_s _ _ _, if_pos rfl⟩
  rw [gup_n fun z => hy (Or.inr z)]
  exact hk y (fun z => hy (Or.inl z)) hn
theorem c_Law_tables (hst : K.1.stackTraces = false) (hh : gHt h X tx fl k c w A CS) (ho : h o = some (.inl (1, 1, .inr (.inl f)))) (hX : ∀ i, i < 145 → X i ≠ o) : Ct K r_Law_tables M_Law_tables [.ref (X 0), .ref o] h (gRx fun v h' => ∃ x, lhP h X o tx fl k c w A CS h' x ∧ ((k = 0 ∧ v = some (.int (nI 1))) ∨ (¬ k = 0 ∧ v = some (.int (nI 0)) ∧ ∃ p : Nat → Bool, (∀ n, n < 64 * wcn A → (p n = true ↔ n < 2 ^ A ∧ hat A k CS (2 ^ k - 1) n)) ∧ x = (nI (cnB p (64 * wcn A))).toInt64))) := by
  refine Ct.of hst (by decide) (Or.inr gRx_x) (Nat.le_of_ble_eq_true rfl) ?_
  refine g_aload_n d_Law_tables_0 rfl ?_
  refine g_iconst (v := nI 0) d_Law_tables_1 (by decide) ?_
  refine g_aload_n d_Law_tables_2 rfl ?_
  refine g_callC (c_HT_tables hst hh) gm_HT_tables d_Law_tables_3 (gInv_v (As := []) (rest := [.int (nI 0), .ref o]) d_Law_tables_3 gm_HT_tables gv_Law_15 (hh.2.1) rfl) (Nat.le_of_ble_eq_true rfl) (Nat.le_of_ble_eq_true rfl) (Nat.le_of_ble_eq_true rfl) (Nat.le_of_ble_eq_true rfl) (Nat.le_of_ble_eq_true rfl) (fun v2 h2 hp => ?_) (fun ax h2 hp => ?_)
  · obtain ⟨g1, g2, ⟨-, _, q1, -⟩ | ⟨g3, p, g4, g5⟩⟩ := hp
    · cases q1
    · cases g5
      refine g_i2l d_Law_tables_6 ?_
      refine g_last d_Law_tables_7 (lh_o g2 hX ho) (rfl) (by decide) (by decide) ?_
      refine g_goto (tgt := 14) d_Law_tables_8 (by decide) ?_
      refine g_iconst (v := nI 0) d_Law_tables_14 (by decide) ?_
      exact g_ret_i d_Law_tables_15 rfl rfl ⟨_, rfl, _, lh_a g1 g2 hX, Or.inr ⟨g3, rfl, p, g4, rfl⟩⟩
  · obtain ⟨g1, g2, ⟨g3, q1, q2, q3⟩ | ⟨-, p, -, g5⟩⟩ := hp
    · cases q2
      refine ⟨11, 11, q3, ct_tables, ?_⟩
      refine g_astore_n d_Law_tables_11 rfl (Nat.le_of_ble_eq_true rfl) rfl ?_
      refine g_iconst (v := nI 1) d_Law_tables_12 (by decide) ?_
      exact g_ret_i d_Law_tables_13 rfl rfl ⟨_, rfl, _, lh_t g1 g2 hX ho, Or.inl ⟨g3, rfl⟩⟩
    · cases g5
theorem c_Law_least (hst : K.1.stackTraces = false) (hh : gHt h X tx fl k c w A CS) (ho : h o = some (.inl (1, 1, .inr (.inl f)))) (hX : ∀ i, i < 145 → X i ≠ o) : Ct K r_Law_least M_Law_least [.ref (X 0), .ref o] h (gRx fun v h' => ∃ x, lhP h X o tx fl k c w A CS h' x ∧ ((k = 0 ∧ v = some (.int (nI 1))) ∨ (¬ k = 0 ∧ (¬ ∃ n, n < 2 ^ A ∧ hat A k CS (2 ^ k - 1) n) ∧ v = some (.int (nI 2))) ∨ (¬ k = 0 ∧ v = some (.int (nI 0)) ∧ ∃ n, n < 2 ^ A ∧ hat A k CS (2 ^ k - 1) n ∧ (∀ m, m < n → ¬ hat A k CS (2 ^ k - 1) m) ∧ x = (nI (rvp A n A)).toInt64))) := by
  refine Ct.of hst (by decide) (Or.inr gRx_x) (Nat.le_of_ble_eq_true rfl) ?_
  refine g_aload_n d_Law_least_0 rfl ?_
  refine g_iconst (v := nI 0) d_Law_least_1 (by decide) ?_
  refine g_aload_n d_Law_least_2 rfl ?_
  refine g_callC (c_HT_least hst hh) gm_HT_least d_Law_least_3 (gInv_v (As := []) (rest := [.int (nI 0), .ref o]) d_Law_least_3 gm_HT_least gv_Law_20 (hh.2.1) rfl) (Nat.le_of_ble_eq_true rfl) (Nat.le_of_ble_eq_true rfl) (Nat.le_of_ble_eq_true rfl) (Nat.le_of_ble_eq_true rfl) (Nat.le_of_ble_eq_true rfl) (fun v2 h2 hp => ?_) (fun ax h2 hp => ?_)
  · obtain ⟨g1, g2, ⟨-, _, q1, -⟩ | ⟨-, -, _, q1, -⟩ | ⟨g3, n, n1, n2, n3, g5⟩⟩ := hp
    · cases q1
    · cases q1
    · cases g5
      refine g_i2l d_Law_least_6 ?_
      refine g_last d_Law_least_7 (lh_o g2 hX ho) (rfl) (by decide) (by decide) ?_
      refine g_goto (tgt := 17) d_Law_least_8 (by decide) ?_
      refine g_iconst (v := nI 0) d_Law_least_17 (by decide) ?_
      exact g_ret_i d_Law_least_18 rfl rfl ⟨_, rfl, _, lh_a g1 g2 hX, Or.inr (Or.inr ⟨g3, rfl, n, n1, n2, n3, rfl⟩)⟩
  · obtain ⟨g1, g2, ⟨g3, q1, q2, q3⟩ | ⟨g3, g4, q1, q2, q3⟩ | ⟨-, n, -, -, -, g5⟩⟩ := hp
    · cases q2
      refine ⟨11, 11, q3, ct_least1, ?_⟩
      refine g_astore_n d_Law_least_11 rfl (Nat.le_of_ble_eq_true rfl) rfl ?_
      refine g_iconst (v := nI 1) d_Law_least_12 (by decide) ?_
      exact g_ret_i d_Law_least_13 rfl rfl ⟨_, rfl, _, lh_t g1 g2 hX ho, Or.inl ⟨g3, rfl⟩⟩
    · cases q2
      refine ⟨12, 14, q3, ct_least2, ?_⟩
      refine g_astore_n d_Law_least_14 rfl (Nat.le_of_ble_eq_true rfl) rfl ?_
      refine g_iconst (v := nI 2) d_Law_least_15 (by decide) ?_
      exact g_ret_i d_Law_least_16 rfl rfl ⟨_, rfl, _, lh_t g1 g2 hX ho, Or.inr (Or.inl ⟨g3, g4, rfl⟩)⟩
    · cases g5
theorem c_Law_greatest (hst : K.1.stackTraces = false) (hh : gHt h X tx fl k c w A CS) (ho : h o = some (.inl (1, 1, .inr (.inl f)))) (hX : ∀ i, i < 145 → X i ≠ o) : Ct K r_Law_greatest M_Law_greatest [.ref (X 0), .ref o] h (gRx fun v h' => ∃ x, lhP h X o tx fl k c w A CS h' x ∧ ((k = 0 ∧ v = some (.int (nI 1))) ∨ (¬ k = 0 ∧ (¬ ∃ n, n < 2 ^ A ∧ hat A k CS (2 ^ k - 1) n) ∧ v = some (.int (nI 2))) ∨ (¬ k = 0 ∧ v = some (.int (nI 0)) ∧ ∃ n, n < 2 ^ A ∧ hat A k CS (2 ^ k - 1) n ∧ (∀ m, n < m → m < 2 ^ A → ¬ hat A k CS (2 ^ k - 1) m) ∧ x = (nI (rvp A n A)).toInt64))) := by
  refine Ct.of hst (by decide) (Or.inr gRx_x) (Nat.le_of_ble_eq_true rfl) ?_
  refine g_aload_n d_Law_greatest_0 rfl ?_
  refine g_iconst (v := nI 0) d_Law_greatest_1 (by decide) ?_
  refine g_aload_n d_Law_greatest_2 rfl ?_
  refine g_callC (c_HT_greatest hst hh) gm_HT_greatest d_Law_greatest_3 (gInv_v (As := []) (rest := [.int (nI 0), .ref o]) d_Law_greatest_3 gm_HT_greatest gv_Law_25 (hh.2.1) rfl) (Nat.le_of_ble_eq_true rfl) (Nat.le_of_ble_eq_true rfl) (Nat.le_of_ble_eq_true rfl) (Nat.le_of_ble_eq_true rfl) (Nat.le_of_ble_eq_true rfl) (fun v2 h2 hp => ?_) (fun ax h2 hp => ?_)
  · obtain ⟨g1, g2, ⟨-, _, q1, -⟩ | ⟨-, -, _, q1, -⟩ | ⟨g3, n, n1, n2, n3, g5⟩⟩ := hp
    · cases q1
    · cases q1
    · cases g5
      refine g_i2l d_Law_greatest_6 ?_
      refine g_last d_Law_greatest_7 (lh_o g2 hX ho) (rfl) (by decide) (by decide) ?_
      refine g_goto (tgt := 17) d_Law_greatest_8 (by decide) ?_
      refine g_iconst (v := nI 0) d_Law_greatest_17 (by decide) ?_
      exact g_ret_i d_Law_greatest_18 rfl rfl ⟨_, rfl, _, lh_a g1 g2 hX, Or.inr (Or.inr ⟨g3, rfl, n, n1, n2, n3, rfl⟩)⟩
  · obtain ⟨g1, g2, ⟨g3, q1, q2, q3⟩ | ⟨g3, g4, q1, q2, q3⟩ | ⟨-, n, -, -, -, g5⟩⟩ := hp
    · cases q2
      refine ⟨11, 11, q3, ct_greatest1, ?_⟩
      refine g_astore_n d_Law_greatest_11 rfl (Nat.le_of_ble_eq_true rfl) rfl ?_
      refine g_iconst (v := nI 1) d_Law_greatest_12 (by decide) ?_
      exact g_ret_i d_Law_greatest_13 rfl rfl ⟨_, rfl, _, lh_t g1 g2 hX ho, Or.inl ⟨g3, rfl⟩⟩
    · cases q2
      refine ⟨12, 14, q3, ct_greatest2, ?_⟩
      refine g_astore_n d_Law_greatest_14 rfl (Nat.le_of_ble_eq_true rfl) rfl ?_
      refine g_iconst (v := nI 2) d_Law_greatest_15 (by decide) ?_
      exact g_ret_i d_Law_greatest_16 rfl rfl ⟨_, rfl, _, lh_t g1 g2 hX ho, Or.inr (Or.inl ⟨g3, g4, rfl⟩)⟩
    · cases g5
theorem c_Law_forced (hst : K.1.stackTraces = false) (hh : gHt h X tx fl k c w A CS) (ho : h o = some (.inl (1, 1, .inr (.inl f)))) (hX : ∀ i, i < 145 → X i ≠ o) (a : Int32) : Ct K r_Law_forced M_Law_forced [.ref (X 0), .int a, .ref o] h (gRx fun v h' => ∃ x, lhP h X o tx fl k c w A CS h' x ∧ ((k = 0 ∧ v = some (.int (nI 1))) ∨ (¬ k = 0 ∧ ¬ (¬ a < 0 ∧ a < nI A) ∧ v = some (.int (nI 2))) ∨ (¬ k = 0 ∧ (¬ a < 0 ∧ a < nI A) ∧ (¬ ∃ n, n < 2 ^ A ∧ hat A k CS (2 ^ k - 1) n) ∧ v = some (.int (nI 3))) ∨ (¬ k = 0 ∧ v = some (.int (nI 0)) ∧ ∃ j, j < A ∧ a = nI j ∧ (∃ n, n < 2 ^ A ∧ hat A k CS (2 ^ k - 1) n) ∧ ∃ y z : Bool, (y = true ↔ ∃ n, n < 2 ^ A ∧ hat A k CS (2 ^ k - 1) n ∧ n.testBit (A - 1 - j) = true) ∧ (z = true ↔ ∃ n, n < 2 ^ A ∧ hat A k CS (2 ^ k - 1) n ∧ n.testBit (A - 1 - j) = false) ∧ x = (if y = true ∧ z = true then nI 2 else if y = true then nI 1 else nI 0).toInt64))) := by
  refine Ct.of hst (by decide) (Or.inr gRx_x) (Nat.le_of_ble_eq_true rfl) ?_
  refine g_aload_n d_Law_forced_0 rfl ?_
  refine g_iconst (v := nI 0) d_Law_forced_1 (by decide) ?_
  refine g_aload_n d_Law_forced_2 rfl ?_
  refine g_iload_n d_Law_forced_3 rfl ?_
  refine g_callC (c_HT_forced hst hh a) gm_HT_forced d_Law_forced_4 (gInv_v (As := [.int a]) (rest := [.int (nI 0), .ref o]) d_Law_forced_4 gm_HT_forced gv_Law_28 (hh.2.1) rfl) (Nat.le_of_ble_eq_true rfl) (Nat.le_of_ble_eq_true rfl) (Nat.le_of_ble_eq_true rfl) (Nat.le_of_ble_eq_true rfl) (Nat.le_of_ble_eq_true rfl) (fun v2 h2 hp => ?_) (fun ax h2 hp => ?_)
  · obtain ⟨g1, g2, ⟨-, _, q1, -⟩ | ⟨-, -, _, q1, -⟩ | ⟨-, -, -, _, q1, -⟩ | ⟨g3, j, j1, j2, j3, y, z, j4, j5, g5⟩⟩ := hp
    · cases q1
    · cases q1
    · cases q1
    · cases g5
      refine g_i2l d_Law_forced_7 ?_
      refine g_last d_Law_forced_8 (lh_o g2 hX ho) (rfl) (by decide) (by decide) ?_
      refine g_goto (tgt := 21) d_Law_forced_9 (by decide) ?_
      refine g_iconst (v := nI 0) d_Law_forced_21 (by decide) ?_
      exact g_ret_i d_Law_forced_22 rfl rfl ⟨_, rfl, _, lh_a g1 g2 hX, Or.inr (Or.inr (Or.inr ⟨g3, rfl, j, j1, j2, j3, y, z, j4, j5, rfl⟩))⟩
  · obtain ⟨g1, g2, ⟨g3, q1, q2, q3⟩ | ⟨g3, g4, q1, q2, q3⟩ | ⟨g3, g4, g6, q1, q2, q3⟩ | ⟨-, j, -, -, -, y, z, -, -, g5⟩⟩ := hp
    · cases q2
      refine ⟨11, 12, q3, ct_forced1, ?_⟩
      refine g_astore_n d_Law_forced_12 rfl (Nat.le_of_ble_eq_true rfl) rfl ?_
      refine g_iconst (v := nI 1) d_Law_forced_13 (by decide) ?_
      exact g_ret_i d_Law_forced_14 rfl rfl ⟨_, rfl, _, lh_t g1 g2 hX ho, Or.inl ⟨g3, rfl⟩⟩
    · cases q2
      refine ⟨13, 15, q3, ct_forced2, ?_⟩
      refine g_astore_n d_Law_forced_15 rfl (Nat.le_of_ble_eq_true rfl) rfl ?_
      refine g_iconst (v := nI 2) d_Law_forced_16 (by decide) ?_
      exact g_ret_i d_Law_forced_17 rfl rfl ⟨_, rfl, _, lh_t g1 g2 hX ho, Or.inr (Or.inl ⟨g3, g4, rfl⟩)⟩
    · cases q2
      refine ⟨12, 18, q3, ct_forced3, ?_⟩
      refine g_astore_n d_Law_forced_18 rfl (Nat.le_of_ble_eq_true rfl) rfl ?_
      refine g_iconst (v := nI 3) d_Law_forced_19 (by decide) ?_
      exact g_ret_i d_Law_forced_20 rfl rfl ⟨_, rfl, _, lh_t g1 g2 hX ho, Or.inr (Or.inr (Or.inl ⟨g3, g4, g6, rfl⟩))⟩
    · cases g5
/-- a boolean laid as a long -/
def bL (b : Bool) : Int64 := if b then 1 else 0
theorem c_Law_without (hst : K.1.stackTraces = false) (hh : gHt h X tx fl k c w A CS) (ho : h o = some (.inl (1, 1, .inr (.inl f)))) (hX : ∀ i, i < 145 → X i ≠ o) (a : Int32) : Ct K r_Law_without M_Law_without [.ref (X 0), .int a, .ref o] h (gRx fun v h' => ∃ x, lhP h X o tx fl k c w A CS h' x ∧ ((k = 0 ∧ v = some (.int (nI 1))) ∨ (¬ k = 0 ∧ ¬ (¬ a < 0 ∧ a < nI k) ∧ v = some (.int (nI 2))) ∨ (¬ k = 0 ∧ v = some (.int (nI 0)) ∧ ∃ u, u < k ∧ a = nI u ∧ ∃ b : Bool, (b = true ↔ ∃ n, n < 2 ^ A ∧ hat A k CS (2 ^ k - 1 - 2 ^ u) n) ∧ x = bL b))) := by
  refine Ct.of hst (by decide) (Or.inr gRx_x) (Nat.le_of_ble_eq_true rfl) ?_
  refine g_aload_n d_Law_without_0 rfl ?_
  refine g_iconst (v := nI 0) d_Law_without_1 (by decide) ?_
  refine g_aload_n d_Law_without_2 rfl ?_
  refine g_iload_n d_Law_without_3 rfl ?_
  refine g_callC (c_HT_without hst hh a) gm_HT_without d_Law_without_4 (gInv_v (As := [.int a]) (rest := [.int (nI 0), .ref o]) d_Law_without_4 gm_HT_without gv_Law_34 (hh.2.1) rfl) (Nat.le_of_ble_eq_true rfl) (Nat.le_of_ble_eq_true rfl) (Nat.le_of_ble_eq_true rfl) (Nat.le_of_ble_eq_true rfl) (Nat.le_of_ble_eq_true rfl) (fun v2 h2 hp => ?_) (fun ax h2 hp => ?_)
  · obtain ⟨g1, g2, ⟨-, _, q1, -⟩ | ⟨-, -, _, q1, -⟩ | ⟨g3, u, u1, u2, b, u3, g5⟩⟩ := hp
    · cases q1
    · cases q1
    · cases g5
      have fin : ∀ x : Int64, x = bL b → Go K M_Law_without r_Law_without 15 (lv_args 0 [.ref (X 0), .int a, .ref o]) [.long x, .int (nI 0), .ref o] h2 0 0 (gRx fun v h' => ∃ x, lhP h X o tx fl k c w A CS h' x ∧ ((k = 0 ∧ v = some (.int (nI 1))) ∨ (¬ k = 0 ∧ ¬ (¬ a < 0 ∧ a < nI k) ∧ v = some (.int (nI 2))) ∨ (¬ k = 0 ∧ v = some (.int (nI 0)) ∧ ∃ u, u < k ∧ a = nI u ∧ ∃ b : Bool, (b = true ↔ ∃ n, n < 2 ^ A ∧ hat A k CS (2 ^ k - 1 - 2 ^ u) n) ∧ x = bL b))) := by
        rintro x rfl
        refine g_last d_Law_without_15 (lh_o g2 hX ho) (rfl) (by decide) (by decide) ?_
        refine g_goto (tgt := 25) d_Law_without_16 (by decide) ?_
        refine g_iconst (v := nI 0) d_Law_without_25 (by decide) ?_
        exact g_ret_i d_Law_without_26 rfl rfl ⟨_, rfl, _, lh_a g1 g2 hX, Or.inr (Or.inr ⟨g3, rfl, u, u1, u2, b, u3, rfl⟩)⟩
      refine g_if_eq (tgt := 14) d_Law_without_7 (by decide) (fun q => ?_) (fun q => ?_)
      · refine g_lconstV (v := 0) d_Law_without_14 (by decide) ?_
        exact fin 0 (by rw [(bI_z _).mp q]; rfl)
      · refine g_lconstV (v := 1) d_Law_without_10 (by decide) ?_
        refine g_goto (tgt := 15) d_Law_without_11 (by decide) ?_
        exact fin 1 (by rw [bI_t q]; rfl)
  · obtain ⟨g1, g2, ⟨g3, q1, q2, q3⟩ | ⟨g3, g4, q1, q2, q3⟩ | ⟨-, u, -, -, b, -, g5⟩⟩ := hp
    · cases q2
      refine ⟨11, 19, q3, ct_without1, ?_⟩
      refine g_astore_n d_Law_without_19 rfl (Nat.le_of_ble_eq_true rfl) rfl ?_
      refine g_iconst (v := nI 1) d_Law_without_20 (by decide) ?_
      exact g_ret_i d_Law_without_21 rfl rfl ⟨_, rfl, _, lh_t g1 g2 hX ho, Or.inl ⟨g3, rfl⟩⟩
    · cases q2
      refine ⟨13, 22, q3, ct_without2, ?_⟩
      refine g_astore_n d_Law_without_22 rfl (Nat.le_of_ble_eq_true rfl) rfl ?_
      refine g_iconst (v := nI 2) d_Law_without_23 (by decide) ?_
      exact g_ret_i d_Law_without_24 rfl rfl ⟨_, rfl, _, lh_t g1 g2 hX ho, Or.inr (Or.inl ⟨g3, g4, rfl⟩)⟩
    · cases g5
theorem c_Law_core (hst : K.1.stackTraces = false) (hh : gHt h X tx fl k c w A CS) (ho : h o = some (.inl (1, 1, .inr (.inl f)))) (hX : ∀ i, i < 145 → X i ≠ o) (a : Int32) : Ct K r_Law_core M_Law_core [.ref (X 0), .int a, .ref o] h (gRx fun v h' => ∃ x, lhP h X o tx fl k c w A CS h' x ∧ ((k = 0 ∧ v = some (.int (nI 1))) ∨ (¬ k = 0 ∧ ¬ (¬ a < 0 ∧ a ≤ nI (2 ^ k - 1)) ∧ v = some (.int (nI 2))) ∨ (¬ k = 0 ∧ v = some (.int (nI 0)) ∧ ∃ s, s < 2 ^ k ∧ a = nI s ∧ ∃ b : Bool, (b = true ↔ (¬ ∃ n, n < 2 ^ A ∧ hat A k CS s n) ∧ ∀ u, u < k → s / 2 ^ u % 2 = 1 → ∃ n, n < 2 ^ A ∧ hat A k CS (s - 2 ^ u) n) ∧ x = bL b))) := by
  refine Ct.of hst (by decide) (Or.inr gRx_x) (Nat.le_of_ble_eq_true rfl) ?_
  refine g_aload_n d_Law_core_0 rfl ?_
  refine g_iconst (v := nI 0) d_Law_core_1 (by decide) ?_
  refine g_aload_n d_Law_core_2 rfl ?_
  refine g_iload_n d_Law_core_3 rfl ?_
  refine g_callC (c_HT_core hst hh a) gm_HT_core d_Law_core_4 (gInv_v (As := [.int a]) (rest := [.int (nI 0), .ref o]) d_Law_core_4 gm_HT_core gv_Law_38 (hh.2.1) rfl) (Nat.le_of_ble_eq_true rfl) (Nat.le_of_ble_eq_true rfl) (Nat.le_of_ble_eq_true rfl) (Nat.le_of_ble_eq_true rfl) (Nat.le_of_ble_eq_true rfl) (fun v2 h2 hp => ?_) (fun ax h2 hp => ?_)
  · obtain ⟨g1, g2, ⟨-, _, q1, -⟩ | ⟨-, -, _, q1, -⟩ | ⟨g3, u, u1, u2, b, u3, g5⟩⟩ := hp
    · cases q1
    · cases q1
    · cases g5
      have fin : ∀ x : Int64, x = bL b → Go K M_Law_core r_Law_core 15 (lv_args 0 [.ref (X 0), .int a, .ref o]) [.long x, .int (nI 0), .ref o] h2 0 0 (gRx fun v h' => ∃ x, lhP h X o tx fl k c w A CS h' x ∧ ((k = 0 ∧ v = some (.int (nI 1))) ∨ (¬ k = 0 ∧ ¬ (¬ a < 0 ∧ a ≤ nI (2 ^ k - 1)) ∧ v = some (.int (nI 2))) ∨ (¬ k = 0 ∧ v = some (.int (nI 0)) ∧ ∃ s, s < 2 ^ k ∧ a = nI s ∧ ∃ b : Bool, (b = true ↔ (¬ ∃ n, n < 2 ^ A ∧ hat A k CS s n) ∧ ∀ u, u < k → s / 2 ^ u % 2 = 1 → ∃ n, n < 2 ^ A ∧ hat A k CS (s - 2 ^ u) n) ∧ x = bL b))) := by
        rintro x rfl
        refine g_last d_Law_core_15 (lh_o g2 hX ho) (rfl) (by decide) (by decide) ?_
        refine g_goto (tgt := 25) d_Law_core_16 (by decide) ?_
        refine g_iconst (v := nI 0) d_Law_core_25 (by decide) ?_
        exact g_ret_i d_Law_core_26 rfl rfl ⟨_, rfl, _, lh_a g1 g2 hX, Or.inr (Or.inr ⟨g3, rfl, u, u1, u2, b, u3, rfl⟩)⟩
      refine g_if_eq (tgt := 14) d_Law_core_7 (by decide) (fun q => ?_) (fun q => ?_)
      · refine g_lconstV (v := 0) d_Law_core_14 (by decide) ?_
        exact fin 0 (by rw [(bI_z _).mp q]; rfl)
      · refine g_lconstV (v := 1) d_Law_core_10 (by decide) ?_
        refine g_goto (tgt := 15) d_Law_core_11 (by decide) ?_
        exact fin 1 (by rw [bI_t q]; rfl)
  · obtain ⟨g1, g2, ⟨g3, q1, q2, q3⟩ | ⟨g3, g4, q1, q2, q3⟩ | ⟨-, u, -, -, b, -, g5⟩⟩ := hp
    · cases q2
      refine ⟨11, 19, q3, ct_core1, ?_⟩
      refine g_astore_n d_Law_core_19 rfl (Nat.le_of_ble_eq_true rfl) rfl ?_
      refine g_iconst (v := nI 1) d_Law_core_20 (by decide) ?_
      exact g_ret_i d_Law_core_21 rfl rfl ⟨_, rfl, _, lh_t g1 g2 hX ho, Or.inl ⟨g3, rfl⟩⟩
    · cases q2
      refine ⟨13, 22, q3, ct_core2, ?_⟩
      refine g_astore_n d_Law_core_22 rfl (Nat.le_of_ble_eq_true rfl) rfl ?_
      refine g_iconst (v := nI 2) d_Law_core_23 (by decide) ?_
      exact g_ret_i d_Law_core_24 rfl rfl ⟨_, rfl, _, lh_t g1 g2 hX ho, Or.inr (Or.inl ⟨g3, g4, rfl⟩)⟩
    · cases g5
theorem c_Law_read (hst : K.1.stackTraces = false) (hh : gHt h X tx fl k c w A CS) (ho : h o = some (.inl (1, 1, .inr (.inl f)))) (hX : ∀ i, i < 145 → X i ≠ o) : Ct K r_Law_read M_Law_read [.ref (X 0), .ref o] h (gRx fun v h' => ∃ (x : Int64) (w0 : Nat → Int32), (∀ p, p < 4 → w0 p = -1) ∧
    ((∃ g, (rd0 tx w0).1 = some g ∧ v = some (.int (nI 1)) ∧ lhP h X o tx (nI g) k c w A CS h' x) ∨
     ((rd0 tx w0).1 = none ∧ v = some (.int (nI 0)) ∧ ∃ w', (∀ p, p < 4 → w' p = (rd0 tx w0).2.2.2.1 p) ∧ lhP h X o [] (-1) (rd0 tx w0).2.1 (rd0 tx w0).2.2.1 w' (atc w' (rd0 tx w0).2.2.1) (cset (rd0 tx w0).2.2.1 w' (rd0 tx w0).2.2.2.2.1 (rd0 tx w0).2.2.2.2.2) h' x ∧ ∃ al : List Nat, al.Nodup ∧ al.length ≤ 324 ∧ (∀ e, e ∈ al ↔ ∃ u, u < (rd0 tx w0).2.1 ∧ cset (rd0 tx w0).2.2.1 w' (rd0 tx w0).2.2.2.2.1 (rd0 tx w0).2.2.2.2.2 u e) ∧ x = (nI al.length).toInt64))) := by
  refine Ct.of hst (by decide) (Or.inr gRx_x) (Nat.le_of_ble_eq_true rfl) ?_
  refine g_aload_n d_Law_read_0 rfl ?_
  refine g_iconst (v := nI 0) d_Law_read_1 (by decide) ?_
  refine g_aload_n d_Law_read_2 rfl ?_
  refine g_callC (c_HT_read hst hh) gm_HT_read d_Law_read_3 (gInv_v (As := []) (rest := [.int (nI 0), .ref o]) d_Law_read_3 gm_HT_read gv_Law_7 (hh.2.1) rfl) (Nat.le_of_ble_eq_true rfl) (Nat.le_of_ble_eq_true rfl) (Nat.le_of_ble_eq_true rfl) (Nat.le_of_ble_eq_true rfl) (Nat.le_of_ble_eq_true rfl) (fun v2 h2 hp => ?_) (fun ax h2 hp => ?_)
  · obtain ⟨g2, w0, hw0, ⟨g, -, -, ⟨_, q1, -⟩, -⟩ | ⟨z1, w', hw', g1, al, a1, a2, a3, g5⟩⟩ := hp
    · cases q1
    · cases g5
      refine g_i2l d_Law_read_6 ?_
      refine g_last d_Law_read_7 (lh_o g2 hX ho) (rfl) (by decide) (by decide) ?_
      refine g_goto (tgt := 14) d_Law_read_8 (by decide) ?_
      refine g_iconst (v := nI 0) d_Law_read_14 (by decide) ?_
      exact g_ret_i d_Law_read_15 rfl rfl ⟨_, rfl, _, w0, hw0, Or.inr ⟨z1, rfl, w', hw', lh_a g1 g2 hX, al, a1, a2, a3, rfl⟩⟩
  · obtain ⟨g2, w0, hw0, ⟨g, z1, -, ⟨q1, q2, q3⟩, g1⟩ | ⟨-, w', -, -, al, -, -, -, g5⟩⟩ := hp
    · cases q2
      refine ⟨10, 11, q3, ct_read, ?_⟩
      refine g_astore_n d_Law_read_11 rfl (Nat.le_of_ble_eq_true rfl) rfl ?_
      refine g_iconst (v := nI 1) d_Law_read_12 (by decide) ?_
      exact g_ret_i d_Law_read_13 rfl rfl ⟨_, rfl, _, w0, hw0, Or.inl ⟨g, z1, rfl, lh_t g1 g2 hX ho⟩⟩
    · cases g5
end LAWH
