/-! ===== Sentence: what it answers ===== -/
/-- a table in which the clauses of a sum hold -/
def hat (A k : Nat) (CS : Nat → Nat → Prop) (s n : Nat) : Prop := ∀ u, u < k → s / 2 ^ u % 2 = 1 → ∀ e, CS u e → sat A (e % 4096) (e / 4096) n A = true
/-- a sentence: k clauses, constants c, widths w, A atoms, the instances of each clause -/
def gSe (h : gH) (S : Nat → Nat) (k c : Nat) (w : Nat → Int32) (A : Nat) (CS : Nat → Nat → Prop) : Prop :=
  (h (S 0) = some (.inr (5, [.ref (S 1), .int (nI k), .ref (S 4), .ref (S 5), .ref (S 7), .ref (S 9), .ref (S 10), .ref (S 11), .ref (S 13), .ref (S 15)])) ∧ k ≤ 12 ∧ A ≤ 12)
  ∧ ((∃ v3, h (S 1) = some (.inr (2, [.ref (S 2), .ref (S 3), .int (nI c), v3, .int (nI A)]))) ∧ gVu h (S 1) (S 2) (S 3) w c ∧ ∀ p, p < 4 → ¬ w p = -1 → gVc h (S 1) (S 2) (S 3) w c)
  ∧ ((∃ f6 : Nat → Int32, h (S 15) = some (.inl (0, 6, .inl f6))) ∧ ∃ fl : Nat → Option Nat, h (S 10) = some (.inl (5, 12, .inr (.inr (.inr (.inr fl))))) ∧ ∀ j, j < 12 → fl j = some (S (16 + j)))
  ∧ (∃ fo : Nat → Int32, h (S 4) = some (.inl (0, 12, .inl fo)) ∧ ∀ u, u < k → ∃ l : List Nat, l.Nodup ∧ l.length ≤ 27 ∧ (∀ e, e ∈ l ↔ CS u e) ∧ fo u = nI l.length)
  ∧ (∃ al, gIs h (S 5) (S 6) 324 al ∧ al.Nodup ∧ ∀ e, e ∈ al ↔ ∃ u, u < k ∧ CS u e)
  ∧ ((∃ l0, gIs h (S 7) (S 8) 27 l0) ∧ (∃ t g, gIn h (S 9) t g) ∧ gTu h (S 11) (S 12))
  ∧ ((∀ u, u < 12 → gTu h (S (16 + u)) (S (28 + u))) ∧ ∀ u, u < k → ∃ f, gTb h (S (16 + u)) (S (28 + u)) A f ∧ ∀ n, n < 64 * wcn A → (tbs f n = true ↔ n < 2 ^ A ∧ ∀ e, CS u e → sat A (e % 4096) (e / 4096) n A = true))
  ∧ gTu h (S 13) (S 14)
theorem gSe.of {h h' : gH} {S : Nat → Nat} {k c : Nat} {w : Nat → Int32} {A : Nat} {CS : Nat → Nat → Prop} (hs : gSe h S k c w A CS) (he : ∀ i, i < 40 → i ≠ 13 → i ≠ 14 → h' (S i) = h (S i)) (ht : gTu h' (S 13) (S 14)) : gSe h' S k c w A CS := by
  obtain ⟨⟨a1, a2⟩, ⟨b1, b2, b3⟩, ⟨c1, c2⟩, d1, ⟨al, e1, e2⟩, ⟨⟨l0, g1⟩, ⟨t, g, g2⟩, g3⟩, ⟨f1, f2⟩, -⟩ := hs
  have E := fun i hi h1 h2 => he i hi h1 h2
  refine ⟨⟨(E 0 (by decide) (by decide) (by decide)).trans a1, a2⟩, ⟨?_, b2.of (E 1 (by decide) (by decide) (by decide)) (E 2 (by decide) (by decide) (by decide)) (E 3 (by decide) (by decide) (by decide)), fun p hp hw => (b3 p hp hw).of (E 1 (by decide) (by decide) (by decide)) (E 2 (by decide) (by decide) (by decide)) (E 3 (by decide) (by decide) (by decide))⟩, ⟨?_, ?_⟩, ?_, ⟨al, e1.of (E 5 (by decide) (by decide) (by decide)) (E 6 (by decide) (by decide) (by decide)), e2⟩, ⟨⟨l0, g1.of (E 7 (by decide) (by decide) (by decide)) (E 8 (by decide) (by decide) (by decide))⟩, ⟨t, g, g2.of (E 9 (by decide) (by decide) (by decide))⟩, g3.of (E 11 (by decide) (by decide) (by decide)) (E 12 (by decide) (by decide) (by decide))⟩, ⟨fun u hu => (f1 u hu).of (E _ (by omega) (by omega) (by omega)) (E _ (by omega) (by omega) (by omega)), fun u hu => ?_⟩, ht⟩
  · rw [E 1 (by decide) (by decide) (by decide)]; exact b1
  · rw [E 15 (by decide) (by decide) (by decide)]; exact c1
  · rw [E 10 (by decide) (by decide) (by decide)]; exact c2
  · rw [E 4 (by decide) (by decide) (by decide)]; exact d1
  · obtain ⟨f, z1, z2⟩ := f2 u hu
    exact ⟨f, z1.of (E _ (by omega) (by omega) (by omega)) (E _ (by omega) (by omega) (by omega)), z2⟩
theorem c_Sen_instanceCount {K : gK} {h : gH} (hst : K.1.stackTraces = false) {S : Nat → Nat} {k c A : Nat} {w : Nat → Int32} {CS : Nat → Nat → Prop} (hs : gSe h S k c w A CS) : Ct K r_Sen_instanceCount M_Sen_instanceCount [.ref (S 0)] h (gRx fun o h' => h' = h ∧ ∃ al : List Nat, al.Nodup ∧ al.length ≤ 324 ∧ (∀ e, e ∈ al ↔ ∃ u, u < k ∧ CS u e) ∧ o = some (.int (nI al.length))) := by
  obtain ⟨⟨a1, a2⟩, -, -, -, ⟨al, e1, e2, e3⟩, -⟩ := hs
  refine Ct.of hst (by decide) (Or.inl rfl) (Nat.le_of_ble_eq_true rfl) ?_
  refine g_aload_n d_Sen_instanceCount_0 rfl ?_
  refine g_get d_Sen_instanceCount_1 f_Sen_27 (a1) rfl ?_
  refine g_get d_Sen_instanceCount_4 f_Sen_81 (e1.2.2.2.choose_spec.1) rfl ?_
  exact g_ret_i d_Sen_instanceCount_7 rfl rfl ⟨_, rfl, rfl, al, e2, e1.2.1, e3, rfl⟩
theorem c_Sen_hasClause {K : gK} {h : gH} (hst : K.1.stackTraces = false) {S : Nat → Nat} {k c A : Nat} {w : Nat → Int32} {CS : Nat → Nat → Prop} (hs : gSe h S k c w A CS) (x : Int32) : Ct K r_Sen_hasClause M_Sen_hasClause [.ref (S 0), .int x] h (gRt (some (.int (bI (decide (¬ x < 0 ∧ x < nI k))))) h) := by
  obtain ⟨⟨a1, a2⟩, -⟩ := hs
  refine Ct.of hst (by decide) (Or.inl rfl) (Nat.le_of_ble_eq_true rfl) ?_
  refine g_iload_n d_Sen_hasClause_0 rfl ?_
  refine g_if_lt (tgt := 16) d_Sen_hasClause_1 (by decide) (fun q => ?_) (fun q => ?_)
  · refine g_iconst (v := nI 0) d_Sen_hasClause_16 (by decide) ?_
    refine g_ret_i d_Sen_hasClause_17 rfl rfl ⟨?_, rfl⟩
    rw [decide_eq_false (fun z => z.1 q)]
    rfl
  · refine g_iload_n d_Sen_hasClause_4 rfl ?_
    refine g_aload_n d_Sen_hasClause_5 rfl ?_
    refine g_get d_Sen_hasClause_6 f_Sen_69 (a1) rfl ?_
    refine g_icmp_ge (tgt := 16) d_Sen_hasClause_9 (by decide) (fun q => ?_) (fun q => ?_)
    · refine g_iconst (v := nI 0) d_Sen_hasClause_16 (by decide) ?_
      refine g_ret_i d_Sen_hasClause_17 rfl rfl ⟨?_, rfl⟩
      rw [decide_eq_false (fun z => absurd z.2 (Int32.not_lt.mpr q))]
      rfl
    · refine g_iconst (v := nI 1) d_Sen_hasClause_12 (by decide) ?_
      refine g_goto (tgt := 17) d_Sen_hasClause_13 (by decide) ?_
      refine g_ret_i d_Sen_hasClause_17 rfl rfl ⟨?_, rfl⟩
      rw [decide_eq_true ⟨by assumption, Int32.not_le.mp q⟩]
      rfl
theorem pw1 : ∀ k, k ≤ 12 → (nI 1 <<< (nI k &&& 31)) - nI 1 = nI (2 ^ k - 1) := by decide
theorem c_Sen_everyClause {K : gK} {h : gH} (hst : K.1.stackTraces = false) {S : Nat → Nat} {k c A : Nat} {w : Nat → Int32} {CS : Nat → Nat → Prop} (hs : gSe h S k c w A CS) : Ct K r_Sen_everyClause M_Sen_everyClause [.ref (S 0)] h (gRt (some (.int (nI (2 ^ k - 1)))) h) := by
  obtain ⟨⟨a1, a2, a3⟩, -⟩ := hs
  refine Ct.of hst (by decide) (Or.inl rfl) (Nat.le_of_ble_eq_true rfl) ?_
  refine g_iconst (v := nI 1) d_Sen_everyClause_0 (by decide) ?_
  refine g_aload_n d_Sen_everyClause_1 rfl ?_
  refine g_get d_Sen_everyClause_2 f_Sen_69 (a1) rfl ?_
  refine g_ishl d_Sen_everyClause_5 ?_
  refine g_iconst (v := nI 1) d_Sen_everyClause_6 (by decide) ?_
  refine g_isub d_Sen_everyClause_7 ?_
  rw [pw1 k a2]
  exact g_ret_i d_Sen_everyClause_8 rfl rfl ⟨rfl, rfl⟩
theorem pw_wcn (A : Nat) : 2 ^ A ≤ 64 * wcn A := by
  by_cases h : A < 6
  · have : wcn A = 1 := by unfold wcn; rw [if_pos h]
    rw [this]
    exact Nat.le_trans (Nat.pow_le_pow_right (by decide) (show A ≤ 6 by omega)) (by decide)
  · rw [wcn_pow (by omega)]
    exact Nat.le_refl _
theorem l_Sen_tablesOf {K : gK} (hst : K.1.stackTraces = false) {S : Nat → Nat} (hS : gNj S 40) {k c A s : Nat} {w : Nat → Int32} {CS : Nat → Nat → Prop} (hs31 : s < 2 ^ 31) : ∀ (r u : Nat) (h : gH) (f : Nat → Int64), u + r = k → gSe h S k c w A CS → gTb h (S 13) (S 14) A f → (∀ n, n < 64 * wcn A → (tbs f n = true ↔ n < 2 ^ A ∧ hat A u CS s n)) →
    Go K M_Sen_tablesOf r_Sen_tablesOf 16 [(0, .ref (S 0)), (1, .int (nI s)), (2, .int (nI u))] [] h 0 0 (gRx fun o h' => o = some (.ref (S 13)) ∧ ∃ f', gTb h' (S 13) (S 14) A f' ∧ (∀ n, n < 64 * wcn A → (tbs f' n = true ↔ n < 2 ^ A ∧ hat A k CS s n)) ∧ gSe h' S k c w A CS ∧ gKp h h' [S 14]) := by
  intro r
  induction r with
  | zero =>
    intro u h f hu hs hf hn
    obtain ⟨⟨a1, a2, a3⟩, -⟩ := id hs
    refine g_iload_n d_Sen_tablesOf_16 rfl ?_
    refine g_aload_n d_Sen_tablesOf_17 rfl ?_
    refine g_get d_Sen_tablesOf_18 f_Sen_69 (a1) rfl ?_
    refine g_icmpN_ge (tgt := 51) d_Sen_tablesOf_21 (by decide) (rfl) (rfl) (by omega) (by omega) (fun q => ?_) (fun q => ?_)
    · refine g_aload_n d_Sen_tablesOf_51 rfl ?_
      refine g_get d_Sen_tablesOf_52 f_Sen_52 (a1) rfl ?_
      have e : u = k := by omega
      subst e
      exact g_ret_a d_Sen_tablesOf_55 rfl ⟨_, rfl, rfl, f, hf, hn, hs, gKp.rf⟩
    · omega
  | succ r ih =>
    intro u h f hu hs hf hn
    obtain ⟨⟨a1, a2, a3⟩, -, ⟨-, fl, c1, c2⟩, -, -, -, ⟨-, f2⟩, -⟩ := id hs
    obtain ⟨g, g1, g2⟩ := f2 u (by omega)
    refine g_iload_n d_Sen_tablesOf_16 rfl ?_
    refine g_aload_n d_Sen_tablesOf_17 rfl ?_
    refine g_get d_Sen_tablesOf_18 f_Sen_69 (a1) rfl ?_
    refine g_icmpN_ge (tgt := 51) d_Sen_tablesOf_21 (by decide) (rfl) (rfl) (by omega) (by omega) (fun q => ?_) (fun q => ?_)
    · omega
    · refine g_iload_n d_Sen_tablesOf_24 rfl ?_
      refine g_iload_n d_Sen_tablesOf_25 rfl ?_
      refine g_ishr d_Sen_tablesOf_26 ?_
      refine g_iconst (v := nI 1) d_Sen_tablesOf_27 (by decide) ?_
      refine g_iand d_Sen_tablesOf_28 ?_
      rw [nI_bit hs31 (by omega)]
      refine g_if_eq (tgt := 45) d_Sen_tablesOf_29 (by decide) (fun q => ?_) (fun q => ?_)
      · refine g_iinc d_Sen_tablesOf_45 rfl (nI_inc _) (Nat.le_of_ble_eq_true rfl) rfl ?_
        refine g_goto (tgt := 16) d_Sen_tablesOf_48 (by decide) ?_
        refine ih (u + 1) h f (by omega) hs hf fun n hn1 => (hn n hn1).trans (and_congr_right fun hA => ?_)
        have z : s / 2 ^ u % 2 = 0 := (nI_z (by omega)).mp q
        constructor
        · intro y u' hu' hb
          by_cases e : u' = u
          · subst e
            omega
          · exact y u' (by omega) hb
        · exact fun y u' hu' hb => y u' (by omega) hb
      · have z : s / 2 ^ u % 2 = 1 := by
          have : ¬ s / 2 ^ u % 2 = 0 := fun y => q ((nI_z (by omega)).mpr y)
          omega
        refine g_aload_n d_Sen_tablesOf_32 rfl ?_
        refine g_get d_Sen_tablesOf_33 f_Sen_52 (a1) rfl ?_
        refine g_aload_n d_Sen_tablesOf_36 rfl ?_
        refine g_get d_Sen_tablesOf_37 f_Sen_43 (a1) rfl ?_
        refine g_iload_n d_Sen_tablesOf_40 rfl ?_
        refine g_aald d_Sen_tablesOf_41 (Or.inr rfl) (c1) (rfl) (by omega) (by decide) (c2 u (by omega)) ?_
        refine g_callX (c_Tab_keep hst hf g1 (hS.ne (by omega) (by omega) (by omega))) gm_Tab_keepCommon d_Sen_tablesOf_42 (gInv_v (As := [.ref (S (16 + u))]) (rest := []) d_Sen_tablesOf_42 gm_Tab_keepCommon gv_Sen_90 (hf.2.1) rfl) (Nat.le_of_ble_eq_true rfl) (Nat.le_of_ble_eq_true rfl) (Nat.le_of_ble_eq_true rfl) (Nat.le_of_ble_eq_true rfl) (Nat.le_of_ble_eq_true rfl) (fun v h1 hp => ?_)
        obtain ⟨rfl, f', d1, d2, k1⟩ := hp
        refine g_iinc d_Sen_tablesOf_45 rfl (nI_inc _) (Nat.le_of_ble_eq_true rfl) rfl ?_
        refine g_goto (tgt := 16) d_Sen_tablesOf_48 (by decide) ?_
        have hs1 : gSe h1 S k c w A CS := hs.of (fun i hi h1 h2 => gKp.S hS [14] k1 hi (by decide) (by simp [h2])) d1.u
        refine g_post (fun o h' y => ?_) (ih (u + 1) h1 f' (by omega) hs1 d1 fun n hn1 => ?_)
        · obtain ⟨v, y1, y2, f3, y3, y4, y5, y6⟩ := y
          exact ⟨v, y1, y2, f3, y3, y4, y5, k1.tr y6⟩
        · rw [d2 n hn1, Bool.and_eq_true, hn n hn1, g2 n hn1]
          constructor
          · rintro ⟨⟨y1, y2⟩, -, y3⟩
            refine ⟨y1, fun u' hu' hb => ?_⟩
            by_cases e : u' = u
            · subst e
              exact y3
            · exact y2 u' (by omega) hb
          · rintro ⟨y1, y2⟩
            exact ⟨⟨y1, fun u' hu' hb => y2 u' (by omega) hb⟩, y1, y2 u (by omega) z⟩
theorem c_Sen_tablesOf {K : gK} {h : gH} (hst : K.1.stackTraces = false) {S : Nat → Nat} (hS : gNj S 40) {k c A s : Nat} {w : Nat → Int32} {CS : Nat → Nat → Prop} (hs : gSe h S k c w A CS) (hs31 : s < 2 ^ 31) : Ct K r_Sen_tablesOf M_Sen_tablesOf [.ref (S 0), .int (nI s)] h (gRx fun o h' => o = some (.ref (S 13)) ∧ ∃ f', gTb h' (S 13) (S 14) A f' ∧ (∀ n, n < 64 * wcn A → (tbs f' n = true ↔ n < 2 ^ A ∧ hat A k CS s n)) ∧ gSe h' S k c w A CS ∧ gKp h h' [S 13, S 14]) := by
  obtain ⟨⟨a1, a2, a3⟩, ⟨⟨v3, b1⟩, -⟩, -, -, -, -, -, ht⟩ := id hs
  refine Ct.of hst (by decide) (Or.inl rfl) (Nat.le_of_ble_eq_true rfl) ?_
  refine g_aload_n d_Sen_tablesOf_0 rfl ?_
  refine g_get d_Sen_tablesOf_1 f_Sen_52 (a1) rfl ?_
  refine g_aload_n d_Sen_tablesOf_4 rfl ?_
  refine g_get d_Sen_tablesOf_5 f_Sen_12 (a1) rfl ?_
  refine g_get d_Sen_tablesOf_8 f_Sen_84 (b1) rfl ?_
  refine g_callX (c_Tab_fill hst ht a3) gm_Tab_fill d_Sen_tablesOf_11 (gInv_v (As := [.int (nI A)]) (rest := []) d_Sen_tablesOf_11 gm_Tab_fill gv_Sen_87 (ht.choose_spec.choose_spec.choose_spec.1) rfl) (Nat.le_of_ble_eq_true rfl) (Nat.le_of_ble_eq_true rfl) (Nat.le_of_ble_eq_true rfl) (Nat.le_of_ble_eq_true rfl) (Nat.le_of_ble_eq_true rfl) (fun v h1 hp => ?_)
  obtain ⟨rfl, f, f1, f2, k1⟩ := hp
  refine g_iconst (v := nI 0) d_Sen_tablesOf_14 (by decide) ?_
  refine g_istore_n d_Sen_tablesOf_15 rfl (Nat.le_of_ble_eq_true rfl) rfl ?_
  have hs1 : gSe h1 S k c w A CS := hs.of (fun i hi h1 h2 => gKp.S hS [13, 14] k1 hi (by decide) (by simp [h1, h2])) f1.u
  refine g_post (fun o h' y => ?_) (l_Sen_tablesOf hst hS hs31 k 0 h1 f (by omega) hs1 f1 fun n hn => (tbs_all a3 f2 hn).trans ⟨fun z => ⟨z, fun u hu => absurd hu (Nat.not_lt_zero _)⟩, fun z => z.1⟩)
  obtain ⟨v, y1, y2, f3, y3, y4, y5, y6⟩ := y
  exact ⟨v, y1, y2, f3, y3, y4, y5, k1.tr (y6.mono (by simp))⟩
