/-! ===== the face: tables, least, greatest, forced ===== -/
section FACE3
variable {K : gK} {h : gH} {X : Nat → Nat} {tx : List Nat} {fl : Int32} {k c : Nat} {w : Nat → Int32} {A : Nat} {CS : Nat → Nat → Prop}
theorem rq_ret {v : Option Value} {h' : gH} (hp : (¬ k = 0 ∧ Outcome.returned v = .returned none ∧ h' = h) ∨ (k = 0 ∧ gTh 11 (.returned v) h' ∧ gHt h' X tx fl k c w A CS ∧ gKx h h' (gOf X 145))) : ¬ k = 0 ∧ v = none ∧ h' = h := by
  rcases hp with ⟨h1, h2, h3⟩ | ⟨-, ⟨q, h1, -⟩, -⟩
  · exact ⟨h1, by cases h2; rfl, h3⟩
  · cases h1
theorem rq_thr {a : Nat} {h' : gH} (hp : (¬ k = 0 ∧ Outcome.threw a = .returned none ∧ h' = h) ∨ (k = 0 ∧ gTh 11 (.threw a) h' ∧ gHt h' X tx fl k c w A CS ∧ gKx h h' (gOf X 145))) : k = 0 ∧ gTh 11 (.threw a) h' ∧ gHt h' X tx fl k c w A CS ∧ gKx h h' (gOf X 145) := by
  rcases hp with ⟨-, h2, -⟩ | h1
  · cases h2
  · exact h1
theorem kx_13 {h' : gH} (k1 : gKp h h' [X (105 + 13), X (105 + 14)]) : gKx h h' (gOf X 145) := gKP.x (gKp.P k1 fun x hx => by
  simp only [List.mem_cons, List.not_mem_nil, or_false] at hx
  rcases hx with e | e
  · exact ⟨118, by decide, e⟩
  · exact ⟨119, by decide, e⟩)
theorem pw31 {k : Nat} (hk : k ≤ 12) : 2 ^ k - 1 < 2 ^ 31 := Nat.lt_of_le_of_lt (Nat.sub_le _ _) (Nat.pow_lt_pow_right (by decide) (by omega))
theorem cn_hat {s : Nat} {f : Nat → Int64} (f2 : ∀ n, n < 64 * wcn A → (tbs f n = true ↔ n < 2 ^ A ∧ hat A k CS s n)) : cnB (tbs f) (64 * wcn A) = 0 ↔ ¬ ∃ n, n < 2 ^ A ∧ hat A k CS s n := by
  rw [cnB_z]
  constructor
  · rintro z ⟨n, y1, y2⟩
    have hn := Nat.lt_of_lt_of_le y1 (pw_wcn A)
    have := (f2 n hn).mpr ⟨y1, y2⟩
    rw [z n hn] at this
    cases this
  · intro z n hn
    cases hb : tbs f n with
    | false => rfl
    | true => exact absurd ⟨n, (f2 n hn).mp hb⟩ z
theorem c_HT_tables (hst : K.1.stackTraces = false) (hh : gHt h X tx fl k c w A CS) : Ct K r_HT_tables M_HT_tables [.ref (X 0)] h (fun o h' => gHt h' X tx fl k c w A CS ∧ gKx h h' (gOf X 145) ∧ ((k = 0 ∧ gTh 11 o h') ∨ (¬ k = 0 ∧ ∃ p : Nat → Bool, (∀ n, n < 64 * wcn A → (p n = true ↔ n < 2 ^ A ∧ hat A k CS (2 ^ k - 1) n)) ∧ o = .returned (some (.int (nI (cnB p (64 * wcn A)))))))) := by
  obtain ⟨hX, h1, h2, h3, h4⟩ := id hh
  refine Ct.of hst (by decide) (Or.inl rfl) (Nat.le_of_ble_eq_true rfl) ?_
  refine g_aload_n d_HT_tables_0 rfl ?_
  refine g_call (c_HT_require hst hh) gm_HT_requireSentence d_HT_tables_1 (gInv_v (As := []) (rest := []) d_HT_tables_1 gm_HT_requireSentence gv_HT_86 (h1) rfl) (Nat.le_of_ble_eq_true rfl) (Nat.le_of_ble_eq_true rfl) (Nat.le_of_ble_eq_true rfl) (Nat.le_of_ble_eq_true rfl) (Nat.le_of_ble_eq_true rfl) (fun v1 h1 hp => ?_) (fun ax h1 hp => ?_)
  · obtain ⟨hk, rfl, rfl⟩ := rq_ret hp
    refine g_aload_n d_HT_tables_4 rfl ?_
    refine g_get d_HT_tables_5 f_HT_26 (h1) rfl ?_
    refine g_aload_n d_HT_tables_8 rfl ?_
    refine g_get d_HT_tables_9 f_HT_26 (h1) rfl ?_
    refine g_callR (c_Sen_everyClause hst h4) gm_Sen_everyClause d_HT_tables_12 (gInv_v (As := []) (rest := [.ref (X 105)]) d_HT_tables_12 gm_Sen_everyClause gv_HT_80 (h4.1.1) rfl) (Nat.le_of_ble_eq_true rfl) (Nat.le_of_ble_eq_true rfl) (Nat.le_of_ble_eq_true rfl) (Nat.le_of_ble_eq_true rfl) (Nat.le_of_ble_eq_true rfl) ?_
    refine g_callX (c_Sen_tablesOf hst (nj_S hX) h4 (pw31 h4.1.2.1)) gm_Sen_tablesOf d_HT_tables_15 (gInv_v (As := [.int (nI (2 ^ k - 1))]) (rest := []) d_HT_tables_15 gm_Sen_tablesOf gv_HT_89 (h4.1.1) rfl) (Nat.le_of_ble_eq_true rfl) (Nat.le_of_ble_eq_true rfl) (Nat.le_of_ble_eq_true rfl) (Nat.le_of_ble_eq_true rfl) (Nat.le_of_ble_eq_true rfl) (fun v2 h2 hp => ?_)
    obtain ⟨rfl, f, f1, f2, f3, k1⟩ := hp
    refine g_callR (c_Tab_size hst f1) gm_Tab_size d_HT_tables_18 (gInv_v (As := []) (rest := []) d_HT_tables_18 gm_Tab_size gv_HT_93 (f1.2.1) rfl) (Nat.le_of_ble_eq_true rfl) (Nat.le_of_ble_eq_true rfl) (Nat.le_of_ble_eq_true rfl) (Nat.le_of_ble_eq_true rfl) (Nat.le_of_ble_eq_true rfl) ?_
    exact g_ret_i d_HT_tables_21 rfl rfl ⟨hh.sen (l := [13, 14]) (by decide) k1 f3, kx_13 k1, Or.inr ⟨hk, tbs f, f2, rfl⟩⟩
  · obtain ⟨hk, y1, y2, y3⟩ := rq_thr hp
    exact ⟨y2, y3, Or.inl ⟨hk, y1⟩⟩
theorem c_HT_someTables (hst : K.1.stackTraces = false) (hh : gHt h X tx fl k c w A CS) : Ct K r_HT_someTables M_HT_someTables [.ref (X 0)] h (fun o h' => gHt h' X tx fl k c w A CS ∧ gKx h h' (gOf X 145) ∧ ((∃ f, o = .returned (some (.ref (X 118))) ∧ gTb h' (X 118) (X 119) A f ∧ (∀ n, n < 64 * wcn A → (tbs f n = true ↔ n < 2 ^ A ∧ hat A k CS (2 ^ k - 1) n)) ∧ ∃ n, n < 2 ^ A ∧ hat A k CS (2 ^ k - 1) n) ∨ ((¬ ∃ n, n < 2 ^ A ∧ hat A k CS (2 ^ k - 1) n) ∧ gTh 12 o h'))) := by
  obtain ⟨hX, h1, h2, h3, h4⟩ := id hh
  refine Ct.of hst (by decide) (Or.inl rfl) (Nat.le_of_ble_eq_true rfl) ?_
  refine g_aload_n d_HT_someTables_0 rfl ?_
  refine g_get d_HT_someTables_1 f_HT_26 (h1) rfl ?_
  refine g_aload_n d_HT_someTables_4 rfl ?_
  refine g_get d_HT_someTables_5 f_HT_26 (h1) rfl ?_
  refine g_callR (c_Sen_everyClause hst h4) gm_Sen_everyClause d_HT_someTables_8 (gInv_v (As := []) (rest := [.ref (X 105)]) d_HT_someTables_8 gm_Sen_everyClause gv_HT_80 (h4.1.1) rfl) (Nat.le_of_ble_eq_true rfl) (Nat.le_of_ble_eq_true rfl) (Nat.le_of_ble_eq_true rfl) (Nat.le_of_ble_eq_true rfl) (Nat.le_of_ble_eq_true rfl) ?_
  refine g_callX (c_Sen_tablesOf hst (nj_S hX) h4 (pw31 h4.1.2.1)) gm_Sen_tablesOf d_HT_someTables_11 (gInv_v (As := [.int (nI (2 ^ k - 1))]) (rest := []) d_HT_someTables_11 gm_Sen_tablesOf gv_HT_89 (h4.1.1) rfl) (Nat.le_of_ble_eq_true rfl) (Nat.le_of_ble_eq_true rfl) (Nat.le_of_ble_eq_true rfl) (Nat.le_of_ble_eq_true rfl) (Nat.le_of_ble_eq_true rfl) (fun v2 h2 hp => ?_)
  obtain ⟨rfl, f, f1, f2, f3, k1⟩ := hp
  have hh2 := hh.sen (l := [13, 14]) (by decide) k1 f3
  refine g_astore_n d_HT_someTables_14 rfl (Nat.le_of_ble_eq_true rfl) rfl ?_
  refine g_aload_n d_HT_someTables_15 rfl ?_
  refine g_callR (c_Tab_isEmpty hst f1) gm_Tab_isEmpty d_HT_someTables_16 (gInv_v (As := []) (rest := []) d_HT_someTables_16 gm_Tab_isEmpty gv_HT_125 (f1.2.1) rfl) (Nat.le_of_ble_eq_true rfl) (Nat.le_of_ble_eq_true rfl) (Nat.le_of_ble_eq_true rfl) (Nat.le_of_ble_eq_true rfl) (Nat.le_of_ble_eq_true rfl) ?_
  have key := cn_hat f2
  refine g_if_eq (tgt := 30) d_HT_someTables_19 (by decide) (fun q => ?_) (fun q => ?_)
  · refine g_aload_n d_HT_someTables_30 rfl ?_
    have : ¬ cnB (tbs f) (64 * wcn A) = 0 := of_decide_eq_false ((bI_z _).mp q)
    exact g_ret_a d_HT_someTables_31 rfl ⟨hh2, kx_13 k1, Or.inl ⟨f, rfl, f1, f2, Classical.byContradiction fun y => this (key.mpr y)⟩⟩
  · have : cnB (tbs f) (64 * wcn A) = 0 := Classical.byContradiction fun y => q ((bI_z _).mpr (decide_eq_false y))
    refine g_throw (X := "java/util/NoSuchElementException") (ci := 12) ⟨xn_NSE, xw_NSE, rfl, by decide +kernel⟩ d_HT_someTables_22 d_HT_someTables_25 d_HT_someTables_26 d_HT_someTables_29 rfl (by decide) (by decide) (by decide) (by decide) fun x hx => ⟨hh2.nw hx, (kx_13 k1).tr (gKx.nw hx), Or.inr ⟨key.mp this, x, rfl, gup_s _ _ _⟩⟩
/-- the first or the last table -/
def lst (A k : Nat) (CS : Nat → Nat → Prop) (o : Outcome) : Prop := ∃ n, n < 2 ^ A ∧ hat A k CS (2 ^ k - 1) n ∧ (∀ m, m < n → ¬ hat A k CS (2 ^ k - 1) m) ∧ o = .returned (some (.int (nI (rvp A n A))))
def gst (A k : Nat) (CS : Nat → Nat → Prop) (o : Outcome) : Prop := ∃ n, n < 2 ^ A ∧ hat A k CS (2 ^ k - 1) n ∧ (∀ m, n < m → m < 2 ^ A → ¬ hat A k CS (2 ^ k - 1) m) ∧ o = .returned (some (.int (nI (rvp A n A))))
theorem pw12 {n A : Nat} (hn : n < 2 ^ A) (hA : A ≤ 12) : n < 4096 := Nat.lt_of_lt_of_le hn (Nat.pow_le_pow_right (n := 2) (by decide) hA)
theorem c_HT_least (hst : K.1.stackTraces = false) (hh : gHt h X tx fl k c w A CS) : Ct K r_HT_least M_HT_least [.ref (X 0)] h (fun o h' => gHt h' X tx fl k c w A CS ∧ gKx h h' (gOf X 145) ∧ ((k = 0 ∧ gTh 11 o h') ∨ (¬ k = 0 ∧ (¬ ∃ n, n < 2 ^ A ∧ hat A k CS (2 ^ k - 1) n) ∧ gTh 12 o h') ∨ (¬ k = 0 ∧ lst A k CS o))) := by
  obtain ⟨hX, h1, h2, h3, h4⟩ := id hh
  refine Ct.of hst (by decide) (Or.inl rfl) (Nat.le_of_ble_eq_true rfl) ?_
  refine g_aload_n d_HT_least_0 rfl ?_
  refine g_call (c_HT_require hst hh) gm_HT_requireSentence d_HT_least_1 (gInv_v (As := []) (rest := []) d_HT_least_1 gm_HT_requireSentence gv_HT_86 (h1) rfl) (Nat.le_of_ble_eq_true rfl) (Nat.le_of_ble_eq_true rfl) (Nat.le_of_ble_eq_true rfl) (Nat.le_of_ble_eq_true rfl) (Nat.le_of_ble_eq_true rfl) (fun v1 h1 hp => ?_) (fun ax h1 hp => ?_)
  · obtain ⟨hk, rfl, rfl⟩ := rq_ret hp
    refine g_aload_n d_HT_least_4 rfl ?_
    refine g_call (c_HT_someTables hst hh) gm_HT_someTables d_HT_least_5 (gInv_v (As := []) (rest := []) d_HT_least_5 gm_HT_someTables gv_HT_98 (h1) rfl) (Nat.le_of_ble_eq_true rfl) (Nat.le_of_ble_eq_true rfl) (Nat.le_of_ble_eq_true rfl) (Nat.le_of_ble_eq_true rfl) (Nat.le_of_ble_eq_true rfl) (fun v2 h2 hp => ?_) (fun ax h2 hp => ?_)
    · obtain ⟨hh2, kx, ⟨f, e, f1, f2, n0, y1, y2⟩ | ⟨-, q, e, -⟩⟩ := hp
      · cases e
        refine g_astore_n d_HT_least_8 rfl (Nat.le_of_ble_eq_true rfl) rfl ?_
        refine g_aload_n d_HT_least_9 rfl ?_
        refine g_aload_n d_HT_least_10 rfl ?_
        refine g_callX (c_Tab_first hst f1) gm_Tab_first d_HT_least_11 (gInv_v (As := []) (rest := [.ref (X 118)]) d_HT_least_11 gm_Tab_first gv_HT_102 (f1.2.1) rfl) (Nat.le_of_ble_eq_true rfl) (Nat.le_of_ble_eq_true rfl) (Nat.le_of_ble_eq_true rfl) (Nat.le_of_ble_eq_true rfl) (Nat.le_of_ble_eq_true rfl) (fun v3 h3 hp => ?_)
        obtain ⟨rfl, ⟨n, z1, z2, z3, rfl⟩ | ⟨z1, -⟩⟩ := hp
        · refine g_callR (c_Tab_trueAtoms hst f1 (pw12 z1 h4.1.2.2)) gm_Tab_trueAtoms d_HT_least_14 (gInv_v (As := [.int (nI n)]) (rest := []) d_HT_least_14 gm_Tab_trueAtoms gv_HT_105 (f1.2.1) rfl) (Nat.le_of_ble_eq_true rfl) (Nat.le_of_ble_eq_true rfl) (Nat.le_of_ble_eq_true rfl) (Nat.le_of_ble_eq_true rfl) (Nat.le_of_ble_eq_true rfl) ?_
          refine g_ret_i d_HT_least_17 rfl rfl ⟨hh2, kx, Or.inr (Or.inr ⟨hk, n, z1, ((f2 n (Nat.lt_of_lt_of_le z1 (pw_wcn A))).mp z2).2, fun m hm y => ?_, rfl⟩)⟩
          have := (f2 m (Nat.lt_of_lt_of_le (Nat.lt_trans hm z1) (pw_wcn A))).mpr ⟨Nat.lt_trans hm z1, y⟩
          rw [z3 m hm] at this
          cases this
        · have := (f2 n0 (Nat.lt_of_lt_of_le y1 (pw_wcn A))).mpr ⟨y1, y2⟩
          rw [z1 n0 y1] at this
          cases this
      · cases e
    · obtain ⟨hh2, kx, ⟨f, e, -⟩ | ⟨y1, y2⟩⟩ := hp
      · cases e
      · exact ⟨hh2, kx, Or.inr (Or.inl ⟨hk, y1, y2⟩)⟩
  · obtain ⟨hk, y1, y2, y3⟩ := rq_thr hp
    exact ⟨y2, y3, Or.inl ⟨hk, y1⟩⟩
theorem c_HT_greatest (hst : K.1.stackTraces = false) (hh : gHt h X tx fl k c w A CS) : Ct K r_HT_greatest M_HT_greatest [.ref (X 0)] h (fun o h' => gHt h' X tx fl k c w A CS ∧ gKx h h' (gOf X 145) ∧ ((k = 0 ∧ gTh 11 o h') ∨ (¬ k = 0 ∧ (¬ ∃ n, n < 2 ^ A ∧ hat A k CS (2 ^ k - 1) n) ∧ gTh 12 o h') ∨ (¬ k = 0 ∧ gst A k CS o))) := by
  obtain ⟨hX, h1, h2, h3, h4⟩ := id hh
  refine Ct.of hst (by decide) (Or.inl rfl) (Nat.le_of_ble_eq_true rfl) ?_
  refine g_aload_n d_HT_greatest_0 rfl ?_
  refine g_call (c_HT_require hst hh) gm_HT_requireSentence d_HT_greatest_1 (gInv_v (As := []) (rest := []) d_HT_greatest_1 gm_HT_requireSentence gv_HT_86 (h1) rfl) (Nat.le_of_ble_eq_true rfl) (Nat.le_of_ble_eq_true rfl) (Nat.le_of_ble_eq_true rfl) (Nat.le_of_ble_eq_true rfl) (Nat.le_of_ble_eq_true rfl) (fun v1 h1 hp => ?_) (fun ax h1 hp => ?_)
  · obtain ⟨hk, rfl, rfl⟩ := rq_ret hp
    refine g_aload_n d_HT_greatest_4 rfl ?_
    refine g_call (c_HT_someTables hst hh) gm_HT_someTables d_HT_greatest_5 (gInv_v (As := []) (rest := []) d_HT_greatest_5 gm_HT_someTables gv_HT_98 (h1) rfl) (Nat.le_of_ble_eq_true rfl) (Nat.le_of_ble_eq_true rfl) (Nat.le_of_ble_eq_true rfl) (Nat.le_of_ble_eq_true rfl) (Nat.le_of_ble_eq_true rfl) (fun v2 h2 hp => ?_) (fun ax h2 hp => ?_)
    · obtain ⟨hh2, kx, ⟨f, e, f1, f2, n0, y1, y2⟩ | ⟨-, q, e, -⟩⟩ := hp
      · cases e
        refine g_astore_n d_HT_greatest_8 rfl (Nat.le_of_ble_eq_true rfl) rfl ?_
        refine g_aload_n d_HT_greatest_9 rfl ?_
        refine g_aload_n d_HT_greatest_10 rfl ?_
        refine g_callX (c_Tab_last hst f1) gm_Tab_last d_HT_greatest_11 (gInv_v (As := []) (rest := [.ref (X 118)]) d_HT_greatest_11 gm_Tab_last gv_HT_109 (f1.2.1) rfl) (Nat.le_of_ble_eq_true rfl) (Nat.le_of_ble_eq_true rfl) (Nat.le_of_ble_eq_true rfl) (Nat.le_of_ble_eq_true rfl) (Nat.le_of_ble_eq_true rfl) (fun v3 h3 hp => ?_)
        obtain ⟨rfl, ⟨n, z1, z2, z3, rfl⟩ | ⟨z1, -⟩⟩ := hp
        · refine g_callR (c_Tab_trueAtoms hst f1 (pw12 z1 h4.1.2.2)) gm_Tab_trueAtoms d_HT_greatest_14 (gInv_v (As := [.int (nI n)]) (rest := []) d_HT_greatest_14 gm_Tab_trueAtoms gv_HT_105 (f1.2.1) rfl) (Nat.le_of_ble_eq_true rfl) (Nat.le_of_ble_eq_true rfl) (Nat.le_of_ble_eq_true rfl) (Nat.le_of_ble_eq_true rfl) (Nat.le_of_ble_eq_true rfl) ?_
          refine g_ret_i d_HT_greatest_17 rfl rfl ⟨hh2, kx, Or.inr (Or.inr ⟨hk, n, z1, ((f2 n (Nat.lt_of_lt_of_le z1 (pw_wcn A))).mp z2).2, fun m hm hm2 y => ?_, rfl⟩)⟩
          have := (f2 m (Nat.lt_of_lt_of_le hm2 (pw_wcn A))).mpr ⟨hm2, y⟩
          rw [z3 m hm hm2] at this
          cases this
        · have := (f2 n0 (Nat.lt_of_lt_of_le y1 (pw_wcn A))).mpr ⟨y1, y2⟩
          rw [z1 n0 y1] at this
          cases this
      · cases e
    · obtain ⟨hh2, kx, ⟨f, e, -⟩ | ⟨y1, y2⟩⟩ := hp
      · cases e
      · exact ⟨hh2, kx, Or.inr (Or.inl ⟨hk, y1, y2⟩)⟩
  · obtain ⟨hk, y1, y2, y3⟩ := rq_thr hp
    exact ⟨y2, y3, Or.inl ⟨hk, y1⟩⟩
end FACE3
