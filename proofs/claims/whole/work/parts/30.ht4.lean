/-! ===== the face: forced, without, core, type, erase ===== -/
section FACE4
variable {K : gK} {h : gH} {X : Nat → Nat} {tx : List Nat} {fl : Int32} {k c : Nat} {w : Nat → Int32} {A : Nat} {CS : Nat → Nat → Prop}
theorem wb_some {f : Nat → Int64} {s : Nat} (f2 : ∀ n, n < 64 * wcn A → (tbs f n = true ↔ n < 2 ^ A ∧ hat A k CS s n)) {j : Nat} {b : Bool} : (∃ n, n < 64 * wcn A ∧ tbs f n = true ∧ n.testBit j = b) ↔ ∃ n, n < 2 ^ A ∧ hat A k CS s n ∧ n.testBit j = b := by
  constructor
  · rintro ⟨n, y1, y2, y3⟩
    have := (f2 n y1).mp y2
    exact ⟨n, this.1, this.2, y3⟩
  · rintro ⟨n, y1, y2, y3⟩
    have hn := Nat.lt_of_lt_of_le y1 (pw_wcn A)
    exact ⟨n, hn, (f2 n hn).mpr ⟨y1, y2⟩, y3⟩
theorem all_bit {k u : Nat} (hu : u < k) : (2 ^ k - 1) / 2 ^ u % 2 = 1 := by
  have h1 := Nat.testBit_two_pow_sub_one k u
  rw [decide_eq_true hu, Nat.testBit_eq_decide_div_mod_eq] at h1
  exact of_decide_eq_true h1
theorem le_lt {x : Int32} {n : Nat} (hn : n < 2 ^ 31) (h1 : 1 ≤ n) (h : x ≤ nI (n - 1)) : x < nI n := by
  rw [Int32.lt_iff_toInt_lt, nI_toInt hn]
  have h2 := Int32.le_iff_toInt_le.mp h
  rw [nI_toInt (by omega)] at h2
  omega
theorem c_HT_forced (hst : K.1.stackTraces = false) (hh : gHt h X tx fl k c w A CS) (x : Int32) : Ct K r_HT_forced M_HT_forced [.ref (X 0), .int x] h (fun o h' => gHt h' X tx fl k c w A CS ∧ gKx h h' (gOf X 145) ∧ ((k = 0 ∧ gTh 11 o h') ∨ (¬ k = 0 ∧ ¬ (¬ x < 0 ∧ x < nI A) ∧ gTh 13 o h') ∨ (¬ k = 0 ∧ (¬ x < 0 ∧ x < nI A) ∧ (¬ ∃ n, n < 2 ^ A ∧ hat A k CS (2 ^ k - 1) n) ∧ gTh 12 o h') ∨ (¬ k = 0 ∧ ∃ a, a < A ∧ x = nI a ∧ (∃ n, n < 2 ^ A ∧ hat A k CS (2 ^ k - 1) n) ∧ ∃ y z : Bool, (y = true ↔ ∃ n, n < 2 ^ A ∧ hat A k CS (2 ^ k - 1) n ∧ n.testBit (A - 1 - a) = true) ∧ (z = true ↔ ∃ n, n < 2 ^ A ∧ hat A k CS (2 ^ k - 1) n ∧ n.testBit (A - 1 - a) = false) ∧ o = .returned (some (.int (if y = true ∧ z = true then nI 2 else if y = true then nI 1 else nI 0)))))) := by
  obtain ⟨hX, h1, h2, h3, h4⟩ := id hh
  obtain ⟨⟨v3, b1⟩, -⟩ := h4.2.1
  have hA := h4.1.2.2
  refine Ct.of hst (by decide) (Or.inl rfl) (Nat.le_of_ble_eq_true rfl) ?_
  refine g_aload_n d_HT_forced_0 rfl ?_
  refine g_call (c_HT_require hst hh) gm_HT_requireSentence d_HT_forced_1 (gInv_v (As := []) (rest := []) d_HT_forced_1 gm_HT_requireSentence gv_HT_86 (h1) rfl) (Nat.le_of_ble_eq_true rfl) (Nat.le_of_ble_eq_true rfl) (Nat.le_of_ble_eq_true rfl) (Nat.le_of_ble_eq_true rfl) (Nat.le_of_ble_eq_true rfl) (fun v9 h9 hp => ?_) (fun ax h9 hp => ?_)
  · obtain ⟨hk, rfl, rfl⟩ := rq_ret hp
    refine g_iload_n d_HT_forced_4 rfl ?_
    refine g_if_lt (tgt := 22) d_HT_forced_5 (by decide) (fun q => ?_) (fun q => ?_)
    · refine g_throw (X := "java/lang/IndexOutOfBoundsException") (ci := 13) ⟨xn_IOB, xw_IOB, rfl, by decide +kernel⟩ d_HT_forced_22 d_HT_forced_25 d_HT_forced_26 d_HT_forced_29 rfl (by decide) (by decide) (by decide) (by decide) fun q1 hx => ⟨hh.nw hx, gKx.nw hx, Or.inr (Or.inl ⟨hk, fun z => z.1 q, q1, rfl, gup_s _ _ _⟩)⟩
    · have q0 := q
      refine g_iload_n d_HT_forced_8 rfl ?_
      refine g_aload_n d_HT_forced_9 rfl ?_
      refine g_get d_HT_forced_10 f_HT_26 (h1) rfl ?_
      refine g_get d_HT_forced_13 f_HT_59 (h4.1.1) rfl ?_
      refine g_get d_HT_forced_16 f_HT_63 (b1) rfl ?_
      refine g_icmp_lt (tgt := 30) d_HT_forced_19 (by decide) (fun q => ?_) (fun q => ?_)
      · obtain ⟨a, ha, rfl⟩ := nI_of3 q0 q (by omega)
        refine g_aload_n d_HT_forced_30 rfl ?_
        refine g_call (c_HT_someTables hst hh) gm_HT_someTables d_HT_forced_31 (gInv_v (As := []) (rest := []) d_HT_forced_31 gm_HT_someTables gv_HT_98 (h1) rfl) (Nat.le_of_ble_eq_true rfl) (Nat.le_of_ble_eq_true rfl) (Nat.le_of_ble_eq_true rfl) (Nat.le_of_ble_eq_true rfl) (Nat.le_of_ble_eq_true rfl) (fun v5 h5 hp => ?_) (fun ax h5 hp => ?_)
        · obtain ⟨hh2, kx, ⟨f, e, f1, f2, hn⟩ | ⟨-, q1, e, -⟩⟩ := hp
          · cases e
            refine g_astore_n d_HT_forced_34 rfl (Nat.le_of_ble_eq_true rfl) rfl ?_
            refine g_aload_n d_HT_forced_35 rfl ?_
            refine g_iload_n d_HT_forced_36 rfl ?_
            refine g_iconst (v := nI 1) d_HT_forced_37 (by decide) ?_
            refine g_callX (c_Tab_hasWith hst f1 ha true) gm_Tab_hasTableWith d_HT_forced_38 (gInv_v (As := [.int (nI a), .int (bI true)]) (rest := []) d_HT_forced_38 gm_Tab_hasTableWith gv_HT_115 (f1.2.1) rfl) (Nat.le_of_ble_eq_true rfl) (Nat.le_of_ble_eq_true rfl) (Nat.le_of_ble_eq_true rfl) (Nat.le_of_ble_eq_true rfl) (Nat.le_of_ble_eq_true rfl) (fun v6 h6 hp => ?_)
            obtain ⟨rfl, y, rfl, y1⟩ := hp
            refine g_istore_n d_HT_forced_41 rfl (Nat.le_of_ble_eq_true rfl) rfl ?_
            refine g_aload_n d_HT_forced_42 rfl ?_
            refine g_iload_n d_HT_forced_43 rfl ?_
            refine g_iconst (v := nI 0) d_HT_forced_44 (by decide) ?_
            refine g_callX (c_Tab_hasWith hst f1 ha false) gm_Tab_hasTableWith d_HT_forced_45 (gInv_v (As := [.int (nI a), .int (bI false)]) (rest := []) d_HT_forced_45 gm_Tab_hasTableWith gv_HT_115 (f1.2.1) rfl) (Nat.le_of_ble_eq_true rfl) (Nat.le_of_ble_eq_true rfl) (Nat.le_of_ble_eq_true rfl) (Nat.le_of_ble_eq_true rfl) (Nat.le_of_ble_eq_true rfl) (fun v7 h7 hp => ?_)
            obtain ⟨rfl, z, rfl, z1⟩ := hp
            have fin : ∀ i, i = (if y = true ∧ z = true then nI 2 else if y = true then nI 1 else nI 0) → gHt h7 X tx fl k c w A CS ∧ gKx h9 h7 (gOf X 145) ∧ ((k = 0 ∧ gTh 11 (.returned (some (.int i))) h7) ∨ (¬ k = 0 ∧ ¬ (¬ nI a < 0 ∧ nI a < nI A) ∧ gTh 13 (.returned (some (.int i))) h7) ∨ (¬ k = 0 ∧ (¬ nI a < 0 ∧ nI a < nI A) ∧ (¬ ∃ n, n < 2 ^ A ∧ hat A k CS (2 ^ k - 1) n) ∧ gTh 12 (.returned (some (.int i))) h7) ∨ (¬ k = 0 ∧ ∃ a', a' < A ∧ nI a = nI a' ∧ (∃ n, n < 2 ^ A ∧ hat A k CS (2 ^ k - 1) n) ∧ ∃ y z : Bool, (y = true ↔ ∃ n, n < 2 ^ A ∧ hat A k CS (2 ^ k - 1) n ∧ n.testBit (A - 1 - a') = true) ∧ (z = true ↔ ∃ n, n < 2 ^ A ∧ hat A k CS (2 ^ k - 1) n ∧ n.testBit (A - 1 - a') = false) ∧ Outcome.returned (some (.int i)) = .returned (some (.int (if y = true ∧ z = true then nI 2 else if y = true then nI 1 else nI 0))))) := by
              intro i hi
              exact ⟨hh2, kx, Or.inr (Or.inr (Or.inr ⟨hk, a, ha, rfl, hn, y, z, y1.trans (wb_some f2), z1.trans (wb_some f2), by rw [hi]⟩))⟩
            refine g_istore d_HT_forced_48 (Nat.le_of_ble_eq_true rfl) rfl ?_
            refine g_iload_n d_HT_forced_50 rfl ?_
            cases y with
            | true =>
              refine g_if_eq (tgt := 61) d_HT_forced_51 (by decide) (fun q => ?_) (fun q => ?_)
              · exact absurd (by assumption) (by decide : ¬ bI true = 0)
              · refine g_iload d_HT_forced_54 rfl ?_
                cases z with
                | true =>
                  refine g_if_eq (tgt := 61) d_HT_forced_56 (by decide) (fun q => ?_) (fun q => ?_)
                  · exact absurd (by assumption) (by decide : ¬ bI true = 0)
                  · refine g_iconst (v := nI 2) d_HT_forced_59 (by decide) ?_
                    exact g_ret_i d_HT_forced_60 rfl rfl (fin _ rfl)
                | false =>
                  refine g_if_eq (tgt := 61) d_HT_forced_56 (by decide) (fun q => ?_) (fun q => ?_)
                  · refine g_iload_n d_HT_forced_61 rfl ?_
                    refine g_if_eq (tgt := 69) d_HT_forced_62 (by decide) (fun q => ?_) (fun q => ?_)
                    · exact absurd (by assumption) (by decide : ¬ bI true = 0)
                    · refine g_iconst (v := nI 1) d_HT_forced_65 (by decide) ?_
                      refine g_goto (tgt := 70) d_HT_forced_66 (by decide) ?_
                      exact g_ret_i d_HT_forced_70 rfl rfl (fin _ rfl)
                  · exact absurd rfl (by assumption)
            | false =>
              refine g_if_eq (tgt := 61) d_HT_forced_51 (by decide) (fun q => ?_) (fun q => ?_)
              · refine g_iload_n d_HT_forced_61 rfl ?_
                refine g_if_eq (tgt := 69) d_HT_forced_62 (by decide) (fun q => ?_) (fun q => ?_)
                · refine g_iconst (v := nI 0) d_HT_forced_69 (by decide) ?_
                  exact g_ret_i d_HT_forced_70 rfl rfl (fin _ rfl)
                · exact absurd rfl (by assumption)
              · exact absurd rfl (by assumption)
          · cases e
        · obtain ⟨hh2, kx, ⟨f, e, -⟩ | ⟨y1, y2⟩⟩ := hp
          · cases e
          · exact ⟨hh2, kx, Or.inr (Or.inr (Or.inl ⟨hk, ⟨q0, q⟩, y1, y2⟩))⟩
      · refine g_throw (X := "java/lang/IndexOutOfBoundsException") (ci := 13) ⟨xn_IOB, xw_IOB, rfl, by decide +kernel⟩ d_HT_forced_22 d_HT_forced_25 d_HT_forced_26 d_HT_forced_29 rfl (by decide) (by decide) (by decide) (by decide) fun q1 hx => ⟨hh.nw hx, gKx.nw hx, Or.inr (Or.inl ⟨hk, fun z => absurd z.2 q, q1, rfl, gup_s _ _ _⟩)⟩
  · obtain ⟨hk, y1, y2, y3⟩ := rq_thr hp
    exact ⟨y2, y3, Or.inl ⟨hk, y1⟩⟩
theorem c_HT_without (hst : K.1.stackTraces = false) (hh : gHt h X tx fl k c w A CS) (x : Int32) : Ct K r_HT_without M_HT_without [.ref (X 0), .int x] h (fun o h' => gHt h' X tx fl k c w A CS ∧ gKx h h' (gOf X 145) ∧ ((k = 0 ∧ gTh 11 o h') ∨ (¬ k = 0 ∧ ¬ (¬ x < 0 ∧ x < nI k) ∧ gTh 13 o h') ∨ (¬ k = 0 ∧ ∃ u, u < k ∧ x = nI u ∧ ∃ b : Bool, (b = true ↔ ∃ n, n < 2 ^ A ∧ hat A k CS (2 ^ k - 1 - 2 ^ u) n) ∧ o = .returned (some (.int (bI b)))))) := by
  obtain ⟨hX, h1, h2, h3, h4⟩ := id hh
  have k12 := h4.1.2.1
  refine Ct.of hst (by decide) (Or.inl rfl) (Nat.le_of_ble_eq_true rfl) ?_
  refine g_aload_n d_HT_without_0 rfl ?_
  refine g_call (c_HT_require hst hh) gm_HT_requireSentence d_HT_without_1 (gInv_v (As := []) (rest := []) d_HT_without_1 gm_HT_requireSentence gv_HT_86 (h1) rfl) (Nat.le_of_ble_eq_true rfl) (Nat.le_of_ble_eq_true rfl) (Nat.le_of_ble_eq_true rfl) (Nat.le_of_ble_eq_true rfl) (Nat.le_of_ble_eq_true rfl) (fun v9 h9 hp => ?_) (fun ax h9 hp => ?_)
  · obtain ⟨hk, rfl, rfl⟩ := rq_ret hp
    refine g_aload_n d_HT_without_4 rfl ?_
    refine g_get d_HT_without_5 f_HT_26 (h1) rfl ?_
    refine g_iload_n d_HT_without_8 rfl ?_
    refine g_callR (c_Sen_hasClause hst h4 x) gm_Sen_hasClause d_HT_without_9 (gInv_v (As := [.int x]) (rest := []) d_HT_without_9 gm_Sen_hasClause gv_HT_72 (h4.1.1) rfl) (Nat.le_of_ble_eq_true rfl) (Nat.le_of_ble_eq_true rfl) (Nat.le_of_ble_eq_true rfl) (Nat.le_of_ble_eq_true rfl) (Nat.le_of_ble_eq_true rfl) ?_
    refine g_if_ne (tgt := 23) d_HT_without_12 (by decide) (fun q => ?_) (fun q => ?_)
    · have hx : ¬ x < 0 ∧ x < nI k := Classical.byContradiction fun z => q ((bI_z _).mpr (decide_eq_false z))
      obtain ⟨u, hu, rfl⟩ := nI_of3 hx.1 hx.2 (by omega)
      refine g_aload_n d_HT_without_23 rfl ?_
      refine g_get d_HT_without_24 f_HT_26 (h1) rfl ?_
      refine g_aload_n d_HT_without_27 rfl ?_
      refine g_get d_HT_without_28 f_HT_26 (h1) rfl ?_
      refine g_callR (c_Sen_everyClause hst h4) gm_Sen_everyClause d_HT_without_31 (gInv_v (As := []) (rest := [.ref (X 105)]) d_HT_without_31 gm_Sen_everyClause gv_HT_80 (h4.1.1) rfl) (Nat.le_of_ble_eq_true rfl) (Nat.le_of_ble_eq_true rfl) (Nat.le_of_ble_eq_true rfl) (Nat.le_of_ble_eq_true rfl) (Nat.le_of_ble_eq_true rfl) ?_
      refine g_iconst (v := nI 1) d_HT_without_34 (by decide) ?_
      refine g_iload_n d_HT_without_35 rfl ?_
      refine g_ishl d_HT_without_36 ?_
      refine g_isub d_HT_without_37 ?_
      rw [sb1 (pw31 k12) (by omega) (all_bit hu)]
      refine g_callX (c_Sen_canHold hst (nj_S hX) h4 (s := 2 ^ k - 1 - 2 ^ u) (Nat.lt_of_le_of_lt (Nat.sub_le _ _) (pw31 k12))) gm_Sen_canHold d_HT_without_38 (gInv_v (As := [.int (nI (2 ^ k - 1 - 2 ^ u))]) (rest := []) d_HT_without_38 gm_Sen_canHold gv_HT_83 (h4.1.1) rfl) (Nat.le_of_ble_eq_true rfl) (Nat.le_of_ble_eq_true rfl) (Nat.le_of_ble_eq_true rfl) (Nat.le_of_ble_eq_true rfl) (Nat.le_of_ble_eq_true rfl) (fun v5 h5 hp => ?_)
      obtain ⟨⟨b, rfl, b1⟩, s1, k1⟩ := hp
      exact g_ret_i d_HT_without_41 rfl (bI_n _) ⟨hh.sen (l := [13, 14]) (by decide) k1 s1, kx_13 k1, Or.inr (Or.inr ⟨hk, u, hu, rfl, b, b1, rfl⟩)⟩
    · refine g_throw (X := "java/lang/IndexOutOfBoundsException") (ci := 13) ⟨xn_IOB, xw_IOB, rfl, by decide +kernel⟩ d_HT_without_15 d_HT_without_18 d_HT_without_19 d_HT_without_22 rfl (by decide) (by decide) (by decide) (by decide) fun q1 hx => ⟨hh.nw hx, gKx.nw hx, Or.inr (Or.inl ⟨hk, of_decide_eq_false ((bI_z _).mp q), q1, rfl, gup_s _ _ _⟩)⟩
  · obtain ⟨hk, y1, y2, y3⟩ := rq_thr hp
    exact ⟨y2, y3, Or.inl ⟨hk, y1⟩⟩
theorem c_HT_core (hst : K.1.stackTraces = false) (hh : gHt h X tx fl k c w A CS) (x : Int32) : Ct K r_HT_core M_HT_core [.ref (X 0), .int x] h (fun o h' => gHt h' X tx fl k c w A CS ∧ gKx h h' (gOf X 145) ∧ ((k = 0 ∧ gTh 11 o h') ∨ (¬ k = 0 ∧ ¬ (¬ x < 0 ∧ x ≤ nI (2 ^ k - 1)) ∧ gTh 13 o h') ∨ (¬ k = 0 ∧ ∃ s, s < 2 ^ k ∧ x = nI s ∧ ∃ b : Bool, (b = true ↔ (¬ ∃ n, n < 2 ^ A ∧ hat A k CS s n) ∧ ∀ u, u < k → s / 2 ^ u % 2 = 1 → ∃ n, n < 2 ^ A ∧ hat A k CS (s - 2 ^ u) n) ∧ o = .returned (some (.int (bI b)))))) := by
  obtain ⟨hX, h1, h2, h3, h4⟩ := id hh
  have k12 := h4.1.2.1
  have p1 : 1 ≤ 2 ^ k := Nat.one_le_two_pow
  have p31 := pw31 k12
  have p32 : 2 ^ k < 2 ^ 31 := Nat.pow_lt_pow_right (by decide) (by omega)
  have bad : ¬ k = 0 → ¬ (¬ x < 0 ∧ x ≤ nI (2 ^ k - 1)) → Go K M_HT_core r_HT_core 19 [(0, .ref (X 0)), (1, .int x)] [] h (r_HT_core.cells - r_HT_requireSentence.cells) (r_HT_core.slots - r_HT_requireSentence.slots) (fun o h' => gHt h' X tx fl k c w A CS ∧ gKx h h' (gOf X 145) ∧ ((k = 0 ∧ gTh 11 o h') ∨ (¬ k = 0 ∧ ¬ (¬ x < 0 ∧ x ≤ nI (2 ^ k - 1)) ∧ gTh 13 o h') ∨ (¬ k = 0 ∧ ∃ s, s < 2 ^ k ∧ x = nI s ∧ ∃ b : Bool, (b = true ↔ (¬ ∃ n, n < 2 ^ A ∧ hat A k CS s n) ∧ ∀ u, u < k → s / 2 ^ u % 2 = 1 → ∃ n, n < 2 ^ A ∧ hat A k CS (s - 2 ^ u) n) ∧ o = .returned (some (.int (bI b)))))) := fun hk hx9 =>
    g_throw (X := "java/lang/IndexOutOfBoundsException") (ci := 13) ⟨xn_IOB, xw_IOB, rfl, by decide +kernel⟩ d_HT_core_19 d_HT_core_22 d_HT_core_23 d_HT_core_26 rfl (by decide) (by decide) (by decide) (by decide) fun q1 hx => ⟨hh.nw hx, gKx.nw hx, Or.inr (Or.inl ⟨hk, hx9, q1, rfl, gup_s _ _ _⟩)⟩
  refine Ct.of hst (by decide) (Or.inl rfl) (Nat.le_of_ble_eq_true rfl) ?_
  refine g_aload_n d_HT_core_0 rfl ?_
  refine g_call (c_HT_require hst hh) gm_HT_requireSentence d_HT_core_1 (gInv_v (As := []) (rest := []) d_HT_core_1 gm_HT_requireSentence gv_HT_86 (h1) rfl) (Nat.le_of_ble_eq_true rfl) (Nat.le_of_ble_eq_true rfl) (Nat.le_of_ble_eq_true rfl) (Nat.le_of_ble_eq_true rfl) (Nat.le_of_ble_eq_true rfl) (fun v9 h9 hp => ?_) (fun ax h9 hp => ?_)
  · obtain ⟨hk, rfl, rfl⟩ := rq_ret hp
    refine g_iload_n d_HT_core_4 rfl ?_
    refine g_if_lt (tgt := 19) d_HT_core_5 (by decide) (fun q => ?_) (fun q => ?_)
    · exact bad hk fun z => z.1 q
    · have q0 := q
      refine g_iload_n d_HT_core_8 rfl ?_
      refine g_aload_n d_HT_core_9 rfl ?_
      refine g_get d_HT_core_10 f_HT_26 (h1) rfl ?_
      refine g_callR (c_Sen_everyClause hst h4) gm_Sen_everyClause d_HT_core_13 (gInv_v (As := []) (rest := [.int x]) d_HT_core_13 gm_Sen_everyClause gv_HT_80 (h4.1.1) rfl) (Nat.le_of_ble_eq_true rfl) (Nat.le_of_ble_eq_true rfl) (Nat.le_of_ble_eq_true rfl) (Nat.le_of_ble_eq_true rfl) (Nat.le_of_ble_eq_true rfl) ?_
      refine g_icmp_le (tgt := 27) d_HT_core_16 (by decide) (fun q => ?_) (fun q => ?_)
      · have hx : ∃ s, s < 2 ^ k ∧ x = nI s := by
          obtain ⟨s, hs, e⟩ := nI_of3 (n := 2 ^ k) q0 (le_lt p32 p1 q) p32
          exact ⟨s, hs, e⟩
        obtain ⟨s, hs, rfl⟩ := hx
        have s31 : s < 2 ^ 31 := by omega
        refine g_aload_n d_HT_core_27 rfl ?_
        refine g_get d_HT_core_28 f_HT_26 (h1) rfl ?_
        refine g_iload_n d_HT_core_31 rfl ?_
        refine g_callX (c_Sen_canHold hst (nj_S hX) h4 s31) gm_Sen_canHold d_HT_core_32 (gInv_v (As := [.int (nI s)]) (rest := []) d_HT_core_32 gm_Sen_canHold gv_HT_83 (h4.1.1) rfl) (Nat.le_of_ble_eq_true rfl) (Nat.le_of_ble_eq_true rfl) (Nat.le_of_ble_eq_true rfl) (Nat.le_of_ble_eq_true rfl) (Nat.le_of_ble_eq_true rfl) (fun v5 h5 hp => ?_)
        obtain ⟨⟨b, rfl, b1⟩, s1, k1⟩ := hp
        have hh1 := hh.sen (l := [13, 14]) (by decide) k1 s1
        refine g_if_ne (tgt := 53) d_HT_core_35 (by decide) (fun q => ?_) (fun q => ?_)
        · refine g_iconst (v := nI 0) d_HT_core_53 (by decide) ?_
          refine g_ret_i d_HT_core_54 rfl rfl ⟨hh1, kx_13 k1, Or.inr (Or.inr ⟨hk, s, hs, rfl, false, ⟨fun z => (by cases z), fun z => absurd (b1.mp ?_) z.1⟩, rfl⟩)⟩
          cases b with
          | true => rfl
          | false => exact absurd rfl (by assumption)
        · have hb : ¬ ∃ n, n < 2 ^ A ∧ hat A k CS s n := fun z => by
            have := b1.mpr z
            rw [this] at q
            exact absurd q (by decide)
          refine g_aload_n d_HT_core_38 rfl ?_
          refine g_get d_HT_core_39 f_HT_26 (hh1.2.1) rfl ?_
          refine g_iload_n d_HT_core_42 rfl ?_
          refine g_callX (c_Sen_cwa hst (nj_S hX) s1 s31) gm_Sen_canHoldWithoutAnyOne d_HT_core_43 (gInv_v (As := [.int (nI s)]) (rest := []) d_HT_core_43 gm_Sen_canHoldWithoutAnyOne gv_HT_119 (s1.1.1) rfl) (Nat.le_of_ble_eq_true rfl) (Nat.le_of_ble_eq_true rfl) (Nat.le_of_ble_eq_true rfl) (Nat.le_of_ble_eq_true rfl) (Nat.le_of_ble_eq_true rfl) (fun v6 h6 hp => ?_)
          obtain ⟨⟨d, rfl, d1⟩, s2, k2⟩ := hp
          have hh2 := hh1.sen (l := [13, 14]) (by decide) k2 s2
          refine g_if_eq (tgt := 53) d_HT_core_46 (by decide) (fun q => ?_) (fun q => ?_)
          · refine g_iconst (v := nI 0) d_HT_core_53 (by decide) ?_
            refine g_ret_i d_HT_core_54 rfl rfl ⟨hh2, (kx_13 k1).tr (kx_13 k2), Or.inr (Or.inr ⟨hk, s, hs, rfl, false, ⟨fun z => (by cases z), fun z => ?_⟩, rfl⟩)⟩
            have := d1.mpr z.2
            rw [this] at q
            exact absurd q (by decide)
          · refine g_iconst (v := nI 1) d_HT_core_49 (by decide) ?_
            refine g_goto (tgt := 54) d_HT_core_50 (by decide) ?_
            refine g_ret_i d_HT_core_54 rfl rfl ⟨hh2, (kx_13 k1).tr (kx_13 k2), Or.inr (Or.inr ⟨hk, s, hs, rfl, true, ⟨fun _ => ⟨hb, d1.mp ?_⟩, fun _ => rfl⟩, rfl⟩)⟩
            cases d with
            | true => rfl
            | false => exact absurd rfl (by assumption)
      · exact bad hk fun z => absurd z.2 q
  · obtain ⟨hk, y1, y2, y3⟩ := rq_thr hp
    exact ⟨y2, y3, Or.inl ⟨hk, y1⟩⟩
end FACE4
