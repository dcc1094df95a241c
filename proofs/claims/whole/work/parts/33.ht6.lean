/-! ===== the face: read ===== -/
theorem rdG_le {tx : List Nat} : ∀ (r k p c : Nat) (w : Nat → Int32) (sz : Nat → Nat) (lt : Nat → gLD) (f : Nat), p ≤ tx.length → atc w c ≤ 12 → (rdG tx r k p c w sz lt).1 = some f → f ≤ tx.length := by
  intro r
  induction r with
  | zero =>
    intro k p c w sz lt f hp _ hf
    rw [← Option.some.inj hf]
    exact hp
  | succ r ih =>
    intro k p c w sz lt f hp hA hf
    unfold rdG at hf
    obtain ⟨k1, k2⟩ := rdL_ok (tx := tx) (w := w) (c := c) hp hA
    by_cases good : (rdL tx w c p).1 = false
    · rw [if_pos good] at hf
      rw [← Option.some.inj hf]
      exact k1
    · rw [if_neg good] at hf
      have g1 : (rdL tx w c p).1 = true := by simpa using good
      by_cases fin : (rdL tx w c p).2.1 = tx.length
      · rw [if_pos fin] at hf
        cases hf
      · rw [if_neg fin] at hf
        cases ej : rdJ tx k (rdL tx w c p).2.1 (sz (k - 1) + 1) with
        | none =>
          rw [ej] at hf
          rw [← Option.some.inj hf]
          exact k1
        | some k' =>
          rw [ej] at hf
          exact ih _ _ _ _ _ _ f (by omega) (k2 g1).2 hf
section FACE6
variable {K : gK} {h : gH} {X : Nat → Nat} {tx : List Nat} {fl : Int32} {k c : Nat} {w : Nat → Int32} {A : Nat} {CS : Nat → Nat → Prop}
theorem rdO_X {X : Nat → Nat} (hX : gNj X 145) {i : Nat} (hi : i < 145) (h3 : i < 3 ∨ 105 ≤ i) : ¬ rdO (X 3) (X 4) (X 5) (X 6) (X 8) (fun j => X (3 + (6 + j))) (fun j => X (3 + (54 + j))) (X i) := by
  rintro (z | ⟨j, hj, z | z⟩)
  · simp only [List.mem_cons, List.not_mem_nil, or_false] at z
    rcases z with z | z | z | z | z
    · have := hX i hi 3 (by decide) z
      omega
    · have := hX i hi 4 (by decide) z
      omega
    · have := hX i hi 5 (by decide) z
      omega
    · have := hX i hi 6 (by decide) z
      omega
    · have := hX i hi 8 (by decide) z
      omega
  · have := hX i hi (3 + (6 + j)) (by omega) z
    omega
  · have := hX i hi (3 + (54 + j)) (by omega) z
    omega
theorem rdO_of {X : Nat → Nat} {x : Nat} (hx : rdO (X 3) (X 4) (X 5) (X 6) (X 8) (fun j => X (3 + (6 + j))) (fun j => X (3 + (54 + j))) x) : gOf X 145 x := by
  rcases hx with z | ⟨j, hj, z | z⟩
  · simp only [List.mem_cons, List.not_mem_nil, or_false] at z
    rcases z with z | z | z | z | z
    · exact ⟨3, by decide, z⟩
    · exact ⟨4, by decide, z⟩
    · exact ⟨5, by decide, z⟩
    · exact ⟨6, by decide, z⟩
    · exact ⟨8, by decide, z⟩
  · exact ⟨3 + (6 + j), by omega, z⟩
  · exact ⟨3 + (54 + j), by omega, z⟩
/-- what read answers and leaves -/
def rdQ (h : gH) (X : Nat → Nat) (tx : List Nat) (k c : Nat) (w : Nat → Int32) (A : Nat) (CS : Nat → Nat → Prop) (o : Outcome) (h' : gH) : Prop := gKx h h' (gOf X 145) ∧ ∃ w0, (∀ p, p < 4 → w0 p = -1) ∧
  ((∃ f, (rd0 tx w0).1 = some f ∧ f ≤ tx.length ∧ gTh 10 o h' ∧ gHt h' X tx (nI f) k c w A CS) ∨
   ((rd0 tx w0).1 = none ∧ ∃ w', (∀ p, p < 4 → w' p = (rd0 tx w0).2.2.2.1 p) ∧ gHt h' X [] (-1) (rd0 tx w0).2.1 (rd0 tx w0).2.2.1 w' (atc w' (rd0 tx w0).2.2.1) (cset (rd0 tx w0).2.2.1 w' (rd0 tx w0).2.2.2.2.1 (rd0 tx w0).2.2.2.2.2) ∧ ∃ al : List Nat, al.Nodup ∧ al.length ≤ 324 ∧ (∀ e, e ∈ al ↔ ∃ u, u < (rd0 tx w0).2.1 ∧ cset (rd0 tx w0).2.2.1 w' (rd0 tx w0).2.2.2.2.1 (rd0 tx w0).2.2.2.2.2 u e) ∧ o = .returned (some (.int (nI al.length)))))
theorem c_HT_read (hst : K.1.stackTraces = false) (hh : gHt h X tx fl k c w A CS) : Ct K r_HT_read M_HT_read [.ref (X 0)] h (rdQ h X tx k c w A CS) := by
  obtain ⟨hX, h1, h2, h3, h4⟩ := id hh
  have h96 : tx.length ≤ 96 := h2.choose_spec.2.2.1
  have n1 : ¬ rdO (X 3) (X 4) (X 5) (X 6) (X 8) (fun j => X (3 + (6 + j))) (fun j => X (3 + (54 + j))) (X 1) := rdO_X hX (by decide) (by decide)
  have n2 : ¬ rdO (X 3) (X 4) (X 5) (X 6) (X 8) (fun j => X (3 + (6 + j))) (fun j => X (3 + (54 + j))) (X 2) := rdO_X hX (by decide) (by decide)
  refine Ct.of hst (by decide) (Or.inl rfl) (Nat.le_of_ble_eq_true rfl) ?_
  refine g_aload_n d_HT_read_0 rfl ?_
  refine g_aload_n d_HT_read_1 rfl ?_
  refine g_get d_HT_read_2 f_HT_19 (h1) rfl ?_
  refine g_aload_n d_HT_read_5 rfl ?_
  refine g_get d_HT_read_6 f_HT_12 (h1) rfl ?_
  refine g_callX (c_Rd_findFault hst n1 n2 h3 h2) gm_Rd_findFault d_HT_read_9 (gInv_v (As := [.ref (X 1)]) (rest := [.ref (X 0)]) d_HT_read_9 gm_Rd_findFault gv_HT_42 (h3.1.choose_spec.choose_spec) rfl) (Nat.le_of_ble_eq_true rfl) (Nat.le_of_ble_eq_true rfl) (Nat.le_of_ble_eq_true rfl) (Nat.le_of_ble_eq_true rfl) (Nat.le_of_ble_eq_true rfl) (fun v5 h5 hp => ?_)
  obtain ⟨w0, hw0, rfl, r1, r2, r3⟩ := hp
  have E5 : ∀ {i : Nat}, i < 145 → i < 3 ∨ 105 ≤ i → h5 (X i) = h (X i) := fun hi hn => r3 _ (rdO_X hX hi hn)
  have x5 := (E5 (i := 0) (by decide) (by decide)).trans h1
  have hA0 : atc w0 0 ≤ 12 := by
    unfold atc
    simp only [fat, hw0 0 (by decide), hw0 1 (by decide), hw0 2 (by decide), hw0 3 (by decide)]
    decide
  have ru : gRU h5 (fun j => X (3 + j)) := by
    by_cases e : (rd0 tx w0).1 = none
    · exact (r2 e).u
    · exact r1 e
  have s5 : gSe h5 (fun i => X (105 + i)) k c w A CS := h4.of (fun i hi _ _ => E5 (by omega) (by omega)) (h4.2.2.2.2.2.2.2.of (E5 (i := 118) (by decide) (by decide)) (E5 (i := 119) (by decide) (by decide)))
  refine g_put (fs' := [_, _, _, _]) d_HT_read_12 f_HT_30 (x5) rfl rfl (Nat.le_of_ble_eq_true rfl) rfl ?_
  generalize hh6 : gup h5 (X 0) (.inr (0, [.ref (X 1), .ref (X 3), .ref (X 105), .int (rcv (rd0 tx w0).1)])) = h6
  have x6 : h6 (X 0) = some (.inr (0, [.ref (X 1), .ref (X 3), .ref (X 105), .int (rcv (rd0 tx w0).1)])) := by
    rw [← hh6]
    exact gup_s _ _ _
  have E6 : ∀ {i : Nat}, i < 145 → i ≠ 0 → h6 (X i) = h5 (X i) := fun hi hn => by
    rw [← hh6]
    exact gup_n (hX.ne hi (by decide) hn)
  have K6 : gKx h h6 (gOf X 145) := by
    refine (gKP.x (P := gOf X 145) fun x hx => r3 x fun z => hx (rdO_of z)).tr (gKP.x fun x hx => ?_)
    rw [← hh6]
    exact gup_n fun z => hx ⟨0, by decide, z⟩
  have t6 : gTx h6 (X 1) (X 2) tx := (h2.of (E5 (by decide) (by decide)) (E5 (by decide) (by decide))).of (E6 (by decide) (by decide)) (E6 (by decide) (by decide))
  have s6 : gSe h6 (fun i => X (105 + i)) k c w A CS := s5.of (fun i hi _ _ => E6 (by omega) (by omega)) (s5.2.2.2.2.2.2.2.of (E6 (i := 118) (by decide) (by decide)) (E6 (i := 119) (by decide) (by decide)))
  have ru6 : gRU h6 (fun j => X (3 + j)) := ru.of fun i hi => E6 (i := 3 + i) (by omega) (by omega)
  have hh6' : gHt h6 X tx (rcv (rd0 tx w0).1) k c w A CS := ⟨hX, x6, t6, ru6, s6⟩
  refine g_aload_n d_HT_read_15 rfl ?_
  refine g_get d_HT_read_16 f_HT_30 (x6) rfl ?_
  refine g_iconst (v := -1) d_HT_read_19 (by decide) ?_
  cases ez : (rd0 tx w0).1 with
  | some f =>
    have hf := rdG_le 48 1 0 0 w0 _ _ f (Nat.zero_le _) hA0 ez
    rw [ez] at hh6'
    refine g_icmp_eq (tgt := 31) d_HT_read_20 (by decide) (fun q => ?_) (fun q => ?_)
    · exact absurd q (nI_neg1 (by omega))
    · exact g_throw (X := "java/lang/IllegalArgumentException") (ci := 10) ⟨xn_IAE, xw_IAE, rfl, by decide +kernel⟩ d_HT_read_23 d_HT_read_26 d_HT_read_27 d_HT_read_30 rfl (by decide) (by decide) (by decide) (by decide) fun x hx => ⟨K6.tr (gKx.nw hx), w0, hw0, Or.inl ⟨f, ez, hf, ⟨x, rfl, gup_s _ _ _⟩, hh6'.nw hx⟩⟩
  | none =>
    obtain ⟨m1, m2, m3, m4, m5, m6⟩ := rd0_ok hw0 ez
    have rd6 : gRD h6 (fun j => X (3 + j)) (rd0 tx w0).2.1 (rd0 tx w0).2.2.1 (rd0 tx w0).2.2.2.1 (rd0 tx w0).2.2.2.2.1 (rd0 tx w0).2.2.2.2.2 := gRD.of (h := h5) ⟨r2 ez, m5⟩ fun i hi => E6 (i := 3 + i) (by omega) (by omega)
    rw [ez] at x6
    refine g_icmp_eq (tgt := 31) d_HT_read_20 (by decide) (fun q => ?_) (fun q => ?_)
    · refine g_aload_n d_HT_read_31 rfl ?_
      refine g_get d_HT_read_32 f_HT_26 (x6) rfl ?_
      refine g_aload_n d_HT_read_35 rfl ?_
      refine g_get d_HT_read_36 f_HT_19 (x6) rfl ?_
      refine g_callX (c_Sen_become hst (nj_S hX) (nj_SR hX) s6 rd6 m1.2 (fun u _ i hi => m6 u i hi) m2) gm_Sen_become d_HT_read_39 (gInv_v (As := [.ref (X 3)]) (rest := []) d_HT_read_39 gm_Sen_become gv_HT_49 (s6.1.1) rfl) (Nat.le_of_ble_eq_true rfl) (Nat.le_of_ble_eq_true rfl) (Nat.le_of_ble_eq_true rfl) (Nat.le_of_ble_eq_true rfl) (Nat.le_of_ble_eq_true rfl) (fun v7 h7 hp => ?_)
      obtain ⟨rfl, ⟨w', hw', s7⟩, k7⟩ := hp
      have nS : ∀ {i : Nat}, i < 105 → ¬ gOf (fun i => X (105 + i)) 40 (X i) := by
        rintro i hi ⟨j, hj, z⟩
        have := hX i (by omega) (105 + j) (by omega) z
        omega
      have E7 : ∀ {i : Nat}, i < 105 → h7 (X i) = h6 (X i) := fun hi => k7 _ (nS hi)
      have x7 := (E7 (i := 0) (by decide)).trans x6
      have t7 : gTx h7 (X 1) (X 2) tx := t6.of (E7 (by decide)) (E7 (by decide))
      have hh7 : gHt h7 X tx (-1) _ _ w' _ _ := ⟨hX, x7, t7, ru6.of fun i hi => E7 (i := 3 + i) (by omega), s7⟩
      have K7 : gKx h6 h7 (gOf X 145) := gKP.x fun x hx => k7 x fun ⟨j, hj, z⟩ => hx ⟨105 + j, by omega, z⟩
      obtain ⟨t8, t9⟩ := t7.emp hX
      obtain ⟨y1, y2⟩ := hh7.txt t8 t9
      refine g_aload_n d_HT_read_42 rfl ?_
      refine g_get d_HT_read_43 f_HT_12 (x7) rfl ?_
      refine g_callR (c_Text_empty hst t7.choose_spec.1) gm_Text_empty d_HT_read_46 (gInv_v (As := []) (rest := []) d_HT_read_46 gm_Text_empty gv_HT_38 (t7.choose_spec.1) rfl) (Nat.le_of_ble_eq_true rfl) (Nat.le_of_ble_eq_true rfl) (Nat.le_of_ble_eq_true rfl) (Nat.le_of_ble_eq_true rfl) (Nat.le_of_ble_eq_true rfl) ?_
      refine g_pop d_HT_read_49 rfl ?_
      refine g_aload_n d_HT_read_50 rfl ?_
      refine g_get d_HT_read_51 f_HT_26 (y1.2.1) rfl ?_
      refine g_callX (c_Sen_instanceCount hst y1.2.2.2.2) gm_Sen_instanceCount d_HT_read_54 (gInv_v (As := []) (rest := []) d_HT_read_54 gm_Sen_instanceCount gv_HT_53 (y1.2.2.2.2.1.1) rfl) (Nat.le_of_ble_eq_true rfl) (Nat.le_of_ble_eq_true rfl) (Nat.le_of_ble_eq_true rfl) (Nat.le_of_ble_eq_true rfl) (Nat.le_of_ble_eq_true rfl) (fun v9 h9 hp => ?_)
      obtain ⟨rfl, al, a1, a2, a3, rfl⟩ := hp
      exact g_ret_i d_HT_read_57 rfl rfl ⟨(K6.tr K7).tr y2, w0, hw0, Or.inr ⟨ez, w', hw', y1, al, a1, a2, a3, rfl⟩⟩
    · exact absurd rfl q
end FACE6
