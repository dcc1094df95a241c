/-! ===== Sentence.canHold, canHoldWithoutAnyOne, become ===== -/
theorem c_Sen_canHold {K : gK} {h : gH} (hst : K.1.stackTraces = false) {S : Nat → Nat} (hS : gNj S 40) {k c A s : Nat} {w : Nat → Int32} {CS : Nat → Nat → Prop} (hs : gSe h S k c w A CS) (hs31 : s < 2 ^ 31) : Ct K r_Sen_canHold M_Sen_canHold [.ref (S 0), .int (nI s)] h (gRx fun o h' => (∃ b : Bool, o = some (.int (bI b)) ∧ (b = true ↔ ∃ n, n < 2 ^ A ∧ hat A k CS s n)) ∧ gSe h' S k c w A CS ∧ gKp h h' [S 13, S 14]) := by
  obtain ⟨⟨a1, a2, a3⟩, -⟩ := id hs
  refine Ct.of hst (by decide) (Or.inl rfl) (Nat.le_of_ble_eq_true rfl) ?_
  refine g_aload_n d_Sen_canHold_0 rfl ?_
  refine g_iload_n d_Sen_canHold_1 rfl ?_
  refine g_callX (c_Sen_tablesOf hst hS hs hs31) gm_Sen_tablesOf d_Sen_canHold_2 (gInv_v (As := [.int (nI s)]) (rest := []) d_Sen_canHold_2 gm_Sen_tablesOf gv_Sen_94 (a1) rfl) (Nat.le_of_ble_eq_true rfl) (Nat.le_of_ble_eq_true rfl) (Nat.le_of_ble_eq_true rfl) (Nat.le_of_ble_eq_true rfl) (Nat.le_of_ble_eq_true rfl) (fun v h1 hp => ?_)
  obtain ⟨rfl, f, f1, f2, f3, k1⟩ := hp
  refine g_callR (c_Tab_isEmpty hst f1) gm_Tab_isEmpty d_Sen_canHold_5 (gInv_v (As := []) (rest := []) d_Sen_canHold_5 gm_Tab_isEmpty gv_Sen_98 (f1.2.1) rfl) (Nat.le_of_ble_eq_true rfl) (Nat.le_of_ble_eq_true rfl) (Nat.le_of_ble_eq_true rfl) (Nat.le_of_ble_eq_true rfl) (Nat.le_of_ble_eq_true rfl) ?_
  have key : cnB (tbs f) (64 * wcn A) = 0 ↔ ¬ ∃ n, n < 2 ^ A ∧ hat A k CS s n := by
    rw [cnB_z]
    constructor
    · rintro z ⟨n, y1, y2⟩
      have hn := Nat.lt_of_lt_of_le y1 (pw_wcn A)
      have := (f2 n hn).mpr ⟨y1, y2⟩
      rw [z n hn] at this
      cases this
    · intro z n hn
      cases hb : tbs f n with
      | false => rfl
      | true => exact absurd ⟨n, (f2 n hn).mp hb⟩ z
  refine g_if_ne (tgt := 15) d_Sen_canHold_8 (by decide) (fun q => ?_) (fun q => ?_)
  · refine g_iconst (v := nI 0) d_Sen_canHold_15 (by decide) ?_
    refine g_ret_i d_Sen_canHold_16 rfl rfl ⟨_, rfl, ⟨false, rfl, fun z => (by cases z), fun z => ?_⟩, f3, k1⟩
    have : ¬ cnB (tbs f) (64 * wcn A) = 0 := fun y => key.mp y z
    exact absurd ((bI_z _).mpr (decide_eq_false this)) q
  · refine g_iconst (v := nI 1) d_Sen_canHold_11 (by decide) ?_
    refine g_goto (tgt := 16) d_Sen_canHold_12 (by decide) ?_
    refine g_ret_i d_Sen_canHold_16 rfl rfl ⟨_, rfl, ⟨true, rfl, fun _ => ?_, fun _ => rfl⟩, f3, k1⟩
    have : ¬ cnB (tbs f) (64 * wcn A) = 0 := of_decide_eq_false ((bI_z _).mp q)
    exact Classical.byContradiction fun y => this (key.mpr y)
theorem sb1 {s u : Nat} (hs : s < 2 ^ 31) (hu : u < 31) (hb : s / 2 ^ u % 2 = 1) : nI s - (nI 1 <<< (nI u &&& 31)) = nI (s - 2 ^ u) := by
  rw [nI_shl1 (by omega)]
  refine pk_sub ?_
  apply Classical.byContradiction
  intro z
  rw [Nat.div_eq_of_lt (by omega)] at hb
  cases hb
theorem l_Sen_cwa {K : gK} (hst : K.1.stackTraces = false) {S : Nat → Nat} (hS : gNj S 40) {k c A s : Nat} {w : Nat → Int32} {CS : Nat → Nat → Prop} (hs31 : s < 2 ^ 31) : ∀ (r u : Nat) (h : gH), u + r = k → gSe h S k c w A CS →
    Go K M_Sen_canHoldWithoutAnyOne r_Sen_canHoldWithoutAnyOne 2 [(0, .ref (S 0)), (1, .int (nI s)), (2, .int (nI u))] [] h 0 0 (gRx fun o h' => (∃ b : Bool, o = some (.int (bI b)) ∧ (b = true ↔ ∀ u', u ≤ u' → u' < k → s / 2 ^ u' % 2 = 1 → ∃ n, n < 2 ^ A ∧ hat A k CS (s - 2 ^ u') n)) ∧ gSe h' S k c w A CS ∧ gKp h h' [S 13, S 14]) := by
  intro r
  induction r with
  | zero =>
    intro u h hu hs
    obtain ⟨⟨a1, a2, a3⟩, -⟩ := id hs
    refine g_iload_n d_Sen_canHoldWithoutAnyOne_2 rfl ?_
    refine g_aload_n d_Sen_canHoldWithoutAnyOne_3 rfl ?_
    refine g_get d_Sen_canHoldWithoutAnyOne_4 f_Sen_69 (a1) rfl ?_
    refine g_icmpN_ge (tgt := 38) d_Sen_canHoldWithoutAnyOne_7 (by decide) (rfl) (rfl) (by omega) (by omega) (fun q => ?_) (fun q => ?_)
    · refine g_iconst (v := nI 1) d_Sen_canHoldWithoutAnyOne_38 (by decide) ?_
      exact g_ret_i d_Sen_canHoldWithoutAnyOne_39 rfl rfl ⟨_, rfl, ⟨true, rfl, fun _ u' h1 h2 => absurd h2 (by omega), fun _ => rfl⟩, hs, gKp.rf⟩
    · omega
  | succ r ih =>
    intro u h hu hs
    obtain ⟨⟨a1, a2, a3⟩, -⟩ := id hs
    have skip : ∀ h1, gSe h1 S k c w A CS → gKp h h1 [S 13, S 14] → (s / 2 ^ u % 2 = 1 → ∃ n, n < 2 ^ A ∧ hat A k CS (s - 2 ^ u) n) → Go K M_Sen_canHoldWithoutAnyOne r_Sen_canHoldWithoutAnyOne 32 [(0, .ref (S 0)), (1, .int (nI s)), (2, .int (nI u))] [] h1 0 0 (gRx fun o h' => (∃ b : Bool, o = some (.int (bI b)) ∧ (b = true ↔ ∀ u', u ≤ u' → u' < k → s / 2 ^ u' % 2 = 1 → ∃ n, n < 2 ^ A ∧ hat A k CS (s - 2 ^ u') n)) ∧ gSe h' S k c w A CS ∧ gKp h h' [S 13, S 14]) := by
      intro h1 s1 k1 hb
      refine g_iinc d_Sen_canHoldWithoutAnyOne_32 rfl (nI_inc _) (Nat.le_of_ble_eq_true rfl) rfl ?_
      refine g_goto (tgt := 2) d_Sen_canHoldWithoutAnyOne_35 (by decide) ?_
      refine g_post (fun o h' y => ?_) (ih (u + 1) h1 (by omega) s1)
      obtain ⟨v, y1, ⟨b, y2, y3⟩, y4, y5⟩ := y
      refine ⟨v, y1, ⟨b, y2, y3.trans ⟨fun z u' h1 h2 h3 => ?_, fun z u' h1 h2 h3 => z u' (by omega) h2 h3⟩⟩, y4, k1.tr y5⟩
      by_cases e : u' = u
      · subst e
        exact hb h3
      · exact z u' (by omega) h2 h3
    refine g_iload_n d_Sen_canHoldWithoutAnyOne_2 rfl ?_
    refine g_aload_n d_Sen_canHoldWithoutAnyOne_3 rfl ?_
    refine g_get d_Sen_canHoldWithoutAnyOne_4 f_Sen_69 (a1) rfl ?_
    refine g_icmpN_ge (tgt := 38) d_Sen_canHoldWithoutAnyOne_7 (by decide) (rfl) (rfl) (by omega) (by omega) (fun q => ?_) (fun q => ?_)
    · omega
    · refine g_iload_n d_Sen_canHoldWithoutAnyOne_10 rfl ?_
      refine g_iload_n d_Sen_canHoldWithoutAnyOne_11 rfl ?_
      refine g_ishr d_Sen_canHoldWithoutAnyOne_12 ?_
      refine g_iconst (v := nI 1) d_Sen_canHoldWithoutAnyOne_13 (by decide) ?_
      refine g_iand d_Sen_canHoldWithoutAnyOne_14 ?_
      rw [nI_bit hs31 (by omega)]
      refine g_if_eq (tgt := 32) d_Sen_canHoldWithoutAnyOne_15 (by decide) (fun q => ?_) (fun q => ?_)
      · have z : s / 2 ^ u % 2 = 0 := (nI_z (by omega)).mp q
        exact skip h hs gKp.rf fun y => absurd y (by omega)
      · have z : s / 2 ^ u % 2 = 1 := by
          have : ¬ s / 2 ^ u % 2 = 0 := fun y => q ((nI_z (by omega)).mpr y)
          omega
        refine g_aload_n d_Sen_canHoldWithoutAnyOne_18 rfl ?_
        refine g_iload_n d_Sen_canHoldWithoutAnyOne_19 rfl ?_
        refine g_iconst (v := nI 1) d_Sen_canHoldWithoutAnyOne_20 (by decide) ?_
        refine g_iload_n d_Sen_canHoldWithoutAnyOne_21 rfl ?_
        refine g_ishl d_Sen_canHoldWithoutAnyOne_22 ?_
        refine g_isub d_Sen_canHoldWithoutAnyOne_23 ?_
        rw [sb1 hs31 (by omega) z]
        refine g_callX (c_Sen_canHold hst hS hs (s := s - 2 ^ u) (Nat.lt_of_le_of_lt (Nat.sub_le _ _) hs31)) gm_Sen_canHold d_Sen_canHoldWithoutAnyOne_24 (gInv_v (As := [.int (nI (s - 2 ^ u))]) (rest := []) d_Sen_canHoldWithoutAnyOne_24 gm_Sen_canHold gv_Sen_102 (a1) rfl) (Nat.le_of_ble_eq_true rfl) (Nat.le_of_ble_eq_true rfl) (Nat.le_of_ble_eq_true rfl) (Nat.le_of_ble_eq_true rfl) (Nat.le_of_ble_eq_true rfl) (fun v h1 hp => ?_)
        obtain ⟨⟨b, rfl, b1⟩, s1, k1⟩ := hp
        refine g_if_ne (tgt := 32) d_Sen_canHoldWithoutAnyOne_27 (by decide) (fun q => ?_) (fun q => ?_)
        · exact skip h1 s1 k1 fun _ => b1.mp (by
            cases b with
            | true => rfl
            | false => exact absurd rfl (by assumption))
        · refine g_iconst (v := nI 0) d_Sen_canHoldWithoutAnyOne_30 (by decide) ?_
          refine g_ret_i d_Sen_canHoldWithoutAnyOne_31 rfl rfl ⟨_, rfl, ⟨false, rfl, fun z => (by cases z), fun y => ?_⟩, s1, k1⟩
          have hb := b1.mpr (y u (Nat.le_refl _) (by omega) z)
          rw [hb] at q
          exact absurd q (by decide)
theorem c_Sen_cwa {K : gK} {h : gH} (hst : K.1.stackTraces = false) {S : Nat → Nat} (hS : gNj S 40) {k c A s : Nat} {w : Nat → Int32} {CS : Nat → Nat → Prop} (hs : gSe h S k c w A CS) (hs31 : s < 2 ^ 31) : Ct K r_Sen_canHoldWithoutAnyOne M_Sen_canHoldWithoutAnyOne [.ref (S 0), .int (nI s)] h (gRx fun o h' => (∃ b : Bool, o = some (.int (bI b)) ∧ (b = true ↔ ∀ u', u' < k → s / 2 ^ u' % 2 = 1 → ∃ n, n < 2 ^ A ∧ hat A k CS (s - 2 ^ u') n)) ∧ gSe h' S k c w A CS ∧ gKp h h' [S 13, S 14]) := by
  refine Ct.of hst (by decide) (Or.inl rfl) (Nat.le_of_ble_eq_true rfl) ?_
  refine g_iconst (v := nI 0) d_Sen_canHoldWithoutAnyOne_0 (by decide) ?_
  refine g_istore_n d_Sen_canHoldWithoutAnyOne_1 rfl (Nat.le_of_ble_eq_true rfl) rfl ?_
  refine g_post (fun o h' y => ?_) (l_Sen_cwa hst hS hs31 k 0 h (by omega) hs)
  obtain ⟨v, y1, ⟨b, y2, y3⟩, y4⟩ := y
  exact ⟨v, y1, ⟨b, y2, y3.trans ⟨fun z u' h1 h2 => z u' (Nat.zero_le _) h1 h2, fun z u' _ h1 h2 => z u' h1 h2⟩⟩, y4⟩
theorem fth_rnk : ∀ c, c < 8 → ∀ i, i < 3 → (thg c / 2 ^ i % 2 = 1) → fth c (nI i) = nI (rnk c i) := by decide
def gOf (S : Nat → Nat) (n x : Nat) : Prop := ∃ i, i < n ∧ x = S i
theorem gKp.O {S : Nat → Nat} {n : Nat} {h h' : gH} {l : List Nat} (hk : gKp h h' (l.map S)) (hl : ∀ j ∈ l, j < n) : gKP h h' (gOf S n) := hk.P fun x hx => by
  obtain ⟨j, hj, e⟩ := List.mem_map.mp hx
  exact ⟨j, hl j hj, e.symm⟩
/-- on the way to a sentence: u of its clauses are made -/
def gSm (h0 h : gH) (S R : Nat → Nat) (k u c : Nat) (w w' : Nat → Int32) (sz : Nat → Nat) (lt : Nat → gLD) : Prop :=
  ((∃ f6, gSf h S (nI k) c w f6 ∧ ∀ i, i < 3 → isT c i → f6 i = nI (rnk c i)) ∧ gRD h R k c w' sz lt)
  ∧ (∃ fo : Nat → Int32, h (S 4) = some (.inl (0, 12, .inl fo)) ∧ ∀ i, i < u → ∃ l : List Nat, l.Nodup ∧ l.length ≤ 27 ∧ (∀ e, e ∈ l ↔ cset c w sz lt i e) ∧ fo i = nI l.length)
  ∧ (∃ al, gIs h (S 5) (S 6) 324 al ∧ al.Nodup ∧ (∀ e, e ∈ al ↔ ∃ i, i < u ∧ cset c w sz lt i e) ∧ al.length ≤ 27 * u)
  ∧ ((∃ l0, gIs h (S 7) (S 8) 27 l0) ∧ (∃ t g, gIn h (S 9) t g) ∧ gTu h (S 11) (S 12))
  ∧ ((∀ i, i < 12 → gTu h (S (16 + i)) (S (28 + i))) ∧ ∀ i, i < u → ∃ f, gTb h (S (16 + i)) (S (28 + i)) (atc w c) f ∧ ∀ n, n < 64 * wcn (atc w c) → (tbs f n = true ↔ n < 2 ^ (atc w c) ∧ ∀ e, cset c w sz lt i e → sat (atc w c) (e % 4096) (e / 4096) n (atc w c) = true))
  ∧ gTu h (S 13) (S 14) ∧ gKP h0 h (gOf S 40)
theorem l_Sen_become {K : gK} (hst : K.1.stackTraces = false) {h0 : gH} {S R : Nat → Nat} (hS : gNj S 40) (hSR : ∀ i, i < 40 → ∀ j, j < 102 → R j ≠ S i) {k c : Nat} {w w' : Nat → Int32} {sz : Nat → Nat} {lt : Nat → gLD} (hk : k ≤ 12) (hl : ∀ u, u < k → ∀ i, i < sz u → lok c w (lt (4 * u + i))) (hA : atc w c ≤ 12) : ∀ (r u : Nat) (h : gH), u + r = k → gSm h0 h S R k u c w w' sz lt →
    Go K M_Sen_become r_Sen_become 55 [(0, .ref (S 0)), (1, .ref (R 0)), (2, .int (nI u))] [] h 0 0 (gRx fun o h' => o = none ∧ gSe h' S k c w (atc w c) (cset c w sz lt) ∧ gKP h0 h' (gOf S 40)) := by
  intro r
  induction r with
  | zero =>
    intro u h hu hm
    obtain ⟨⟨⟨f6, s1, s2⟩, s3⟩, o1, ⟨al, a1, a2, a3, a4⟩, i1, ⟨t1, t2⟩, t3, kk⟩ := hm
    obtain ⟨q1, q2, q3, fl, q4⟩ := id s1
    obtain ⟨-, -, -, fv, w4, -⟩ := id q2
    refine g_iload_n d_Sen_become_55 rfl ?_
    refine g_aload_n d_Sen_become_56 rfl ?_
    refine g_get d_Sen_become_57 f_Sen_69 (q1) rfl ?_
    refine g_icmpN_ge (tgt := 75) d_Sen_become_60 (by decide) (rfl) (rfl) (by omega) (by omega) (fun q => ?_) (fun q => ?_)
    · have e : u = k := by omega
      subst e
      exact g_ret_v d_Sen_become_75 rfl ⟨_, rfl, rfl, ⟨⟨q1, hk, hA⟩, ⟨⟨_, w4⟩, q2.u, fun _ _ _ => q2⟩, ⟨⟨f6, q3⟩, fl, q4⟩, o1, ⟨al, a1, a2, a3⟩, i1, ⟨t1, t2⟩, t3⟩, kk⟩
    · omega
  | succ r ih =>
    intro u h hu hm
    obtain ⟨⟨⟨f6, s1, s2⟩, s3⟩, ⟨fo, o1, o2⟩, ⟨al, a1, a2, a3, a4⟩, ⟨⟨l0, i1⟩, ⟨t, g, i2⟩, i3⟩, ⟨t1, t2⟩, t3, kk⟩ := hm
    obtain ⟨q1, q2, q3, fl, q4⟩ := id s1
    refine g_iload_n d_Sen_become_55 rfl ?_
    refine g_aload_n d_Sen_become_56 rfl ?_
    refine g_get d_Sen_become_57 f_Sen_69 (q1) rfl ?_
    refine g_icmpN_ge (tgt := 75) d_Sen_become_60 (by decide) (rfl) (rfl) (by omega) (by omega) (fun q => ?_) (fun q => ?_)
    · omega
    · refine g_aload_n d_Sen_become_63 rfl ?_
      refine g_aload_n d_Sen_become_64 rfl ?_
      refine g_iload_n d_Sen_become_65 rfl ?_
      refine g_callX (c_Sen_makeInstances hst hS hSR (by omega) (hl u (by omega)) hA s1 s2 s3 i1 ⟨a1, a2, a3, a4⟩ (t1 u (by omega)) i2 i3 o1) gm_Sen_makeInstances d_Sen_become_66 (gInv_v (As := [.ref (R 0), .int (nI u)]) (rest := []) d_Sen_become_66 gm_Sen_makeInstances gv_Sen_77 (q1) rfl) (Nat.le_of_ble_eq_true rfl) (Nat.le_of_ble_eq_true rfl) (Nat.le_of_ble_eq_true rfl) (Nat.le_of_ble_eq_true rfl) (Nat.le_of_ble_eq_true rfl) (fun v h1 hp => ?_)
      obtain ⟨rfl, ⟨⟨g6, m1, m2⟩, m3, ⟨l, al', ft, t0, g0, ⟨c1, c2⟩, ⟨b1, b2, b3, b4⟩, ⟨d1, d2⟩, ci, cu⟩, k1⟩, l', l1, l2, l3, l4⟩ := hp
      refine g_iinc d_Sen_become_69 rfl (nI_inc _) (Nat.le_of_ble_eq_true rfl) rfl ?_
      refine g_goto (tgt := 55) d_Sen_become_72 (by decide) ?_
      have e1 : ∀ {i : Nat}, i < 40 → i ∉ [4, 5, 6, 7, 8, 9, 11, 12, 15, 16 + u, 28 + u] → h1 (S i) = h (S i) := fun hi hn => gKp.S hS _ k1 hi (by simp; omega) hn
      refine ih (u + 1) h1 (by omega) ⟨⟨⟨g6, m1, m2⟩, m3⟩, ⟨_, l4, fun i hi => ?_⟩, ⟨al', b1, b2, fun e => (b3 e).trans ?_, by omega⟩, ⟨⟨l, c1⟩, ⟨t0, g0, ci⟩, cu⟩, ⟨fun i hi => ?_, fun i hi => ?_⟩, t3.of (e1 (by decide) (by simp; omega)) (e1 (by decide) (by simp; omega)), kk.tr (k1.O (by simp; omega))⟩
      · unfold va_up
        by_cases e : i = u
        · subst e
          rw [if_pos rfl]
          exact ⟨l', l1, l2, l3, rfl⟩
        · rw [if_neg e]
          exact o2 i (by omega)
      · constructor
        · rintro (⟨i, y1, y2⟩ | y)
          · exact ⟨i, by omega, y2⟩
          · exact ⟨u, by omega, y⟩
        · rintro ⟨i, y1, y2⟩
          by_cases e : i = u
          · subst e
            exact Or.inr y2
          · exact Or.inl ⟨i, by omega, y2⟩
      · by_cases e : i = u
        · subst e
          exact d1.u
        · exact (t1 i hi).of (e1 (by omega) (by simp; omega)) (e1 (by omega) (by simp; omega))
      · by_cases e : i = u
        · subst e
          exact ⟨ft, d1, d2⟩
        · obtain ⟨f, y1, y2⟩ := t2 i (by omega)
          exact ⟨f, y1.of (e1 (by omega) (by simp; omega)) (e1 (by omega) (by simp; omega)), y2⟩
theorem fat_congr {n : Nat} {w w' : Nat → Int32} (hw : ∀ p, p < 4 → w p = w' p) : ∀ {p : Nat}, p ≤ 4 → fat n w p = fat n w' p := by
  intro p
  induction p with
  | zero => exact fun _ => rfl
  | succ p ih =>
    intro hp
    unfold fat
    rw [ih (by omega), hw p (by omega)]
theorem atc_congr {w w' : Nat → Int32} (hw : ∀ p, p < 4 → w p = w' p) (c : Nat) : atc w c = atc w' c := fat_congr hw (Nat.le_refl _)
theorem lok_congr {c : Nat} {w w' : Nat → Int32} (hw : ∀ p, p < 4 → w p = w' p) {z : gLD} (hz : lok c w' z) : lok c w z := ⟨hz.1, hz.2.1, (hw _ hz.1).trans hz.2.2.1, hz.2.2.2⟩
/-- a sentence whose clauses may be remade -/
theorem b_Sen_become {K : gK} (hst : K.1.stackTraces = false) {S R : Nat → Nat} (hS : gNj S 40) (hSR : ∀ i, i < 40 → ∀ j, j < 102 → R j ≠ S i) {k c : Nat} {w : Nat → Int32} {Q : Outcome → gH → Prop} (hc8 : c < 8) : ∀ (r i : Nat) (h : gH) (f6 : Nat → Int32), i + r = 3 → gSf h S (nI k) c w f6 → (∀ j, j < i → isT c j → f6 j = nI (rnk c j)) →
    (∀ (g6 : Nat → Int32) (h' : gH), gSf h' S (nI k) c w g6 → (∀ j, j < 3 → isT c j → g6 j = nI (rnk c j)) → gKp h h' [S 15] → Go K M_Sen_become r_Sen_become 53 [(0, .ref (S 0)), (1, .ref (R 0))] [] h' 0 0 Q) →
    Go K M_Sen_become r_Sen_become 28 [(0, .ref (S 0)), (1, .ref (R 0)), (2, .int (nI i))] [] h 0 0 Q := by
  intro r
  induction r with
  | zero =>
    intro i h f6 hi hs h6 kk
    refine g_iload_n d_Sen_become_28 rfl ?_
    refine g_iconst (v := nI 3) d_Sen_become_29 (by decide) ?_
    refine g_icmpN_ge (tgt := 53) d_Sen_become_30 (by decide) (rfl) (rfl) (by omega) (by decide) (fun q => ?_) (fun q => ?_)
    · refine g_drop [(0, .ref (S 0)), (1, .ref (R 0))] ⟨rfl, rfl, trivial⟩ ?_
      exact kk f6 h hs (fun j hj => h6 j (by omega)) gKp.rf
    · omega
  | succ r ih =>
    intro i h f6 hi hs h6 kk
    obtain ⟨q1, q2, q3, fl, q4, q5⟩ := id hs
    obtain ⟨-, -, -, fv, w4, -⟩ := id q2
    refine g_iload_n d_Sen_become_28 rfl ?_
    refine g_iconst (v := nI 3) d_Sen_become_29 (by decide) ?_
    refine g_icmpN_ge (tgt := 53) d_Sen_become_30 (by decide) (rfl) (rfl) (by omega) (by decide) (fun q => ?_) (fun q => ?_)
    · omega
    · refine g_aload_n d_Sen_become_33 rfl ?_
      refine g_get d_Sen_become_34 f_Sen_55 (q1) rfl ?_
      refine g_iload_n d_Sen_become_37 rfl ?_
      refine g_aload_n d_Sen_become_38 rfl ?_
      refine g_get d_Sen_become_39 f_Sen_12 (q1) rfl ?_
      refine g_iload_n d_Sen_become_42 rfl ?_
      refine g_callR (c_Voc_findThing hst hc8 w4 (nI i)) gm_Voc_findThing d_Sen_become_43 (gInv_v (As := [.int (nI i)]) (rest := [.int (nI i), .ref (S 15)]) d_Sen_become_43 gm_Voc_findThing gv_Sen_73 (w4) rfl) (Nat.le_of_ble_eq_true rfl) (Nat.le_of_ble_eq_true rfl) (Nat.le_of_ble_eq_true rfl) (Nat.le_of_ble_eq_true rfl) (Nat.le_of_ble_eq_true rfl) ?_
      refine g_iast d_Sen_become_46 (q3) (rfl) (by omega) (by decide) ?_
      refine g_iinc d_Sen_become_47 rfl (nI_inc _) (Nat.le_of_ble_eq_true rfl) rfl ?_
      refine g_goto (tgt := 28) d_Sen_become_50 (by decide) ?_
      have k1 : gKp h (gup h (S 15) (.inl (0, 6, .inl (va_up f6 i (fth c (nI i)))))) ([15].map S) := gKp.rf.up (by simp)
      have e1 : ∀ {j : Nat}, j < 40 → j ∉ [15] → gup h (S 15) (.inl (0, 6, .inl (va_up f6 i (fth c (nI i))))) (S j) = h (S j) := fun hi hn => gKp.S hS [15] k1 hi (by decide) hn
      refine ih (i + 1) _ (va_up f6 i (fth c (nI i))) (by omega) ⟨(e1 (by decide) (by decide)).trans q1, q2.of (e1 (by decide) (by decide)) (e1 (by decide) (by decide)) (e1 (by decide) (by decide)), gup_s _ _ _, fl, (e1 (by decide) (by decide)).trans q4, q5⟩ (fun j hj hT => ?_) fun g6 h' y1 y2 y3 => kk g6 h' y1 y2 (gKp.tr k1 y3)
      unfold va_up
      by_cases e : j = i
      · subst e
        rw [if_pos rfl]
        exact fth_rnk c hc8 j (by omega) hT
      · rw [if_neg e]
        exact h6 j (by omega) hT
theorem c_Sen_become {K : gK} {h : gH} (hst : K.1.stackTraces = false) {S R : Nat → Nat} (hS : gNj S 40) (hSR : ∀ i, i < 40 → ∀ j, j < 102 → R j ≠ S i) {k0 c0 A0 k c : Nat} {w0 w' : Nat → Int32} {CS0 : Nat → Nat → Prop} {sz : Nat → Nat} {lt : Nat → gLD} (hs : gSe h S k0 c0 w0 A0 CS0) (hr : gRD h R k c w' sz lt) (hk : k ≤ 12) (hl : ∀ u, u < k → ∀ i, i < sz u → lok c w' (lt (4 * u + i))) (hA : atc w' c ≤ 12) :
    Ct K r_Sen_become M_Sen_become [.ref (S 0), .ref (R 0)] h (gRx fun o h' => o = none ∧ (∃ w, (∀ p, p < 4 → w p = w' p) ∧ gSe h' S k c w (atc w c) (cset c w sz lt)) ∧ gKP h h' (gOf S 40)) := by
  obtain ⟨⟨a1, a2, a3⟩, ⟨⟨v3, b1⟩, b2, b3⟩, ⟨⟨f6, c1⟩, fl, c2, c3⟩, ⟨fo, d1, -⟩, ⟨al, e1, -⟩, ⟨⟨l0, g1⟩, ⟨t, g, g2⟩, g3⟩, ⟨f1, -⟩, t3⟩ := hs
  obtain ⟨⟨⟨p, r1⟩, r2, -⟩, -⟩ := id hr
  refine Ct.of hst (by decide) (Or.inl rfl) (Nat.le_of_ble_eq_true rfl) ?_
  refine g_aload_n d_Sen_become_0 rfl ?_
  refine g_get d_Sen_become_1 f_Sen_12 (a1) rfl ?_
  refine g_aload_n d_Sen_become_4 rfl ?_
  refine g_get d_Sen_become_5 f_Sen_58 (r1) rfl ?_
  refine g_callX (c_Voc_become hst b2 r2.u (Ne.symm (hSR 1 (by decide) 1 (by decide))) (hSR 2 (by decide) 2 (by decide))) gm_Voc_become d_Sen_become_8 (gInv_v (As := [.ref (R 1)]) (rest := []) d_Sen_become_8 gm_Voc_become gv_Sen_61 (b1) rfl) (Nat.le_of_ble_eq_true rfl) (Nat.le_of_ble_eq_true rfl) (Nat.le_of_ble_eq_true rfl) (Nat.le_of_ble_eq_true rfl) (Nat.le_of_ble_eq_true rfl) (fun v h1 hp => ?_)
  obtain ⟨rfl, w, hw, w1, k1⟩ := hp
  have hc8 := w1.2.1
  have E1 : ∀ {j : Nat}, j < 40 → j ∉ [1, 2, 3] → h1 (S j) = h (S j) := fun hi hn => gKp.S hS [1, 2, 3] k1 hi (by decide) hn
  have R1 := hr.of fun i hi => gKp.R hSR [1, 2, 3] k1 hi (by decide)
  obtain ⟨⟨⟨p1, r11⟩, -⟩, -⟩ := id R1
  have s1 := (E1 (j := 0) (by decide) (by decide)).trans a1
  refine g_aload_n d_Sen_become_11 rfl ?_
  refine g_aload_n d_Sen_become_12 rfl ?_
  refine g_get d_Sen_become_13 f_Sen_65 (r11) rfl ?_
  refine g_put (fs' := [_, _, _, _, _, _, _, _, _, _]) d_Sen_become_16 f_Sen_69 (s1) rfl rfl (Nat.le_of_ble_eq_true rfl) rfl ?_
  generalize hh2 : gup h1 (S 0) (.inr (5, [.ref (S 1), .int (nI k), .ref (S 4), .ref (S 5), .ref (S 7), .ref (S 9), .ref (S 10), .ref (S 11), .ref (S 13), .ref (S 15)])) = h2
  have k2 : gKp h1 h2 ([0].map S) := by
    rw [← hh2]
    exact gKp.rf.up (by simp)
  have E2 : ∀ {j : Nat}, j < 40 → j ∉ [0, 1, 2, 3] → h2 (S j) = h (S j) := fun {j} hi hn => (gKp.S hS [0] k2 hi (by decide) (fun z => hn (by simp only [List.mem_singleton] at z; rw [z]; simp))).trans (E1 hi (fun z => hn (List.mem_cons_of_mem _ z)))
  have s2 : h2 (S 0) = some (.inr (5, [.ref (S 1), .int (nI k), .ref (S 4), .ref (S 5), .ref (S 7), .ref (S 9), .ref (S 10), .ref (S 11), .ref (S 13), .ref (S 15)])) := by
    rw [← hh2]
    exact gup_s _ _ _
  have i2 := e1.of (E2 (j := 5) (by decide) (by decide)) (E2 (j := 6) (by decide) (by decide))
  refine g_aload_n d_Sen_become_19 rfl ?_
  refine g_get d_Sen_become_20 f_Sen_27 (s2) rfl ?_
  refine g_callX (c_Iset_clear hst i2) gm_Iset_clear d_Sen_become_23 (gInv_v (As := []) (rest := []) d_Sen_become_23 gm_Iset_clear gv_Sen_70 (i2.2.2.2.choose_spec.1) rfl) (Nat.le_of_ble_eq_true rfl) (Nat.le_of_ble_eq_true rfl) (Nat.le_of_ble_eq_true rfl) (Nat.le_of_ble_eq_true rfl) (Nat.le_of_ble_eq_true rfl) (fun v3 h3 hp => ?_)
  obtain ⟨rfl, i3, k3⟩ := hp
  have E3 : ∀ {j : Nat}, j < 40 → j ∉ [5] → h3 (S j) = h2 (S j) := fun hi hn => gKp.S hS [5] k3 hi (by decide) hn
  have E23 : ∀ {j : Nat}, j < 40 → j ∉ [0, 1, 2, 3, 5] → h3 (S j) = h (S j) := fun {j} hi hn => (E3 hi (fun z => hn (by simp only [List.mem_singleton] at z; rw [z]; simp))).trans (E2 hi (fun z => hn (by simp only [List.mem_cons, List.not_mem_nil, or_false] at z ⊢; omega)))
  have w3 : gVc h3 (S 1) (S 2) (S 3) w c := (w1.of (gKp.S hS [0] k2 (by decide) (by decide) (by decide)) (gKp.S hS [0] k2 (by decide) (by decide) (by decide)) (gKp.S hS [0] k2 (by decide) (by decide) (by decide))).of (E3 (by decide) (by decide)) (E3 (by decide) (by decide)) (E3 (by decide) (by decide))
  refine g_iconst (v := nI 0) d_Sen_become_26 (by decide) ?_
  refine g_istore_n d_Sen_become_27 rfl (Nat.le_of_ble_eq_true rfl) rfl ?_
  refine b_Sen_become hst hS hSR (k := k) (w := w) hc8 3 0 h3 f6 (by omega) ⟨(E3 (by decide) (by decide)).trans s2, w3, (E23 (by decide) (by decide)).trans c1, fl, (E23 (by decide) (by decide)).trans c2, c3⟩ (fun j hj => absurd hj (Nat.not_lt_zero _)) fun g6 h4 y1 y2 k4 => ?_
  have E4 : ∀ {j : Nat}, j < 40 → j ∉ [15] → h4 (S j) = h3 (S j) := fun hi hn => gKp.S hS [15] k4 hi (by decide) hn
  have E5 : ∀ {j : Nat}, j < 40 → j ∉ [0, 1, 2, 3, 5, 15] → h4 (S j) = h (S j) := fun {j} hi hn => (E4 hi (fun z => hn (by simp only [List.mem_singleton] at z; rw [z]; simp))).trans (E23 hi (fun z => hn (by simp only [List.mem_cons, List.not_mem_nil, or_false] at z ⊢; omega)))
  have R4 := ((R1.of fun i hi => gKp.R hSR [0] k2 hi (by decide)).of fun i hi => gKp.R hSR [5] k3 hi (by decide)).of fun i hi => gKp.R hSR [15] k4 hi (by decide)
  refine g_iconst (v := nI 0) d_Sen_become_53 (by decide) ?_
  refine g_istore_n d_Sen_become_54 rfl (Nat.le_of_ble_eq_true rfl) rfl ?_
  have hwA := atc_congr hw c
  refine g_post (fun o h' y => ?_) (l_Sen_become (h0 := h) hst hS hSR hk (w := w) (fun u hu i hi => lok_congr hw (hl u hu i hi)) (by omega) k 0 h4 (by omega) ⟨⟨⟨g6, y1, y2⟩, R4⟩, ⟨fo, (E5 (by decide) (by decide)).trans d1, fun i hi => absurd hi (Nat.not_lt_zero _)⟩, ⟨[], i3.of (E4 (by decide) (by decide)) (E4 (by decide) (by decide)), List.nodup_nil, fun e => by simp, Nat.le_refl _⟩, ⟨⟨l0, g1.of (E5 (by decide) (by decide)) (E5 (by decide) (by decide))⟩, ⟨t, g, g2.of (E5 (by decide) (by decide))⟩, g3.of (E5 (by decide) (by decide)) (E5 (by decide) (by decide))⟩, ⟨fun i hi => (f1 i hi).of (E5 (by omega) (by simp; omega)) (E5 (by omega) (by simp; omega)), fun i hi => absurd hi (Nat.not_lt_zero _)⟩, t3.of (E5 (by decide) (by decide)) (E5 (by decide) (by decide)), (((gKp.O (n := 40) (l := [1, 2, 3]) k1 (by decide)).tr (k2.O (by decide))).tr (gKp.O (n := 40) (l := [5]) k3 (by decide))).tr (gKp.O (n := 40) (l := [15]) k4 (by decide))⟩)
  obtain ⟨v, z1, z2, z3, z4⟩ := y
  exact ⟨v, z1, z2, ⟨w, hw, z3⟩, z4⟩
