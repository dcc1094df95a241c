/-! ===== the class's constructor ===== -/
def jn (S R : Nat → Nat) (t n : Nat) : Nat := if n < t then S n else R (n - t)
theorem jn_l {S R : Nat → Nat} {t n : Nat} (h : n < t) : jn S R t n = S n := if_pos h
theorem jn_r {S R : Nat → Nat} {t n : Nat} (h : ¬ n < t) : jn S R t n = R (n - t) := if_neg h
/-- a block of new cells gets the next numbers -/
theorem aIn.block {h0 h h1 : gH} {S R : Nat → Nat} {t m : Nat} (ht : 1 ≤ t) (hr : aIn h0 h S t) (hj : gNj R m) (hn : ∀ i, i < m → h (R i) = none) (hs : ∀ i, i < m → h1 (R i) ≠ none) (hk : ∀ x, (∀ i, i < m → x ≠ R i) → h1 x = h x) : aIn h0 h1 (jn S R t) (t + m) := by
  obtain ⟨r1, r2, r3, r4⟩ := hr
  have ap : ∀ {i j}, i < t → j < m → S i ≠ R j := fun hi hj z => r2 _ hi (z ▸ hn _ hj)
  refine ⟨fun i hi j hj2 e => ?_, fun n hn2 => ?_, fun n hn2 h9 => ?_, fun x hx => ?_⟩
  · by_cases a1 : i < t
    · by_cases a2 : j < t
      · rw [jn_l a1, jn_l a2] at e
        exact r1 i a1 j a2 e
      · rw [jn_l a1, jn_r a2] at e
        exact absurd e (ap a1 (by omega))
    · by_cases a2 : j < t
      · rw [jn_r a1, jn_l a2] at e
        exact absurd e.symm (ap a2 (by omega))
      · rw [jn_r a1, jn_r a2] at e
        have := hj _ (by omega) _ (by omega) e
        omega
  · by_cases a1 : n < t
    · rw [jn_l a1, hk _ fun i hi => ap a1 hi]
      exact r2 n a1
    · rw [jn_r a1]
      exact hs _ (by omega)
  · by_cases a1 : n < t
    · rw [jn_l a1]
      exact r3 n a1 h9
    · rw [jn_r a1, ← r4 (R (n - t)) fun i hi z => ap hi (show n - t < m by omega) z.symm]
      exact hn _ (by omega)
  · have h1x : ∀ i, i < m → x ≠ R i := fun i hi => by
      have := hx (t + i) (by omega)
      rw [jn_r (by omega), show t + i - t = i by omega] at this
      exact this
    have h2x : ∀ n, n < t → x ≠ S n := fun n hn => by
      have := hx n (by omega)
      rw [jn_l hn] at this
      exact this
    exact (hk x h1x).trans (r4 x h2x)
theorem gRU.cg {h : gH} {R R' : Nat → Nat} (hr : gRU h R) (he : ∀ i, i < 102 → R' i = R i) : gRU h R' := by
  obtain ⟨⟨k, p, r1⟩, ⟨w, c, r2⟩, ⟨f, r3⟩, ⟨⟨fl, l1, l2⟩, l3, l4, l5⟩⟩ := hr
  unfold gRU
  rw [he 0 (by decide), he 1 (by decide), he 2 (by decide), he 3 (by decide), he 4 (by decide), he 5 (by decide)]
  refine ⟨⟨k, p, r1⟩, ⟨w, c, r2⟩, ⟨f, r3⟩, ⟨⟨fl, l1, fun j hj => ?_⟩, fun j hj => ?_, fun i hi j hj e => ?_, fun i hi j hj e => ?_⟩⟩
  · rw [l2 j hj]
    exact congrArg some (he (6 + j) (by omega)).symm
  · have := l3 j hj
    show gLu h (R' (6 + j)) (R' (54 + j))
    rw [he (6 + j) (by omega), he (54 + j) (by omega)]
    exact this
  · have e2 : R' (6 + i) = R' (6 + j) := e
    rw [he (6 + i) (by omega), he (6 + j) (by omega)] at e2
    exact l4 i hi j hj e2
  · have e2 : R' (54 + i) = R' (54 + j) := e
    rw [he (54 + i) (by omega), he (54 + j) (by omega)] at e2
    exact l5 i hi j hj e2
theorem gRU.sm {h : gH} {R : Nat → Nat} (hr : gRU h R) {i : Nat} (hi : i < 102) : h (R i) ≠ none := by
  obtain ⟨⟨k0, p0, r1⟩, ⟨w0, c0, r2⟩, ⟨f0, r3⟩, ⟨⟨fl0, l1, -⟩, l3, -⟩⟩ := hr
  have S : ∀ {x : Nat} {e : gE}, h x = some e → h x ≠ none := fun z => by rw [z]; simp
  rcases (show i < 6 ∨ (6 ≤ i ∧ i < 54) ∨ (54 ≤ i ∧ i < 102) by omega) with hi | ⟨h8, h9⟩ | ⟨h8, h9⟩
  · rcases (show i = 0 ∨ i = 1 ∨ i = 2 ∨ i = 3 ∨ i = 4 ∨ i = 5 by omega) with e | e | e | e | e | e <;> subst e
    · exact S r1
    · exact r2.sm.1
    · exact r2.sm.2.1
    · exact r2.sm.2.2
    · exact S l1
    · exact S r3
  · obtain ⟨b, q, z1, -⟩ := l3 (i - 6) (by omega)
    have z2 : h (R (6 + (i - 6))) = _ := z1
    rw [show 6 + (i - 6) = i by omega] at z2
    exact S z2
  · obtain ⟨b, q, -, f, z1, -⟩ := l3 (i - 54) (by omega)
    have z2 : h (R (54 + (i - 54))) = _ := z1
    rw [show 54 + (i - 54) = i by omega] at z2
    exact S z2
theorem gSe.sm {h : gH} {S : Nat → Nat} {k c : Nat} {w : Nat → Int32} {A : Nat} {CS : Nat → Nat → Prop} (hs : gSe h S k c w A CS) {i : Nat} (hi : i < 40) : h (S i) ≠ none := by
  obtain ⟨⟨a1, -⟩, ⟨-, b2, -⟩, ⟨⟨f6, c1⟩, fl1, c2, -⟩, ⟨fo, d1, -⟩, ⟨al, e1, -⟩, ⟨⟨l0, g1⟩, ⟨t, g, g2, -⟩, g3⟩, ⟨f1, -⟩, t3⟩ := hs
  have S' : ∀ {x : Nat} {e : gE}, h x = some e → h x ≠ none := fun z => by rw [z]; simp
  rcases (show i < 16 ∨ (16 ≤ i ∧ i < 28) ∨ (28 ≤ i ∧ i < 40) by omega) with h9 | ⟨h8, h9⟩ | ⟨h8, h9⟩
  · rcases (show i = 0 ∨ i = 1 ∨ i = 2 ∨ i = 3 ∨ i = 4 ∨ i = 5 ∨ i = 6 ∨ i = 7 ∨ i = 8 ∨ i = 9 ∨ i = 10 ∨ i = 11 ∨ i = 12 ∨ i = 13 ∨ i = 14 ∨ i = 15 by omega) with e | e | e | e | e | e | e | e | e | e | e | e | e | e | e | e <;> subst e
    · exact S' a1
    · exact b2.sm.1
    · exact b2.sm.2.1
    · exact b2.sm.2.2
    · exact S' d1
    · exact e1.sm.1
    · exact e1.sm.2
    · exact g1.sm.1
    · exact g1.sm.2
    · exact S' g2
    · exact S' c2
    · exact g3.sm.1
    · exact g3.sm.2
    · exact t3.sm.1
    · exact t3.sm.2
    · exact S' c1
  · have z := (f1 (i - 16) (by omega)).sm.1
    rw [show 16 + (i - 16) = i by omega] at z
    exact z
  · have z := (f1 (i - 28) (by omega)).sm.2
    rw [show 28 + (i - 28) = i by omega] at z
    exact z
theorem c_HT_init {K : gK} {h : gH} (hst : K.1.stackTraces = false) {a : Nat} (ha : h a = some (.inr (0, [.null, .null, .null, .int 0]))) : Ct K r_HT_init M_HT_init [.ref a] h (gRx fun o h' => o = none ∧ ∃ (X : Nat → Nat) (w : Nat → Int32), X 0 = a ∧ (∀ p, p < 4 → w p = -1) ∧ (∀ CS, gHt h' X [] (-1) 0 0 w 0 CS) ∧ (∀ n, n < 145 → n ≠ 0 → h (X n) = none) ∧ gKP h h' (gOf X 145)) := by
  refine Ct.of hst (by decide) (Or.inl rfl) (Nat.le_of_ble_eq_true rfl) ?_
  have i0 : eIn 0 h h (fun _ => a) 1 a (fun _ => .inr (0, [])) [.null, .null, .null, .int 0] := ⟨⟨fun m hm n hn _ => by omega, fun n hn => by rw [ha]; simp, fun n hn h9 => by omega, fun x _ => rfl⟩, rfl, ha, fun m m1 m2 => by omega⟩
  refine g_aload_n d_HT_init_0 rfl ?_
  refine g_obj d_HT_init_1 go_HT_3 ob_1 ob_2 (Nat.le_of_ble_eq_true rfl) (Nat.le_of_ble_eq_true rfl) (Nat.le_of_ble_eq_true rfl) ?_
  refine g_aload_n d_HT_init_4 rfl ?_
  refine g_new d_HT_init_5 nw_HT_9 (Nat.le_of_ble_eq_true rfl) (Nat.le_of_ble_eq_true rfl) (fun q1 hq1 => ?_)
  refine g_dup d_HT_init_8 rfl ?_
  refine g_callX (c_Text_init hst (gup_s _ _ _)) gm_Text_init d_HT_init_9 (gInv_i (As := []) (rest := [.ref q1, .ref a]) d_HT_init_9 gm_Text_init gi_HT_11 rfl) (Nat.le_of_ble_eq_true rfl) (Nat.le_of_ble_eq_true rfl) (Nat.le_of_ble_eq_true rfl) (Nat.le_of_ble_eq_true rfl) (Nat.le_of_ble_eq_true rfl) (fun v1 h1 hp => ?_)
  obtain ⟨rfl, q2, hq2, ⟨f2, t1, t2, -⟩, k1⟩ := hp
  have m2 := nw_2 hq2
  have e := eq_2 k1 t1 t2
  subst e
  have i1 := (i0.add (by decide) hq1 (.inr (1, [.ref q2, .int (nI 0)]))).add (by decide) ((gup_n m2.1).trans m2.2) (.inl (2, 96, .inl f2))
  refine g_putF (k := 0) (fs' := [_, _, _, _]) d_HT_init_12 gc_HT (by decide) rfl rfl fl_HT_12 rfl rfl (i1.2.2.1) rfl rfl (Nat.le_of_ble_eq_true rfl) rfl ?_
  have i1 := i1.obj (by decide) [.ref q1, .null, .null, .int 0]
  generalize hS : va_up (va_up (fun _ => a) 1 q1) (1 + 1) q2 = S at i1
  have s1 : S 1 = q1 := by rw [← hS]; rfl
  have s2 : S 2 = q2 := by rw [← hS]; rfl
  have c1 := i1.2.2.2 1 (by decide) (by decide)
  have c2 := i1.2.2.2 2 (by decide) (by decide)
  generalize gup (gup (gup h q1 (.inr (1, [.ref q2, .int (nI 0)]))) q2 (.inl (2, 96, .inl f2))) a (.inr (0, [.ref q1, .null, .null, .int 0])) = h1 at *
  obtain ⟨a1, a2, a3, -⟩ := i1
  refine g_aload_n d_HT_init_15 rfl ?_
  refine g_new d_HT_init_16 nw_HT_16 (Nat.le_of_ble_eq_true rfl) (Nat.le_of_ble_eq_true rfl) (fun q3 hq3 => ?_)
  refine g_dup d_HT_init_19 rfl ?_
  refine g_callX (c_Rd_init hst (gup_s _ _ _)) gm_Rd_init d_HT_init_20 (gInv_i (As := []) (rest := [.ref q3, .ref a]) d_HT_init_20 gm_Rd_init gi_HT_18 rfl) (Nat.le_of_ble_eq_true rfl) (Nat.le_of_ble_eq_true rfl) (Nat.le_of_ble_eq_true rfl) (Nat.le_of_ble_eq_true rfl) (Nat.le_of_ble_eq_true rfl) (fun v3 h3 hp => ?_)
  obtain ⟨rfl, R, r0, rj, ru, rn, rk⟩ := hp
  subst r0
  have hRn : ∀ i, i < 102 → h1 (R i) = none := fun i hi => by
    by_cases e0 : i = 0
    · rw [e0]
      exact hq3
    · exact (nw_2 (rn i (by omega) hi)).2
  have hRk : ∀ x, (∀ i, i < 102 → x ≠ R i) → h3 x = h1 x := fun x hx => (rk x fun ⟨i, hi, e⟩ => hx i hi e).trans (gup_n (hx 0 (by decide)))
  have b1 := a1.block (by decide) rj hRn (fun i hi => ru.sm hi) hRk
  have hSR : ∀ {i}, i < 3 → ∀ j, j < 102 → S i ≠ R j := fun hi j hj z => a1.2.1 _ hi (z ▸ hRn j hj)
  have p3 : h3 a = some (.inr (0, [.ref q1, .null, .null, .int 0])) := by
    rw [← a2, hRk _ (hSR (by decide)), a2]
    exact a3
  refine g_putF (k := 1) (fs' := [_, _, _, _]) d_HT_init_23 gc_HT (by decide) rfl rfl fl_HT_19 rfl rfl (p3) rfl rfl (Nat.le_of_ble_eq_true rfl) rfl ?_
  have d1 := b1.put (m := 0) (e := .inr (0, [.ref q1, .ref (R 0), .null, .int 0])) (by decide)
  rw [jn_l (by decide), a2] at d1
  have ru2 : gRU (gup h3 a (.inr (0, [.ref q1, .ref (R 0), .null, .int 0]))) R := ru.of fun i hi => gup_n fun z => hSR (i := 0) (by decide) i hi (a2.trans z.symm)
  have c1' : gup h3 a (.inr (0, [.ref q1, .ref (R 0), .null, .int 0])) (S 1) = some (.inr (1, [.ref q2, .int (nI 0)])) := by
    rw [gup_n (fun z => by have := a1.1 1 (by decide) 0 (by decide) (z.trans a2.symm); omega), hRk _ (hSR (by decide))]
    exact c1
  have c2' : gup h3 a (.inr (0, [.ref q1, .ref (R 0), .null, .int 0])) (S 2) = some (.inl (2, 96, .inl f2)) := by
    rw [gup_n (fun z => by have := a1.1 2 (by decide) 0 (by decide) (z.trans a2.symm); omega), hRk _ (hSR (by decide))]
    exact c2
  have p3' : gup h3 a (.inr (0, [.ref q1, .ref (R 0), .null, .int 0])) a = _ := gup_s _ _ _
  generalize gup h3 a (.inr (0, [.ref q1, .ref (R 0), .null, .int 0])) = h4 at *
  generalize hT : jn S R (1 + 1 + 1) = T at d1
  have tS : ∀ {i}, i < 3 → T i = S i := fun hi => by rw [← hT]; exact jn_l hi
  have tR : ∀ {i}, i < 102 → T (3 + i) = R i := fun {i} hi => by
    rw [← hT]
    rw [jn_r (by omega), show 3 + i - (1 + 1 + 1) = i by omega]
  refine g_aload_n d_HT_init_26 rfl ?_
  refine g_new d_HT_init_27 nw_HT_23 (Nat.le_of_ble_eq_true rfl) (Nat.le_of_ble_eq_true rfl) (fun q5 hq5 => ?_)
  refine g_dup d_HT_init_30 rfl ?_
  refine g_callX (c_Sen_init hst (gup_s _ _ _)) gm_Sen_init d_HT_init_31 (gInv_i (As := []) (rest := [.ref q5, .ref a]) d_HT_init_31 gm_Sen_init gi_HT_25 rfl) (Nat.le_of_ble_eq_true rfl) (Nat.le_of_ble_eq_true rfl) (Nat.le_of_ble_eq_true rfl) (Nat.le_of_ble_eq_true rfl) (Nat.le_of_ble_eq_true rfl) (fun v5 h5 hp => ?_)
  obtain ⟨rfl, Z, w, z0, zj, hw, zs, zn, zk⟩ := hp
  subst z0
  have hZn : ∀ i, i < 40 → h4 (Z i) = none := fun i hi => by
    by_cases e0 : i = 0
    · rw [e0]
      exact hq5
    · exact (nw_2 (zn i (by omega) hi)).2
  have hZk : ∀ x, (∀ i, i < 40 → x ≠ Z i) → h5 x = h4 x := fun x hx => (zk x fun ⟨i, hi, e⟩ => hx i hi e).trans (gup_n (hx 0 (by decide)))
  have b2 := d1.block (by decide) zj hZn (fun i hi => (zs fun _ _ => False).sm hi) hZk
  have hTZ : ∀ {i}, i < 105 → ∀ j, j < 40 → T i ≠ Z j := fun hi j hj z => d1.2.1 _ hi (z ▸ hZn j hj)
  have t0 : T 0 = a := (tS (by decide)).trans a2
  have p5 : h5 a = some (.inr (0, [.ref q1, .ref (R 0), .null, .int 0])) := by
    rw [← t0, hZk _ (hTZ (by decide)), t0]
    exact p3'
  refine g_putF (k := 2) (fs' := [_, _, _, _]) d_HT_init_34 gc_HT (by decide) rfl rfl fl_HT_26 rfl rfl (p5) rfl rfl (Nat.le_of_ble_eq_true rfl) rfl ?_
  refine g_aload_n d_HT_init_37 rfl ?_
  refine g_iconst (v := -1) d_HT_init_38 (by decide) ?_
  refine g_put (fs' := [_, _, _, _]) d_HT_init_39 f_HT_30 (gup_s _ _ _) rfl rfl (Nat.le_of_ble_eq_true rfl) rfl ?_
  rw [gup_up]
  have d2 := b2.put (m := 0) (e := .inr (0, [.ref q1, .ref (R 0), .ref (Z 0), .int (-1)])) (by decide)
  rw [jn_l (by decide), t0] at d2
  generalize hX : jn T Z (1 + 1 + 1 + 102) = X at d2
  have xT : ∀ {i}, i < 105 → X i = T i := fun hi => by rw [← hX]; exact jn_l hi
  have xZ : ∀ i, X (105 + i) = Z i := fun i => by
    rw [← hX]
    rw [jn_r (by omega), show 105 + i - (1 + 1 + 1 + 102) = i by omega]
  have o5 : ∀ {i}, i < 105 → i ≠ 0 → gup h5 a (.inr (0, [.ref q1, .ref (R 0), .ref (Z 0), .int (-1)])) (T i) = h4 (T i) := fun {i} hi h0 => by
    rw [gup_n (fun z => h0 (d1.1 i hi 0 (by decide) (z.trans t0.symm))), hZk _ (hTZ hi)]
  refine g_ret_v d_HT_init_42 rfl ⟨_, rfl, rfl, X, w, (xT (by decide)).trans t0, hw, fun CS => ⟨fun i hi j hj e => d2.1 i hi j hj e, ?_, ⟨f2, ?_, ?_, by decide, fun i hi => absurd hi (Nat.not_lt_zero _), fun c hc => by cases hc⟩, ?_, ?_⟩, fun n hn h0 => d2.2.2.1 n hn h0, fun x hx => d2.2.2.2 x fun n hn e => hx ⟨n, hn, e⟩⟩
  · rw [xT (i := 0) (by decide), xT (i := 1) (by decide), xT (i := 3) (by decide), t0, tS (i := 1) (by decide), s1, show T 3 = R 0 from tR (i := 0) (by decide), show X 105 = Z 0 from xZ 0]
    exact gup_s _ _ _
  · rw [xT (i := 1) (by decide), xT (i := 2) (by decide), o5 (by decide) (by decide), tS (i := 1) (by decide), tS (i := 2) (by decide), s2]
    exact c1'
  · rw [xT (i := 2) (by decide), o5 (by decide) (by decide), tS (i := 2) (by decide)]
    exact c2'
  · refine (ru2.of (h' := gup h5 a (.inr (0, [.ref q1, .ref (R 0), .ref (Z 0), .int (-1)]))) fun i hi => ?_).cg fun i hi => ?_
    · rw [← tR hi]
      exact o5 (by omega) (by omega)
    · exact (xT (by omega)).trans (tR hi)
  · rw [show (fun i => X (105 + i)) = Z from funext xZ]
    have hza : ∀ i, i < 40 → Z i ≠ a := fun i hi z => hTZ (i := 0) (by decide) i hi (t0.trans z.symm)
    exact (zs CS).of (fun i hi _ _ => gup_n (hza i hi)) ((zs CS).2.2.2.2.2.2.2.of (gup_n (hza 13 (by decide))) (gup_n (hza 14 (by decide))))
