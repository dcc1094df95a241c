/-! ===== the sentence's constructor: its loop ===== -/
def sdm (i n : Nat) : Prop := n < 16 ∨ (16 ≤ n ∧ n < 16 + i) ∨ (28 ≤ n ∧ n < 28 + i)
def sIn (h0 h : gH) (a t : Nat) (E : Nat → gE) (R : Nat → Nat) (i : Nat) : Prop :=
  (∀ m, sdm i m → ∀ n, sdm i n → R m = R n → m = n) ∧ (∀ n, sdm i n → h (R n) ≠ none) ∧ (∀ n, sdm i n → n ≠ 0 → h0 (R n) = none) ∧ (∀ x, (∀ n, sdm i n → x ≠ R n) → h x = h0 x) ∧ R 0 = a ∧ R 10 = t ∧ (∀ n, n < 16 → n ≠ 10 → h (R n) = some (E n)) ∧ ∃ fl : Nat → Option Nat, h (R 10) = some (.inl (5, 12, .inr (.inr (.inr (.inr fl))))) ∧ ∀ j, j < i → fl j = some (R (16 + j)) ∧ gTu h (R (16 + j)) (R (28 + j))
theorem sIn.next {h0 h h1 : gH} {a i q1 q2 : Nat} {R : Nat → Nat} {fl : Nat → Option Nat} {e1 : gE} {t : Nat} {E : Nat → gE} (hi : i < 12) (hr : sIn h0 h a t E R i) (hq1 : h q1 = none) (hq2 : gup h q1 e1 q2 = none) (hl : gTu h1 q1 q2) (hk : gKp (gup h q1 e1) h1 [q1, q2]) (hfl : h (R 10) = some (.inl (5, 12, .inr (.inr (.inr (.inr fl)))))) (hf : ∀ j, j < i → fl j = some (R (16 + j)) ∧ gTu h (R (16 + j)) (R (28 + j))) : sIn h0 (gup h1 (R 10) (.inl (5, 12, .inr (.inr (.inr (.inr (va_up fl i (some q1)))))))) a t E (va_up (va_up R (16 + i) q1) (28 + i) q2) (i + 1) := by
  obtain ⟨r1, r2, r3, r4, r5, r6, r7, -⟩ := hr
  have d4 : sdm i 10 := Or.inl (by decide)
  have n12 : q2 ≠ q1 := fun z => by
    rw [z, gup_s] at hq2
    cases hq2
  have hq2' : h q2 = none := by
    rw [gup_n n12] at hq2
    exact hq2
  have m1 : ∀ {n}, sdm i n → R n ≠ q1 := fun hn z => r2 _ hn (z ▸ hq1)
  have m2 : ∀ {n}, sdm i n → R n ≠ q2 := fun hn z => r2 _ hn (z ▸ hq2')
  have vR : ∀ {n}, sdm i n → va_up (va_up R (16 + i) q1) (28 + i) q2 n = R n := fun {n} hn => by
    unfold sdm at hn
    unfold va_up
    rw [if_neg (by omega), if_neg (by omega)]
  have v1 : va_up (va_up R (16 + i) q1) (28 + i) q2 (16 + i) = q1 := by
    unfold va_up
    rw [if_neg (by omega), if_pos rfl]
  have v2 : va_up (va_up R (16 + i) q1) (28 + i) q2 (28 + i) = q2 := by
    unfold va_up
    rw [if_pos rfl]
  have cs : ∀ {n}, sdm (i + 1) n → sdm i n ∨ n = 16 + i ∨ n = 28 + i := fun {n} hn => by
    unfold sdm at hn ⊢
    omega
  have eh : ∀ {x}, x ≠ q1 → x ≠ q2 → x ≠ R 10 → gup h1 (R 10) (.inl (5, 12, .inr (.inr (.inr (.inr (va_up fl i (some q1))))))) x = h x := fun y1 y2 y3 => (gup_n y3).trans ((hk _ (nm2 y1 y2)).trans (gup_n y1))
  have eR : ∀ {n}, sdm i n → n ≠ 10 → gup h1 (R 10) (.inl (5, 12, .inr (.inr (.inr (.inr (va_up fl i (some q1))))))) (R n) = h (R n) := fun hn hne => eh (m1 hn) (m2 hn) fun z => hne (r1 _ hn _ d4 z)
  obtain ⟨b, p, g, z1, z2⟩ := id hl
  have u1 : gup h1 (R 10) (.inl (5, 12, .inr (.inr (.inr (.inr (va_up fl i (some q1))))))) q1 = h1 q1 := gup_n (Ne.symm (m1 d4))
  have u2 : gup h1 (R 10) (.inl (5, 12, .inr (.inr (.inr (.inr (va_up fl i (some q1))))))) q2 = h1 q2 := gup_n (Ne.symm (m2 d4))
  have dd : ∀ n, n < 16 → sdm i n := fun n hn => Or.inl hn
  refine ⟨fun m hm n hn e => ?_, fun n hn => ?_, fun n hn h9 => ?_, fun x hx => ?_, (vR (dd 0 (by decide))).trans r5, (vR (dd 10 (by decide))).trans r6, fun n hn h9 => ?_, va_up fl i (some q1), ?_, fun j hj => ?_⟩
  · rcases cs hm with y | y | y <;> rcases cs hn with z | z | z
    · rw [vR y, vR z] at e
      exact r1 m y n z e
    · rw [vR y, z, v1] at e
      exact absurd e (m1 y)
    · rw [vR y, z, v2] at e
      exact absurd e (m2 y)
    · rw [y, v1, vR z] at e
      exact absurd e.symm (m1 z)
    · omega
    · rw [y, z, v1, v2] at e
      exact absurd e.symm n12
    · rw [y, v2, vR z] at e
      exact absurd e.symm (m2 z)
    · rw [y, z, v1, v2] at e
      exact absurd e n12
    · omega
  · rcases cs hn with y | y | y
    · rw [vR y]
      by_cases h4 : n = 10
      · rw [h4, gup_s]
        simp
      · rw [eR y h4]
        exact r2 n y
    · rw [y, v1, u1, z1]
      simp
    · rw [y, v2, u2, z2]
      simp
  · rcases cs hn with y | y | y
    · rw [vR y]
      exact r3 n y h9
    · rw [y, v1, ← r4 q1 fun n hn => Ne.symm (m1 hn)]
      exact hq1
    · rw [y, v2, ← r4 q2 fun n hn => Ne.symm (m2 hn)]
      exact hq2'
  · have y1 : x ≠ q1 := by
      have := hx (16 + i) (Or.inr (Or.inl (by omega)))
      rw [v1] at this
      exact this
    have y2 : x ≠ q2 := by
      have := hx (28 + i) (Or.inr (Or.inr (by omega)))
      rw [v2] at this
      exact this
    have y3 : ∀ n, sdm i n → x ≠ R n := fun n hn => by
      have := hx n (by unfold sdm at hn ⊢; omega)
      rw [vR hn] at this
      exact this
    exact (eh y1 y2 (y3 10 d4)).trans (r4 x y3)
  · rw [vR (dd n hn), eR (dd n hn) h9]
    exact r7 n hn h9
  · rw [vR (dd 10 (by decide))]
    exact gup_s _ _ _
  · by_cases e : j = i
    · subst e
      rw [v1, v2]
      refine ⟨?_, hl.of u1 u2⟩
      unfold va_up
      rw [if_pos rfl]
    · have hj' : j < i := by omega
      have a1 : sdm i (16 + j) := Or.inr (Or.inl (by omega))
      have a2 : sdm i (28 + j) := Or.inr (Or.inr (by omega))
      rw [vR a1, vR a2]
      obtain ⟨y1, y2⟩ := hf j hj'
      refine ⟨?_, y2.of (eR a1 (by omega)) (eR a2 (by omega))⟩
      unfold va_up
      rw [if_neg e]
      exact y1
theorem l_Sen_init {K : gK} (hst : K.1.stackTraces = false) {h0 : gH} {a t : Nat} {E : Nat → gE} {v0 v1 v2 v3 v4 v5 v7 v8 v9 : Value} (hE : E 0 = .inr (5, [v0, v1, v2, v3, v4, v5, .ref t, v7, v8, v9])) {Q : Outcome → gH → Prop} : ∀ (r i : Nat) (h : gH) (R : Nat → Nat), i + r = 12 → sIn h0 h a t E R i →
    (∀ (h' : gH) (R' : Nat → Nat), sIn h0 h' a t E R' 12 → (∀ n, n < 16 → R' n = R n) → Q (.returned none) h') →
    Go K M_Sen_init r_Sen_init 102 [(0, .ref a), (1, .int (nI i))] [] h (2 * r) (67 * r) Q := by
  intro r
  induction r with
  | zero =>
    intro i h R hi hr kk
    refine g_iload_n d_Sen_init_102 rfl ?_
    refine g_bipush (v := nI 12) d_Sen_init_103 (by decide) ?_
    refine g_icmpN_ge (tgt := 127) d_Sen_init_105 (by decide) (rfl) (rfl) (by omega) (by decide) (fun q => ?_) (fun q => ?_)
    · have e : i = 12 := by omega
      subst e
      exact g_ret_v d_Sen_init_127 rfl (kk h R hr fun _ _ => rfl)
    · omega
  | succ r ih =>
    intro i h R hi hr kk
    obtain ⟨r1, r2, r3, r4, r5, r6, r7, fl, r9, r10⟩ := id hr
    subst r5
    subst r6
    have d4 : sdm i 10 := Or.inl (by decide)
    have x0 := r7 0 (by decide) (by decide)
    rw [hE] at x0
    refine g_iload_n d_Sen_init_102 rfl ?_
    refine g_bipush (v := nI 12) d_Sen_init_103 (by decide) ?_
    refine g_icmpN_ge (tgt := 127) d_Sen_init_105 (by decide) (rfl) (rfl) (by omega) (by decide) (fun q => ?_) (fun q => ?_)
    · omega
    · refine g_aload_n d_Sen_init_108 rfl ?_
      refine g_get d_Sen_init_109 f_Sen_43 (x0) rfl ?_
      refine g_iload_n d_Sen_init_112 rfl ?_
      refine g_new d_Sen_init_113 nw_Sen_41 (by omega) (show 3 ≤ 67 * (r + 1) by omega) (fun q1 hq1 => ?_)
      refine g_dup d_Sen_init_116 rfl ?_
      refine g_callX (c_Tab_init hst (gup_s _ _ _)) gm_Tab_init d_Sen_init_117 (gInv_i (As := []) (rest := [.ref q1, .int (nI i), .ref (R 10)]) d_Sen_init_117 gm_Tab_init gi_Sen_47 rfl) (Nat.le_of_ble_eq_true rfl) (Nat.le_of_ble_eq_true rfl) (show 1 ≤ 2 * (r + 1) - 1 by omega) (show 64 ≤ 67 * (r + 1) - 3 by omega) (Nat.le_of_ble_eq_true rfl) (fun v h1 hp => ?_)
      obtain ⟨rfl, q2, hq2, l1, k1⟩ := hp
      obtain ⟨b, p, z, z1, -⟩ := id l1
      have hne1 : R 10 ≠ q1 := fun z => r2 _ d4 (z ▸ hq1)
      have hne2 : R 10 ≠ q2 := fun z => by
        rw [← z, gup_n hne1] at hq2
        exact r2 _ d4 hq2
      refine g_aast d_Sen_init_120 ((k1 _ (nm2 hne1 hne2)).trans ((gup_n hne1).trans r9)) (fun _ => rfl) z1 rfl rfl (by omega) (by decide) ?_
      refine g_iinc d_Sen_init_121 rfl (nI_inc _) (Nat.le_of_ble_eq_true rfl) rfl ?_
      refine g_goto (tgt := 102) d_Sen_init_124 (by decide) ?_
      refine g_less (kc' := 2 * r) (ks' := 67 * r) (show 2 * r ≤ 2 * (r + 1) - 1 - 1 by omega) (show 67 * r ≤ 67 * (r + 1) - 3 - 64 by omega) ?_
      refine ih (i + 1) _ _ (by omega) (hr.next (by omega) hq1 hq2 l1 k1 r9 r10) fun h' R' y1 y2 => kk h' R' y1 fun n hn => (y2 n hn).trans ?_
      unfold va_up
      rw [if_neg (by omega), if_neg (by omega)]
