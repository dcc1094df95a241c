/-! ===== the reader's constructor ===== -/
def rdm (i n : Nat) : Prop := n < 6 ∨ (6 ≤ n ∧ n < 6 + i) ∨ (54 ≤ n ∧ n < 54 + i)
def rIn (h0 h : gH) (a : Nat) (R : Nat → Nat) (i : Nat) : Prop :=
  (∀ m, rdm i m → ∀ n, rdm i n → R m = R n → m = n) ∧ (∀ n, rdm i n → h (R n) ≠ none) ∧ (∀ n, rdm i n → n ≠ 0 → h0 (R n) = none) ∧ (∀ x, (∀ n, rdm i n → x ≠ R n) → h x = h0 x) ∧ R 0 = a ∧ h (R 0) = some (.inr (4, [.ref (R 1), .ref (R 4), .ref (R 5), .int 0, .int 0])) ∧ (∃ w, gVu h (R 1) (R 2) (R 3) w 0) ∧ (∃ f : Nat → Int32, h (R 5) = some (.inl (0, 12, .inl f))) ∧ ∃ fl : Nat → Option Nat, h (R 4) = some (.inl (4, 48, .inr (.inr (.inr (.inr fl))))) ∧ ∀ j, j < i → fl j = some (R (6 + j)) ∧ gLu h (R (6 + j)) (R (54 + j))
theorem gLu.of {h h' : gH} {l g : Nat} (hl : gLu h l g) (e1 : h' l = h l) (e2 : h' g = h g) : gLu h' l g := by
  obtain ⟨b, p, z1, f, z2, z3⟩ := hl
  exact ⟨b, p, e1.trans z1, f, e2.trans z2, z3⟩
theorem rIn.next {h0 h h1 : gH} {a i q1 q2 : Nat} {R : Nat → Nat} {fl : Nat → Option Nat} {e1 : gE} (hi : i < 48) (hr : rIn h0 h a R i) (hq1 : h q1 = none) (hq2 : gup h q1 e1 q2 = none) (hl : gLu h1 q1 q2) (hk : gKp (gup h q1 e1) h1 [q1, q2]) (hfl : h (R 4) = some (.inl (4, 48, .inr (.inr (.inr (.inr fl)))))) (hf : ∀ j, j < i → fl j = some (R (6 + j)) ∧ gLu h (R (6 + j)) (R (54 + j))) : rIn h0 (gup h1 (R 4) (.inl (4, 48, .inr (.inr (.inr (.inr (va_up fl i (some q1)))))))) a (va_up (va_up R (6 + i) q1) (54 + i) q2) (i + 1) := by
  obtain ⟨r1, r2, r3, r4, r5, r6, ⟨w, r7⟩, ⟨f5, r8⟩, -⟩ := hr
  have d4 : rdm i 4 := Or.inl (by decide)
  have n12 : q2 ≠ q1 := fun z => by
    rw [z, gup_s] at hq2
    cases hq2
  have hq2' : h q2 = none := by
    rw [gup_n n12] at hq2
    exact hq2
  have m1 : ∀ {n}, rdm i n → R n ≠ q1 := fun hn z => r2 _ hn (z ▸ hq1)
  have m2 : ∀ {n}, rdm i n → R n ≠ q2 := fun hn z => r2 _ hn (z ▸ hq2')
  have vR : ∀ {n}, rdm i n → va_up (va_up R (6 + i) q1) (54 + i) q2 n = R n := fun {n} hn => by
    unfold rdm at hn
    unfold va_up
    rw [if_neg (by omega), if_neg (by omega)]
  have v1 : va_up (va_up R (6 + i) q1) (54 + i) q2 (6 + i) = q1 := by
    unfold va_up
    rw [if_neg (by omega), if_pos rfl]
  have v2 : va_up (va_up R (6 + i) q1) (54 + i) q2 (54 + i) = q2 := by
    unfold va_up
    rw [if_pos rfl]
  have cs : ∀ {n}, rdm (i + 1) n → rdm i n ∨ n = 6 + i ∨ n = 54 + i := fun {n} hn => by
    unfold rdm at hn ⊢
    omega
  have eh : ∀ {x}, x ≠ q1 → x ≠ q2 → x ≠ R 4 → gup h1 (R 4) (.inl (4, 48, .inr (.inr (.inr (.inr (va_up fl i (some q1))))))) x = h x := fun y1 y2 y3 => (gup_n y3).trans ((hk _ (nm2 y1 y2)).trans (gup_n y1))
  have eR : ∀ {n}, rdm i n → n ≠ 4 → gup h1 (R 4) (.inl (4, 48, .inr (.inr (.inr (.inr (va_up fl i (some q1))))))) (R n) = h (R n) := fun hn hne => eh (m1 hn) (m2 hn) fun z => hne (r1 _ hn _ d4 z)
  obtain ⟨b, p, z1, g, z2, z3⟩ := id hl
  have u1 : gup h1 (R 4) (.inl (4, 48, .inr (.inr (.inr (.inr (va_up fl i (some q1))))))) q1 = h1 q1 := gup_n (Ne.symm (m1 d4))
  have u2 : gup h1 (R 4) (.inl (4, 48, .inr (.inr (.inr (.inr (va_up fl i (some q1))))))) q2 = h1 q2 := gup_n (Ne.symm (m2 d4))
  have dd : ∀ n, n < 6 → rdm i n := fun n hn => Or.inl hn
  refine ⟨fun m hm n hn e => ?_, fun n hn => ?_, fun n hn h9 => ?_, fun x hx => ?_, (vR (dd 0 (by decide))).trans r5, ?_, ⟨w, ?_⟩, ⟨f5, ?_⟩, va_up fl i (some q1), ?_, fun j hj => ?_⟩
  · rcases cs hm with y | y | y <;> rcases cs hn with z | z | z
    · rw [vR y, vR z] at e
      exact r1 m y n z e
    · rw [vR y, z, v1] at e
      exact absurd e (m1 y)
    · rw [vR y, z, v2] at e
      exact absurd e (m2 y)
    · rw [y, v1, vR z] at e
      exact absurd e.symm (m1 z)
    · omega
    · rw [y, z, v1, v2] at e
      exact absurd e.symm n12
    · rw [y, v2, vR z] at e
      exact absurd e.symm (m2 z)
    · rw [y, z, v1, v2] at e
      exact absurd e n12
    · omega
  · rcases cs hn with y | y | y
    · rw [vR y]
      by_cases h4 : n = 4
      · rw [h4, gup_s]
        simp
      · rw [eR y h4]
        exact r2 n y
    · rw [y, v1, u1, z1]
      simp
    · rw [y, v2, u2, z2]
      simp
  · rcases cs hn with y | y | y
    · rw [vR y]
      exact r3 n y h9
    · rw [y, v1, ← r4 q1 fun n hn => Ne.symm (m1 hn)]
      exact hq1
    · rw [y, v2, ← r4 q2 fun n hn => Ne.symm (m2 hn)]
      exact hq2'
  · have y1 : x ≠ q1 := by
      have := hx (6 + i) (Or.inr (Or.inl (by omega)))
      rw [v1] at this
      exact this
    have y2 : x ≠ q2 := by
      have := hx (54 + i) (Or.inr (Or.inr (by omega)))
      rw [v2] at this
      exact this
    have y3 : ∀ n, rdm i n → x ≠ R n := fun n hn => by
      have := hx n (by unfold rdm at hn ⊢; omega)
      rw [vR hn] at this
      exact this
    exact (eh y1 y2 (y3 4 d4)).trans (r4 x y3)
  · rw [vR (dd 0 (by decide)), vR (dd 1 (by decide)), vR (dd 4 (by decide)), vR (dd 5 (by decide)), eR (dd 0 (by decide)) (by decide)]
    exact r6
  · rw [vR (dd 1 (by decide)), vR (dd 2 (by decide)), vR (dd 3 (by decide))]
    exact r7.of (eR (dd 1 (by decide)) (by decide)) (eR (dd 2 (by decide)) (by decide)) (eR (dd 3 (by decide)) (by decide))
  · rw [vR (dd 5 (by decide)), eR (dd 5 (by decide)) (by decide)]
    exact r8
  · rw [vR (dd 4 (by decide))]
    exact gup_s _ _ _
  · by_cases e : j = i
    · subst e
      rw [v1, v2]
      refine ⟨?_, hl.of u1 u2⟩
      unfold va_up
      rw [if_pos rfl]
    · have hj' : j < i := by omega
      have a1 : rdm i (6 + j) := Or.inr (Or.inl (by omega))
      have a2 : rdm i (54 + j) := Or.inr (Or.inr (by omega))
      rw [vR a1, vR a2]
      obtain ⟨y1, y2⟩ := hf j hj'
      refine ⟨?_, y2.of (eR a1 (by omega)) (eR a2 (by omega))⟩
      unfold va_up
      rw [if_neg e]
      exact y1
theorem l_Rd_init {K : gK} (hst : K.1.stackTraces = false) {h0 : gH} {a : Nat} : ∀ (r i : Nat) (h : gH) (R : Nat → Nat), i + r = 48 → rIn h0 h a R i →
    Go K M_Rd_init r_Rd_init 34 [(0, .ref a), (1, .int (nI i))] [] h (2 * r) (5 * r) (gRx fun o h' => o = none ∧ ∃ R' : Nat → Nat, R' 0 = a ∧ gNj R' 102 ∧ gRU h' R' ∧ (∀ n, 1 ≤ n → n < 102 → h0 (R' n) = none) ∧ gKP h0 h' (gOf R' 102)) := by
  intro r
  induction r with
  | zero =>
    intro i h R hi hr
    obtain ⟨r1, r2, r3, r4, r5, r6, ⟨w, r7⟩, ⟨f5, r8⟩, fl, r9, r10⟩ := hr
    subst r5
    refine g_iload_n d_Rd_init_34 rfl ?_
    refine g_aload_n d_Rd_init_35 rfl ?_
    refine g_get d_Rd_init_36 f_Rd_20 (r6) rfl ?_
    refine g_alen d_Rd_init_39 (by decide) (r9) ?_
    refine g_icmpN_ge (tgt := 62) d_Rd_init_40 (by decide) (rfl) (rfl) (by omega) (by decide) (fun q => ?_) (fun q => ?_)
    · have e : i = 48 := by omega
      subst e
      have all : ∀ n, n < 102 → rdm 48 n := fun n hn => by unfold rdm; omega
      refine g_ret_v d_Rd_init_62 rfl ⟨_, rfl, rfl, R, rfl, fun m hm n hn => r1 m (all m hm) n (all n hn), ⟨⟨0, 0, r6⟩, ⟨w, 0, r7⟩, ⟨f5, r8⟩, ⟨fl, r9, fun j hj => (r10 j hj).1⟩, fun j hj => (r10 j hj).2, fun m hm n hn e => ?_, fun m hm n hn e => ?_⟩, fun n h1 h2 => r3 n (all n h2) (by omega), fun x hx => r4 x fun n hn z => hx ⟨n, by unfold rdm at hn; omega, z⟩⟩
      · have := r1 (6 + m) (all _ (by omega)) (6 + n) (all _ (by omega)) e
        omega
      · have := r1 (54 + m) (all _ (by omega)) (54 + n) (all _ (by omega)) e
        omega
    · omega
  | succ r ih =>
    intro i h R hi hr
    obtain ⟨r1, r2, r3, r4, r5, r6, ⟨w, r7⟩, ⟨f5, r8⟩, fl, r9, r10⟩ := id hr
    subst r5
    have d4 : rdm i 4 := Or.inl (by decide)
    refine g_iload_n d_Rd_init_34 rfl ?_
    refine g_aload_n d_Rd_init_35 rfl ?_
    refine g_get d_Rd_init_36 f_Rd_20 (r6) rfl ?_
    refine g_alen d_Rd_init_39 (by decide) (r9) ?_
    refine g_icmpN_ge (tgt := 62) d_Rd_init_40 (by decide) (rfl) (rfl) (by omega) (by decide) (fun q => ?_) (fun q => ?_)
    · omega
    · refine g_aload_n d_Rd_init_43 rfl ?_
      refine g_get d_Rd_init_44 f_Rd_20 (r6) rfl ?_
      refine g_iload_n d_Rd_init_47 rfl ?_
      refine g_new d_Rd_init_48 nw_Rd_18 (by omega) (show 3 ≤ 5 * (r + 1) by omega) (fun q1 hq1 => ?_)
      refine g_dup d_Rd_init_51 rfl ?_
      refine g_callX (c_Lit_init hst (gup_s _ _ _)) gm_Lit_init d_Rd_init_52 (gInv_i (As := []) (rest := [.ref q1, .int (nI i), .ref (R 4)]) d_Rd_init_52 gm_Lit_init gi_Rd_28 rfl) (Nat.le_of_ble_eq_true rfl) (Nat.le_of_ble_eq_true rfl) (show 1 ≤ 2 * (r + 1) - 1 by omega) (show 2 ≤ 5 * (r + 1) - 3 by omega) (Nat.le_of_ble_eq_true rfl) (fun v h1 hp => ?_)
      obtain ⟨rfl, q2, hq2, l1, k1⟩ := hp
      obtain ⟨b, p, z1, -⟩ := id l1
      have hne1 : R 4 ≠ q1 := fun z => r2 _ d4 (z ▸ hq1)
      have hne2 : R 4 ≠ q2 := fun z => by
        rw [← z, gup_n hne1] at hq2
        exact r2 _ d4 hq2
      refine g_aast d_Rd_init_55 ((k1 _ (nm2 hne1 hne2)).trans ((gup_n hne1).trans r9)) (fun _ => rfl) z1 rfl rfl (by omega) (by decide) ?_
      refine g_iinc d_Rd_init_56 rfl (nI_inc _) (Nat.le_of_ble_eq_true rfl) rfl ?_
      refine g_goto (tgt := 34) d_Rd_init_59 (by decide) ?_
      refine g_less (kc' := 2 * r) (ks' := 5 * r) (show 2 * r ≤ 2 * (r + 1) - 1 - 1 by omega) (show 5 * r ≤ 5 * (r + 1) - 3 - 2 by omega) ?_
      exact ih (i + 1) _ _ (by omega) (hr.next (by omega) hq1 hq2 l1 k1 r9 r10)
