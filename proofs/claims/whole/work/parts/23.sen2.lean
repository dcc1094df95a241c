/-! ===== Sentence.makeInstances ===== -/
theorem gCl.iff {h : gH} {S : Nat → Nat} {u A m0 m m' : Nat} {P0 P P' : Nat → Prop} (hc : gCl h S u A m0 m P0 P) (hm : m ≤ m') (he : ∀ e, P e ↔ P' e) : gCl h S u A m0 m' P0 P' := by
  obtain ⟨l, al, ft, t0, g0, ⟨c1, c2, c3, c4⟩, ⟨a1, a2, a3, a4⟩, ⟨t1, t2⟩, ci, cu⟩ := hc
  refine ⟨l, al, ft, t0, g0, ⟨c1, c2, fun x => (c3 x).trans (he x), by omega⟩, ⟨a1, a2, fun x => (a3 x).trans (or_congr Iff.rfl (he x)), by omega⟩, ⟨t1, fun n hn => (t2 n hn).trans ?_⟩, ci, cu⟩
  simp only [he]
theorem gCl.of {h h' : gH} {S : Nat → Nat} {u A m0 m : Nat} {P0 P : Nat → Prop} (hc : gCl h S u A m0 m P0 P) (he : ∀ i, i = 5 ∨ i = 6 ∨ i = 7 ∨ i = 8 ∨ i = 9 ∨ i = 11 ∨ i = 12 ∨ i = 16 + u ∨ i = 28 + u → h' (S i) = h (S i)) : gCl h' S u A m0 m P0 P := by
  obtain ⟨l, al, ft, t0, g0, ⟨c1, c2⟩, ⟨a1, a2⟩, ⟨t1, t2⟩, ci, cu⟩ := hc
  exact ⟨l, al, ft, t0, g0, ⟨c1.of (he 7 (by simp)) (he 8 (by simp)), c2⟩, ⟨a1.of (he 5 (by simp)) (he 6 (by simp)), a2⟩, ⟨t1.of (he _ (by simp)) (he _ (by simp)), t2⟩, ci.of (he 9 (by simp)), cu.of (he 11 (by simp)) (he 12 (by simp))⟩
/-- the steady things, while a clause's instances are made -/
def gSj (h0 h : gH) (S R : Nat → Nat) (k : Int32) (kr c c' u m : Nat) (w w' : Nat → Int32) (sz : Nat → Nat) (lt : Nat → gLD) (P0 P : Nat → Prop) : Prop := (∃ f6, gSf h S k c w f6 ∧ ∀ i, i < 3 → isT c i → f6 i = nI (rnk c i)) ∧ gRD h R kr c' w' sz lt ∧ gCl h S u (atc w c) (27 * u) m P0 P ∧ gKp h0 h ([5, 6, 7, 8, 9, 11, 12, 15, 16 + u, 28 + u].map S)
theorem gSj.put {h0 h : gH} {S R : Nat → Nat} {k : Int32} {kr c c' u m : Nat} {w w' : Nat → Int32} {sz : Nat → Nat} {lt : Nat → gLD} {P0 P : Nat → Prop} (hS : gNj S 40) (hSR : ∀ i, i < 40 → ∀ j, j < 102 → R j ≠ S i) (hu : u < 12) (hj : gSj h0 h S R k kr c c' u m w w' sz lt P0 P) {g6 : Nat → Int32} (hg : ∀ i, i < 3 → isT c i → g6 i = nI (rnk c i)) : gSj h0 (gup h (S 15) (.inl (0, 6, .inl g6))) S R k kr c c' u m w w' sz lt P0 P ∧ gSf (gup h (S 15) (.inl (0, 6, .inl g6))) S k c w g6 := by
  obtain ⟨⟨f6, j1, j2⟩, j3, j4, j5⟩ := hj
  have k1 : gKp h (gup h (S 15) (.inl (0, 6, .inl g6))) ([15].map S) := gKp.rf.up (by simp)
  have e1 : ∀ {i : Nat}, i < 40 → i ∉ [15] → gup h (S 15) (.inl (0, 6, .inl g6)) (S i) = h (S i) := fun hi hn => gKp.S hS [15] k1 hi (by decide) hn
  obtain ⟨s1, s2, s3, fl, s4, s5⟩ := j1
  have sf : gSf (gup h (S 15) (.inl (0, 6, .inl g6))) S k c w g6 := ⟨(e1 (by decide) (by decide)).trans s1, s2.of (e1 (by decide) (by decide)) (e1 (by decide) (by decide)) (e1 (by decide) (by decide)), gup_s _ _ _, fl, (e1 (by decide) (by decide)).trans s4, s5⟩
  refine ⟨⟨⟨g6, sf, hg⟩, j3.of fun i hi => gKp.R hSR [15] k1 hi (by decide), j4.of fun i hi => e1 (by omega) (by simp; omega), j5.tr (k1.mono (by simp))⟩, sf⟩
theorem l_Sen_z {K : gK} (hst : K.1.stackTraces = false) {h0 : gH} {S R : Nat → Nat} (hS : gNj S 40) (hSR : ∀ i, i < 40 → ∀ j, j < 102 → R j ≠ S i) {k : Int32} {kr c u : Nat} {P0 : Nat → Prop} {w w' : Nat → Int32} {sz : Nat → Nat} {lt : Nat → gLD} {c' : Nat} (hq : u < 12) (hl : ∀ i, i < sz u → lok c w (lt (4 * u + i))) (hA : atc w c ≤ 12) (hc8 : c < 8) {Q : Outcome → gH → Prop} {x y : Nat} (hx : x < tcn c) (hy : y < tcn c) : ∀ (r z m : Nat) (P : Nat → Prop) (h : gH), z + r = tcn c → m + r ≤ 27 → gSj h0 h S R k kr c c' u m w w' sz lt P0 P →
    (∀ (P' : Nat → Prop) (h' : gH), (∀ e, P' e ↔ P e ∨ ∃ z', z ≤ z' ∧ z' < tcn c ∧ cod c w sz lt u (vof c x y z') = some e) → gSj h0 h' S R k kr c c' u (m + r) w w' sz lt P0 P' → Go K M_Sen_makeInstances r_Sen_makeInstances 94 [(0, .ref (S 0)), (1, .ref (R 0)), (2, .int (nI u)), (3, .int (nI (tcn c))), (4, .int (nI x)), (5, .int (nI y))] [] h' 0 0 Q) →
    Go K M_Sen_makeInstances r_Sen_makeInstances 52 [(0, .ref (S 0)), (1, .ref (R 0)), (2, .int (nI u)), (3, .int (nI (tcn c))), (4, .int (nI x)), (5, .int (nI y)), (6, .int (nI z))] [] h 0 0 Q := by
  have h3 := tcn_le c
  intro r
  induction r with
  | zero =>
    intro z m P h hz hm hj kk
    refine g_iload d_Sen_makeInstances_52 rfl ?_
    refine g_iload_n d_Sen_makeInstances_54 rfl ?_
    refine g_icmpN_ge (tgt := 94) d_Sen_makeInstances_55 (by decide) (rfl) (rfl) (by omega) (by omega) (fun q => ?_) (fun q => ?_)
    · refine g_drop [(0, .ref (S 0)), (1, .ref (R 0)), (2, .int (nI u)), (3, .int (nI (tcn c))), (4, .int (nI x)), (5, .int (nI y))] ⟨rfl, rfl, rfl, rfl, rfl, rfl, trivial⟩ ?_
      refine kk P h (fun e => ⟨Or.inl, fun z => z.elim id ?_⟩) hj
      rintro ⟨z', z1, z2, -⟩
      omega
    · omega
  | succ r ih =>
    intro z m P h hz hm hj kk
    obtain ⟨⟨f6, j1, j2⟩, j3, j4, j5⟩ := id hj
    obtain ⟨s1, s2, s3, s4⟩ := id j1
    have n0 : S 0 ≠ S 15 := hS.ne (by decide) (by decide) (by decide)
    refine g_iload d_Sen_makeInstances_52 rfl ?_
    refine g_iload_n d_Sen_makeInstances_54 rfl ?_
    refine g_icmpN_ge (tgt := 94) d_Sen_makeInstances_55 (by decide) (rfl) (rfl) (by omega) (by omega) (fun q => ?_) (fun q => ?_)
    · omega
    · refine g_aload_n d_Sen_makeInstances_58 rfl ?_
      refine g_get d_Sen_makeInstances_59 f_Sen_55 (s1) rfl ?_
      refine g_iconst (v := nI 3) d_Sen_makeInstances_62 (by decide) ?_
      refine g_iload d_Sen_makeInstances_63 rfl ?_
      refine g_iast d_Sen_makeInstances_65 (s3) (rfl) (by decide) (by decide) ?_
      refine g_aload_n d_Sen_makeInstances_66 rfl ?_
      refine g_get d_Sen_makeInstances_67 f_Sen_55 ((gup_n n0).trans s1) rfl ?_
      refine g_iconst (v := nI 4) d_Sen_makeInstances_70 (by decide) ?_
      refine g_iload d_Sen_makeInstances_71 rfl ?_
      refine g_iast d_Sen_makeInstances_73 (gup_s _ _ _) (rfl) (by decide) (by decide) ?_
      rw [gup_up]
      refine g_aload_n d_Sen_makeInstances_74 rfl ?_
      refine g_get d_Sen_makeInstances_75 f_Sen_55 ((gup_n n0).trans s1) rfl ?_
      refine g_iconst (v := nI 5) d_Sen_makeInstances_78 (by decide) ?_
      refine g_iload d_Sen_makeInstances_79 rfl ?_
      refine g_iast d_Sen_makeInstances_81 (gup_s _ _ _) (rfl) (by decide) (by decide) ?_
      refine g_aload_n d_Sen_makeInstances_82 rfl ?_
      refine g_aload_n d_Sen_makeInstances_83 rfl ?_
      refine g_iload_n d_Sen_makeInstances_84 rfl ?_
      rw [gup_up]
      have hv : ∀ a, a < 6 → (a < 3 → isT c a) → va_up (va_up (va_up f6 3 (nI x)) 4 (nI y)) 5 (nI z) a = nI (vof c x y z a) ∧ vof c x y z a < tcn c := by
        intro a ha hT
        refine ⟨?_, vof_lt hc8 hx hy (by omega) hT⟩
        rcases (show a < 3 ∨ a = 3 ∨ a = 4 ∨ a = 5 by omega) with e | e | e | e
        · have := j2 a e (hT e)
          unfold va_up vof
          rw [if_neg (by omega), if_neg (by omega), if_neg (by omega), if_pos e, this]
        · subst e
          rfl
        · subst e
          rfl
        · subst e
          rfl
      obtain ⟨p1, p2⟩ := hj.put hS hSR hq (g6 := va_up (va_up (va_up f6 3 (nI x)) 4 (nI y)) 5 (nI z)) (fun i hi hT => by
        have := (hv i (by omega) (fun _ => hT)).1
        rw [this]
        unfold vof
        rw [if_pos hi])
      obtain ⟨-, p3, p4, p5⟩ := id p1
      refine g_callX (c_Sen_makeInstance hst hS hSR hq hl hv hA (by omega) (by omega) p2 p3 p4) gm_Sen_makeInstance d_Sen_makeInstances_85 (gInv_v (As := [.ref (R 0), .int (nI u)]) (rest := []) d_Sen_makeInstances_85 gm_Sen_makeInstance gv_Sen_109 (p2.1) rfl) (Nat.le_of_ble_eq_true rfl) (Nat.le_of_ble_eq_true rfl) (Nat.le_of_ble_eq_true rfl) (Nat.le_of_ble_eq_true rfl) (Nat.le_of_ble_eq_true rfl) (fun v h1 hp => ?_)
      obtain ⟨rfl, o1, k1⟩ := hp
      refine g_iinc d_Sen_makeInstances_88 rfl (nI_inc _) (Nat.le_of_ble_eq_true rfl) rfl ?_
      refine g_goto (tgt := 52) d_Sen_makeInstances_91 (by decide) ?_
      have e1 : ∀ {i : Nat}, i < 40 → i ∉ [5, 6, 7, 8, 9, 11, 12, 28 + u] → h1 (S i) = _ := fun hi hn => gKp.S hS [5, 6, 7, 8, 9, 11, 12, 28 + u] k1 hi (by simp; omega) hn
      refine ih (z + 1) (m + 1) _ h1 (by omega) (by omega) ⟨⟨_, p2.of (e1 (by decide) (by simp; omega)) (e1 (by decide) (by simp; omega)) (e1 (by decide) (by simp; omega)) (e1 (by decide) (by simp; omega)) (e1 (by decide) (by simp; omega)) (e1 (by decide) (by simp; omega)), fun i hi hT => ?_⟩, p3.of fun i hi => gKp.R hSR _ k1 hi (by simp; omega), o1, p5.tr (k1.mono (by simp))⟩ fun P' h' e2 e3 => kk P' h' (fun e => (e2 e).trans ?_) (by rw [show m + 1 + r = m + (r + 1) by omega] at e3; exact e3)
      · have := (hv i (by omega) (fun _ => hT)).1
        rw [this]
        unfold vof
        rw [if_pos hi]
      · constructor
        · rintro ((a | a) | ⟨z', b1, b2, b3⟩)
          · exact Or.inl a
          · exact Or.inr ⟨z, Nat.le_refl _, by omega, a⟩
          · exact Or.inr ⟨z', by omega, b2, b3⟩
        · rintro (a | ⟨z', b1, b2, b3⟩)
          · exact Or.inl (Or.inl a)
          · by_cases e : z' = z
            · subst e
              exact Or.inl (Or.inr b3)
            · exact Or.inr ⟨z', by omega, b2, b3⟩
theorem l_Sen_y {K : gK} (hst : K.1.stackTraces = false) {h0 : gH} {S R : Nat → Nat} (hS : gNj S 40) (hSR : ∀ i, i < 40 → ∀ j, j < 102 → R j ≠ S i) {k : Int32} {kr c u : Nat} {P0 : Nat → Prop} {w w' : Nat → Int32} {sz : Nat → Nat} {lt : Nat → gLD} {c' : Nat} (hq : u < 12) (hl : ∀ i, i < sz u → lok c w (lt (4 * u + i))) (hA : atc w c ≤ 12) (hc8 : c < 8) {Q : Outcome → gH → Prop} {x : Nat} (hx : x < tcn c) : ∀ (r y m : Nat) (P : Nat → Prop) (h : gH), y + r = tcn c → m + r * tcn c ≤ 27 → gSj h0 h S R k kr c c' u m w w' sz lt P0 P →
    (∀ (P' : Nat → Prop) (h' : gH), (∀ e, P' e ↔ P e ∨ ∃ y', y ≤ y' ∧ y' < tcn c ∧ ∃ z', z' < tcn c ∧ cod c w sz lt u (vof c x y' z') = some e) → gSj h0 h' S R k kr c c' u (m + r * tcn c) w w' sz lt P0 P' → Go K M_Sen_makeInstances r_Sen_makeInstances 100 [(0, .ref (S 0)), (1, .ref (R 0)), (2, .int (nI u)), (3, .int (nI (tcn c))), (4, .int (nI x))] [] h' 0 0 Q) →
    Go K M_Sen_makeInstances r_Sen_makeInstances 43 [(0, .ref (S 0)), (1, .ref (R 0)), (2, .int (nI u)), (3, .int (nI (tcn c))), (4, .int (nI x)), (5, .int (nI y))] [] h 0 0 Q := by
  have h3 := tcn_le c
  intro r
  induction r with
  | zero =>
    intro y m P h hz hm hj kk
    refine g_iload d_Sen_makeInstances_43 rfl ?_
    refine g_iload_n d_Sen_makeInstances_45 rfl ?_
    refine g_icmpN_ge (tgt := 100) d_Sen_makeInstances_46 (by decide) (rfl) (rfl) (by omega) (by omega) (fun q => ?_) (fun q => ?_)
    · refine g_drop [(0, .ref (S 0)), (1, .ref (R 0)), (2, .int (nI u)), (3, .int (nI (tcn c))), (4, .int (nI x))] ⟨rfl, rfl, rfl, rfl, rfl, trivial⟩ ?_
      refine kk P h (fun e => ⟨Or.inl, fun z => z.elim id ?_⟩) (by rw [Nat.zero_mul]; exact hj)
      rintro ⟨z', z1, z2, -⟩
      omega
    · omega
  | succ r ih =>
    intro y m P h hz hm hj kk
    have hm2 := Nat.succ_mul r (tcn c)
    rw [Nat.succ_eq_add_one] at hm2
    refine g_iload d_Sen_makeInstances_43 rfl ?_
    refine g_iload_n d_Sen_makeInstances_45 rfl ?_
    refine g_icmpN_ge (tgt := 100) d_Sen_makeInstances_46 (by decide) (rfl) (rfl) (by omega) (by omega) (fun q => ?_) (fun q => ?_)
    · omega
    · refine g_iconst (v := nI 0) d_Sen_makeInstances_49 (by decide) ?_
      refine g_istore d_Sen_makeInstances_50 (Nat.le_of_ble_eq_true rfl) rfl ?_
      refine l_Sen_z hst hS hSR hq hl hA hc8 hx (y := y) (by omega) (tcn c) 0 m P h (by omega) (by omega) hj fun P1 h1 e1 j1 => ?_
      refine g_iinc d_Sen_makeInstances_94 rfl (nI_inc _) (Nat.le_of_ble_eq_true rfl) rfl ?_
      refine g_goto (tgt := 43) d_Sen_makeInstances_97 (by decide) ?_
      refine ih (y + 1) (m + tcn c) P1 h1 (by omega) (by omega) j1 fun P' h' e2 e3 => kk P' h' (fun e => (e2 e).trans ?_) (by rw [show m + tcn c + r * tcn c = m + (r + 1) * tcn c by omega] at e3; exact e3)
      rw [e1 e]
      constructor
      · rintro ((a | ⟨z', -, b2, b3⟩) | ⟨y', b1, b2, b3⟩)
        · exact Or.inl a
        · exact Or.inr ⟨y, Nat.le_refl _, by omega, z', b2, b3⟩
        · exact Or.inr ⟨y', by omega, b2, b3⟩
      · rintro (a | ⟨y', b1, b2, z', b3, b4⟩)
        · exact Or.inl (Or.inl a)
        · by_cases e : y' = y
          · subst e
            exact Or.inl (Or.inr ⟨z', Nat.zero_le _, b3, b4⟩)
          · exact Or.inr ⟨y', by omega, b2, z', b3, b4⟩
theorem l_Sen_x {K : gK} (hst : K.1.stackTraces = false) {h0 : gH} {S R : Nat → Nat} (hS : gNj S 40) (hSR : ∀ i, i < 40 → ∀ j, j < 102 → R j ≠ S i) {k : Int32} {kr c u : Nat} {P0 : Nat → Prop} {w w' : Nat → Int32} {sz : Nat → Nat} {lt : Nat → gLD} {c' : Nat} (hq : u < 12) (hl : ∀ i, i < sz u → lok c w (lt (4 * u + i))) (hA : atc w c ≤ 12) (hc8 : c < 8) {Q : Outcome → gH → Prop} : ∀ (r x m : Nat) (P : Nat → Prop) (h : gH), x + r = tcn c → m + r * (tcn c * tcn c) ≤ 27 → gSj h0 h S R k kr c c' u m w w' sz lt P0 P →
    (∀ (P' : Nat → Prop) (h' : gH), (∀ e, P' e ↔ P e ∨ ∃ x', x ≤ x' ∧ x' < tcn c ∧ ∃ y', y' < tcn c ∧ ∃ z', z' < tcn c ∧ cod c w sz lt u (vof c x' y' z') = some e) → gSj h0 h' S R k kr c c' u (m + r * (tcn c * tcn c)) w w' sz lt P0 P' → Go K M_Sen_makeInstances r_Sen_makeInstances 106 [(0, .ref (S 0)), (1, .ref (R 0)), (2, .int (nI u)), (3, .int (nI (tcn c)))] [] h' 0 0 Q) →
    Go K M_Sen_makeInstances r_Sen_makeInstances 34 [(0, .ref (S 0)), (1, .ref (R 0)), (2, .int (nI u)), (3, .int (nI (tcn c))), (4, .int (nI x))] [] h 0 0 Q := by
  have h3 := tcn_le c
  intro r
  induction r with
  | zero =>
    intro x m P h hz hm hj kk
    refine g_iload d_Sen_makeInstances_34 rfl ?_
    refine g_iload_n d_Sen_makeInstances_36 rfl ?_
    refine g_icmpN_ge (tgt := 106) d_Sen_makeInstances_37 (by decide) (rfl) (rfl) (by omega) (by omega) (fun q => ?_) (fun q => ?_)
    · refine g_drop [(0, .ref (S 0)), (1, .ref (R 0)), (2, .int (nI u)), (3, .int (nI (tcn c)))] ⟨rfl, rfl, rfl, rfl, trivial⟩ ?_
      refine kk P h (fun e => ⟨Or.inl, fun z => z.elim id ?_⟩) (by rw [Nat.zero_mul]; exact hj)
      rintro ⟨z', z1, z2, -⟩
      omega
    · omega
  | succ r ih =>
    intro x m P h hz hm hj kk
    have hm2 := Nat.succ_mul r (tcn c * tcn c)
    rw [Nat.succ_eq_add_one] at hm2
    refine g_iload d_Sen_makeInstances_34 rfl ?_
    refine g_iload_n d_Sen_makeInstances_36 rfl ?_
    refine g_icmpN_ge (tgt := 106) d_Sen_makeInstances_37 (by decide) (rfl) (rfl) (by omega) (by omega) (fun q => ?_) (fun q => ?_)
    · omega
    · refine g_iconst (v := nI 0) d_Sen_makeInstances_40 (by decide) ?_
      refine g_istore d_Sen_makeInstances_41 (Nat.le_of_ble_eq_true rfl) rfl ?_
      refine l_Sen_y hst hS hSR hq hl hA hc8 (x := x) (by omega) (tcn c) 0 m P h (by omega) (by omega) hj fun P1 h1 e1 j1 => ?_
      refine g_iinc d_Sen_makeInstances_100 rfl (nI_inc _) (Nat.le_of_ble_eq_true rfl) rfl ?_
      refine g_goto (tgt := 34) d_Sen_makeInstances_103 (by decide) ?_
      refine ih (x + 1) (m + tcn c * tcn c) P1 h1 (by omega) (by omega) j1 fun P' h' e2 e3 => kk P' h' (fun e => (e2 e).trans ?_) (by rw [show m + tcn c * tcn c + r * (tcn c * tcn c) = m + (r + 1) * (tcn c * tcn c) by omega] at e3; exact e3)
      rw [e1 e]
      constructor
      · rintro ((a | ⟨y', -, b2, b3⟩) | ⟨x', b1, b2, b3⟩)
        · exact Or.inl a
        · exact Or.inr ⟨x, Nat.le_refl _, by omega, y', b2, b3⟩
        · exact Or.inr ⟨x', by omega, b2, b3⟩
      · rintro (a | ⟨x', b1, b2, y', b3, b4⟩)
        · exact Or.inl (Or.inl a)
        · by_cases e : x' = x
          · subst e
            exact Or.inl (Or.inr ⟨y', Nat.zero_le _, b3, b4⟩)
          · exact Or.inr ⟨x', by omega, b2, y', b3, b4⟩
/-- the instances of a clause -/
def cset (c : Nat) (w : Nat → Int32) (sz : Nat → Nat) (lt : Nat → gLD) (u e : Nat) : Prop := ∃ x, x < tcn c ∧ ∃ y, y < tcn c ∧ ∃ z, z < tcn c ∧ cod c w sz lt u (vof c x y z) = some e
theorem cube_27 {n : Nat} (h : n ≤ 3) : 0 + n * (n * n) ≤ 27 := by
  rcases (show n = 0 ∨ n = 1 ∨ n = 2 ∨ n = 3 by omega) with e | e | e | e <;> subst e <;> decide
theorem tbs_all {A : Nat} (hA : A ≤ 12) {f : Nat → Int64} (hf : ∀ j, j < 64 → f j = allw A) {n : Nat} (hn : n < 64 * wcn A) : tbs f n = true ↔ n < 2 ^ A := by
  have h64 := wcn_le hA
  unfold tbs
  rw [hf _ (by omega), allw_bit A hA _ (Nat.mod_lt _ (by decide)), decide_eq_true_iff]
  by_cases h6 : A < 6
  · have : wcn A = 1 := by unfold wcn; rw [if_pos h6]
    rw [this] at hn
    rw [Nat.mod_eq_of_lt (by omega)]
    exact ⟨fun z => z.elim (fun y => by omega) id, Or.inr⟩
  · rw [← wcn_pow (by omega)]
    exact ⟨fun _ => hn, fun _ => Or.inl (by omega)⟩
theorem c_Sen_makeInstances {K : gK} {h : gH} (hst : K.1.stackTraces = false) {S R : Nat → Nat} (hS : gNj S 40) (hSR : ∀ i, i < 40 → ∀ j, j < 102 → R j ≠ S i) {k : Int32} {kr c u : Nat} {P0 : Nat → Prop} {w w' f6 fo : Nat → Int32} {sz : Nat → Nat} {lt : Nat → gLD} {c' t g : Nat} {l0 al : List Nat} (hq : u < 12) (hl : ∀ i, i < sz u → lok c w (lt (4 * u + i))) (hA : atc w c ≤ 12) (hs : gSf h S k c w f6) (h6 : ∀ i, i < 3 → isT c i → f6 i = nI (rnk c i)) (hr : gRD h R kr c' w' sz lt) (hi : gIs h (S 7) (S 8) 27 l0) (ha : gIs h (S 5) (S 6) 324 al ∧ al.Nodup ∧ (∀ e, e ∈ al ↔ P0 e) ∧ al.length ≤ 27 * u) (hu : gTu h (S (16 + u)) (S (28 + u))) (hi9 : gIn h (S 9) t g) (hu1 : gTu h (S 11) (S 12)) (ho : h (S 4) = some (.inl (0, 12, .inl fo))) :
    Ct K r_Sen_makeInstances M_Sen_makeInstances [.ref (S 0), .ref (R 0), .int (nI u)] h (gRx fun o h' => o = none ∧ ((∃ g6, gSf h' S k c w g6 ∧ ∀ i, i < 3 → isT c i → g6 i = nI (rnk c i)) ∧ gRD h' R kr c' w' sz lt ∧ gCl h' S u (atc w c) (27 * u) 27 P0 (cset c w sz lt u) ∧ gKp h h' ([4, 5, 6, 7, 8, 9, 11, 12, 15, 16 + u, 28 + u].map S)) ∧ ∃ l : List Nat, l.Nodup ∧ l.length ≤ 27 ∧ (∀ e, e ∈ l ↔ cset c w sz lt u e) ∧ h' (S 4) = some (.inl (0, 12, .inl (va_up fo u (nI l.length))))) := by
  obtain ⟨s1, s2, s3, fl, s4, s5⟩ := id hs
  obtain ⟨-, hc8, -, fv, w4, -⟩ := id s2
  have h3 := tcn_le c
  refine Ct.of hst (by decide) (Or.inl rfl) (Nat.le_of_ble_eq_true rfl) ?_
  refine g_aload_n d_Sen_makeInstances_0 rfl ?_
  refine g_get d_Sen_makeInstances_1 f_Sen_31 (s1) rfl ?_
  refine g_callX (c_Iset_clear hst hi) gm_Iset_clear d_Sen_makeInstances_4 (gInv_v (As := []) (rest := []) d_Sen_makeInstances_4 gm_Iset_clear gv_Sen_70 (hi.2.2.2.choose_spec.1) rfl) (Nat.le_of_ble_eq_true rfl) (Nat.le_of_ble_eq_true rfl) (Nat.le_of_ble_eq_true rfl) (Nat.le_of_ble_eq_true rfl) (Nat.le_of_ble_eq_true rfl) (fun v h1 hp => ?_)
  obtain ⟨rfl, i1, k1⟩ := hp
  have e1 : ∀ {i : Nat}, i < 40 → i ∉ [7] → h1 (S i) = h (S i) := fun hi hn => gKp.S hS [7] k1 hi (by decide) hn
  have s1' := (e1 (i := 0) (by decide) (by decide)).trans s1
  have u1 := hu.of (e1 (by omega) (by simp; omega)) (e1 (by omega) (by simp; omega))
  refine g_aload_n d_Sen_makeInstances_7 rfl ?_
  refine g_get d_Sen_makeInstances_8 f_Sen_43 (s1') rfl ?_
  refine g_iload_n d_Sen_makeInstances_11 rfl ?_
  refine g_aald d_Sen_makeInstances_12 (Or.inr rfl) ((e1 (i := 10) (by decide) (by decide)).trans s4) (rfl) (hq) (by decide) (s5 u hq) ?_
  refine g_aload_n d_Sen_makeInstances_13 rfl ?_
  refine g_get d_Sen_makeInstances_14 f_Sen_12 (s1') rfl ?_
  refine g_get d_Sen_makeInstances_17 f_Sen_84 ((e1 (i := 1) (by decide) (by decide)).trans w4) rfl ?_
  refine g_callX (c_Tab_fill hst u1 hA) gm_Tab_fill d_Sen_makeInstances_20 (gInv_v (As := [.int (nI (atc w c))]) (rest := []) d_Sen_makeInstances_20 gm_Tab_fill gv_Sen_87 (u1.choose_spec.choose_spec.choose_spec.1) rfl) (Nat.le_of_ble_eq_true rfl) (Nat.le_of_ble_eq_true rfl) (Nat.le_of_ble_eq_true rfl) (Nat.le_of_ble_eq_true rfl) (Nat.le_of_ble_eq_true rfl) (fun v2 h2 hp => ?_)
  obtain ⟨rfl, ff, f1, f2, k2⟩ := hp
  have e2 : ∀ {i : Nat}, i < 40 → i ∉ [16 + u, 28 + u] → h2 (S i) = h1 (S i) := fun hi hn => gKp.S hS [16 + u, 28 + u] k2 hi (by simp; omega) hn
  have s2' := (e2 (i := 0) (by decide) (by simp; omega)).trans s1'
  have v2' := (e2 (i := 1) (by decide) (by simp; omega)).trans ((e1 (i := 1) (by decide) (by decide)).trans w4)
  refine g_aload_n d_Sen_makeInstances_23 rfl ?_
  refine g_get d_Sen_makeInstances_24 f_Sen_12 (s2') rfl ?_
  refine g_get d_Sen_makeInstances_27 f_Sen_106 (v2') rfl ?_
  refine g_istore_n d_Sen_makeInstances_30 rfl (Nat.le_of_ble_eq_true rfl) rfl ?_
  refine g_iconst (v := nI 0) d_Sen_makeInstances_31 (by decide) ?_
  refine g_istore d_Sen_makeInstances_32 (Nat.le_of_ble_eq_true rfl) rfl ?_
  have e12 : ∀ {i : Nat}, i < 40 → i ∉ [7, 16 + u, 28 + u] → h2 (S i) = h (S i) := fun {i} hi hn => (e2 hi (fun z => hn (List.mem_cons_of_mem _ z))).trans (e1 hi (fun z => hn (by simp only [List.mem_singleton] at z; rw [z]; simp)))
  have k12 : gKp h h2 ([5, 6, 7, 8, 9, 11, 12, 15, 16 + u, 28 + u].map S) := (k1.mono (by simp)).tr (k2.mono (by simp))
  have j0 : gSj h h2 S R k kr c c' u 0 w w' sz lt P0 (fun _ => False) := by
    refine ⟨⟨f6, hs.of (e12 (by decide) (by simp; omega)) (e12 (by decide) (by simp; omega)) (e12 (by decide) (by simp; omega)) (e12 (by decide) (by simp; omega)) (e12 (by decide) (by simp; omega)) (e12 (by decide) (by simp; omega)), h6⟩, hr.of fun i hi => gKp.R hSR _ k12 hi (by simp; omega), ⟨[], al, ff, t, g, ⟨i1.of (e2 (by decide) (by simp; omega)) (e2 (by decide) (by simp; omega)), List.nodup_nil, fun e => by simp, Nat.le_refl _⟩, ⟨ha.1.of (e12 (by decide) (by simp; omega)) (e12 (by decide) (by simp; omega)), ha.2.1, fun e => (ha.2.2.1 e).trans (by simp), ha.2.2.2⟩, ⟨f1, fun n hn => (tbs_all hA f2 hn).trans (by simp)⟩, hi9.of (e12 (by decide) (by simp; omega)), hu1.of (e12 (by decide) (by simp; omega)) (e12 (by decide) (by simp; omega))⟩, k12⟩
  refine l_Sen_x hst hS hSR hq hl hA hc8 (tcn c) 0 0 (fun _ => False) h2 (by omega) (cube_27 h3) j0 fun P' h3 e3 j3 => ?_
  obtain ⟨⟨g6, j31, j32⟩, j33, j34, j35⟩ := id j3
  have hP : ∀ e, P' e ↔ cset c w sz lt u e := fun e => (e3 e).trans ⟨fun z => z.elim False.elim fun ⟨x, _, a, b⟩ => ⟨x, a, b⟩, fun ⟨x, a, b⟩ => Or.inr ⟨x, Nat.zero_le _, a, b⟩⟩
  have j36 := j34.iff (cube_27 (tcn_le c)) hP
  obtain ⟨l, al', ft, t0, g0, ⟨c1, c2, c3, c4⟩, -⟩ := id j36
  have s3' := j31.1
  have o3 : h3 (S 4) = some (.inl (0, 12, .inl fo)) := (gKp.S hS _ j35 (i := 4) (by decide) (by simp; omega) (by simp; omega)).trans ho
  have c1' := c1.2.2.2.choose_spec.1
  refine g_aload_n d_Sen_makeInstances_106 rfl ?_
  refine g_get d_Sen_makeInstances_107 f_Sen_18 (s3') rfl ?_
  refine g_iload_n d_Sen_makeInstances_110 rfl ?_
  refine g_aload_n d_Sen_makeInstances_111 rfl ?_
  refine g_get d_Sen_makeInstances_112 f_Sen_31 (s3') rfl ?_
  refine g_get d_Sen_makeInstances_115 f_Sen_81 (c1') rfl ?_
  refine g_iast d_Sen_makeInstances_118 (o3) (rfl) (hq) (by decide) ?_
  have k4 : gKp h3 (gup h3 (S 4) (.inl (0, 12, .inl (va_up fo u (nI l.length))))) ([4].map S) := gKp.rf.up (by simp)
  have e4 : ∀ {i : Nat}, i < 40 → i ∉ [4] → gup h3 (S 4) (.inl (0, 12, .inl (va_up fo u (nI l.length)))) (S i) = h3 (S i) := fun hi hn => gKp.S hS [4] k4 hi (by decide) hn
  refine g_ret_v d_Sen_makeInstances_119 rfl ⟨_, rfl, rfl, ⟨⟨g6, j31.of (e4 (by decide) (by decide)) (e4 (by decide) (by decide)) (e4 (by decide) (by decide)) (e4 (by decide) (by decide)) (e4 (by decide) (by decide)) (e4 (by decide) (by decide)), j32⟩, j33.of fun i hi => gKp.R hSR [4] k4 hi (by decide), j36.of fun i hi => e4 (by omega) (by simp; omega), (j35.mono (by simp)).tr (k4.mono (by simp))⟩, l, c2, c4, c3, gup_s _ _ _⟩
