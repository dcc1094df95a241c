/-! ===== Reader.readJoint, findFault ===== -/
/-- where a joint leads: how many clauses have begun behind it -/
def rdJ (tx : List Nat) (k p s : Nat) : Option Nat := if tx.getD p 0 = 38 ∧ k < 12 then some (k + 1) else if tx.getD p 0 = 124 ∧ s < 4 then some k else none
def rdJh (h : gH) (a va la ca k p : Nat) : Option Nat → gH
  | none => h
  | some k' => gup h a (.inr (4, [.ref va, .ref la, .ref ca, .int (nI k'), .int (nI (p + 1))]))
theorem c_Rd_readJoint {K : gK} {h : gH} (hst : K.1.stackTraces = false) {a va la ca ta tca k p : Nat} {tx : List Nat} {sz : Nat → Nat} (hk : 1 ≤ k ∧ k ≤ 12) (hp : p ≤ tx.length) (hR : h a = some (.inr (4, [.ref va, .ref la, .ref ca, .int (nI k), .int (nI p)]))) (ht : gTx h ta tca tx) (hs : gSz h ca sz) (hs4 : sz (k - 1) ≤ 4) :
    Ct K r_Rd_readJoint M_Rd_readJoint [.ref a, .ref ta] h (gRt (some (.int (bI (rdJ tx k p (sz (k - 1))).isSome))) (rdJh h a va la ca k p (rdJ tx k p (sz (k - 1))))) := by
  have h96 : tx.length ≤ 96 := ht.choose_spec.2.2.1
  have hch := ht.chr p
  obtain ⟨fs, s1, s2⟩ := id hs
  have goOn : ∀ k', rdJ tx k p (sz (k - 1)) = some k' → ∀ h2, h2 a = some (.inr (4, [.ref va, .ref la, .ref ca, .int (nI k'), .int (nI p)])) → gup h2 a (.inr (4, [.ref va, .ref la, .ref ca, .int (nI k'), .int (nI (p + 1))])) = gup h a (.inr (4, [.ref va, .ref la, .ref ca, .int (nI k'), .int (nI (p + 1))])) →
      Go K M_Rd_readJoint r_Rd_readJoint 60 [(0, .ref a), (1, .ref ta), (2, .int (nI (tx.getD p 0)))] [] h2 0 0 (gRt (some (.int (bI (rdJ tx k p (sz (k - 1))).isSome))) (rdJh h a va la ca k p (rdJ tx k p (sz (k - 1))))) := by
    intro k' ek h2 h2a he
    refine g_aload_n d_Rd_readJoint_60 rfl ?_
    refine g_dup d_Rd_readJoint_61 rfl ?_
    refine g_get d_Rd_readJoint_62 f_Rd_29 (h2a) rfl ?_
    refine g_iconst (v := nI 1) d_Rd_readJoint_65 (by decide) ?_
    refine g_iadd d_Rd_readJoint_66 ?_
    refine g_put (fs' := [_, _, _, _, _]) d_Rd_readJoint_67 f_Rd_29 (h2a) rfl rfl (Nat.le_of_ble_eq_true rfl) rfl ?_
    refine g_iconst (v := nI 1) d_Rd_readJoint_70 (by decide) ?_
    rw [nI_add, he]
    refine g_ret_i d_Rd_readJoint_71 rfl rfl ?_
    rw [ek]
    exact ⟨rfl, rfl⟩
  have second : (¬ (tx.getD p 0 = 38 ∧ k < 12)) → Go K M_Rd_readJoint r_Rd_readJoint 37 [(0, .ref a), (1, .ref ta), (2, .int (nI (tx.getD p 0)))] [] h 0 0 (gRt (some (.int (bI (rdJ tx k p (sz (k - 1))).isSome))) (rdJh h a va la ca k p (rdJ tx k p (sz (k - 1))))) := by
    intro hno
    have bad : ¬ (tx.getD p 0 = 124 ∧ sz (k - 1) < 4) → Go K M_Rd_readJoint r_Rd_readJoint 58 [(0, .ref a), (1, .ref ta), (2, .int (nI (tx.getD p 0)))] [] h 0 0 (gRt (some (.int (bI (rdJ tx k p (sz (k - 1))).isSome))) (rdJh h a va la ca k p (rdJ tx k p (sz (k - 1))))) := by
      intro hno2
      have e : rdJ tx k p (sz (k - 1)) = none := by
        unfold rdJ
        rw [if_neg hno, if_neg hno2]
      rw [e]
      refine g_iconst (v := nI 0) d_Rd_readJoint_58 (by decide) ?_
      exact g_ret_i d_Rd_readJoint_59 rfl rfl ⟨rfl, rfl⟩
    refine g_iload_n d_Rd_readJoint_37 rfl ?_
    refine g_bipush (v := nI 124) d_Rd_readJoint_38 (by decide) ?_
    refine g_icmpN_ne (tgt := 58) d_Rd_readJoint_40 (by decide) (rfl) (rfl) (by omega) (by decide) (fun q => ?_) (fun q => ?_)
    · exact bad fun z => q z.1
    · refine g_aload_n d_Rd_readJoint_43 rfl ?_
      refine g_get d_Rd_readJoint_44 f_Rd_24 (hR) rfl ?_
      refine g_aload_n d_Rd_readJoint_47 rfl ?_
      refine g_get d_Rd_readJoint_48 f_Rd_42 (hR) rfl ?_
      refine g_iconst (v := nI 1) d_Rd_readJoint_51 (by decide) ?_
      refine g_isub d_Rd_readJoint_52 ?_
      rw [pk_sub hk.1]
      refine g_iald d_Rd_readJoint_53 (s1) (rfl) (by omega) (by decide) ?_
      refine g_iconst (v := nI 4) d_Rd_readJoint_54 (by decide) ?_
      rw [s2 (k - 1) (by omega)]
      refine g_icmpN_lt (tgt := 60) d_Rd_readJoint_55 (by decide) (rfl) (rfl) (by omega) (by decide) (fun q => ?_) (fun q => ?_)
      · refine goOn k ?_ h hR rfl
        unfold rdJ
        rw [if_neg hno, if_pos ⟨by assumption, q⟩]
      · exact bad fun z => absurd z.2 (Nat.not_lt.mpr q)
  refine Ct.of hst (by decide) (Or.inl rfl) (Nat.le_of_ble_eq_true rfl) ?_
  refine g_aload_n d_Rd_readJoint_0 rfl ?_
  refine g_aload_n d_Rd_readJoint_1 rfl ?_
  refine g_get d_Rd_readJoint_2 f_Rd_29 (hR) rfl ?_
  refine g_callR (c_Text_at hst ht (by omega)) gm_Text_at d_Rd_readJoint_5 (gInv_v (As := [.int (nI p)]) (rest := []) d_Rd_readJoint_5 gm_Text_at gv_Rd_61 (ht.choose_spec.1) rfl) (Nat.le_of_ble_eq_true rfl) (Nat.le_of_ble_eq_true rfl) (Nat.le_of_ble_eq_true rfl) (Nat.le_of_ble_eq_true rfl) (Nat.le_of_ble_eq_true rfl) ?_
  refine g_istore_n d_Rd_readJoint_8 rfl (Nat.le_of_ble_eq_true rfl) rfl ?_
  refine g_iload_n d_Rd_readJoint_9 rfl ?_
  refine g_bipush (v := nI 38) d_Rd_readJoint_10 (by decide) ?_
  refine g_icmpN_ne (tgt := 37) d_Rd_readJoint_12 (by decide) (rfl) (rfl) (by omega) (by decide) (fun q => ?_) (fun q => ?_)
  · exact second fun z => q z.1
  · refine g_aload_n d_Rd_readJoint_15 rfl ?_
    refine g_get d_Rd_readJoint_16 f_Rd_42 (hR) rfl ?_
    refine g_bipush (v := nI 12) d_Rd_readJoint_19 (by decide) ?_
    refine g_icmpN_ge (tgt := 37) d_Rd_readJoint_21 (by decide) (rfl) (rfl) (by omega) (by decide) (fun q => ?_) (fun q => ?_)
    · exact second fun z => absurd z.2 (Nat.not_lt.mpr q)
    · refine g_aload_n d_Rd_readJoint_24 rfl ?_
      refine g_dup d_Rd_readJoint_25 rfl ?_
      refine g_get d_Rd_readJoint_26 f_Rd_42 (hR) rfl ?_
      refine g_iconst (v := nI 1) d_Rd_readJoint_29 (by decide) ?_
      refine g_iadd d_Rd_readJoint_30 ?_
      refine g_put (fs' := [_, _, _, _, _]) d_Rd_readJoint_31 f_Rd_42 (hR) rfl rfl (Nat.le_of_ble_eq_true rfl) rfl ?_
      refine g_goto (tgt := 60) d_Rd_readJoint_34 (by decide) ?_
      rw [nI_add]
      refine goOn (k + 1) ?_ _ (gup_s _ _ _) (gup_up _ _ _ _)
      unfold rdJ
      rw [if_pos ⟨by assumption, by omega⟩]
theorem rdA_ok {tx : List Nat} {w : Nat → Int32} : ∀ (r n p c a1 a2 : Nat), p ≤ tx.length → atc w c ≤ 12 → p ≤ (rdA tx w r n p c a1 a2).2.2.1 ∧ (rdA tx w r n p c a1 a2).2.2.1 ≤ tx.length ∧ ((rdA tx w r n p c a1 a2).1 = true → atc w (rdA tx w r n p c a1 a2).2.2.2.1 ≤ 12) := by
  intro r
  induction r with
  | zero => exact fun n p c a1 a2 hp hc => ⟨Nat.le_refl _, hp, fun _ => hc⟩
  | succ r ih =>
    intro n p c a1 a2 hp hc
    unfold rdA
    cases e : arg (tx.getD p 0) with
    | none => exact ⟨Nat.le_refl _, hp, fun _ => hc⟩
    | some a =>
      have hlt := getD_len (arg_lt e).2
      dsimp only
      by_cases h12 : 12 < atc w (if a < 3 then c ||| 2 ^ a else c)
      · rw [if_pos h12]
        exact ⟨Nat.le_refl _, hp, fun z => (by cases z)⟩
      · rw [if_neg h12]
        obtain ⟨i1, i2, i3⟩ := ih (n + 1) (p + 1) (if a < 3 then c ||| 2 ^ a else c) (if n = 0 then a else a1) (if n = 1 then a else a2) hlt (Nat.not_lt.mp h12)
        exact ⟨by omega, i2, i3⟩
theorem rdT_ok {tx : List Nat} {w : Nat → Int32} {x r n p c a1 a2 : Nat} (hp : p ≤ tx.length) (hc : atc w c ≤ 12) : p ≤ (rdT w x (rdA tx w r n p c a1 a2)).2.1 ∧ (rdT w x (rdA tx w r n p c a1 a2)).2.1 ≤ tx.length ∧ ((rdT w x (rdA tx w r n p c a1 a2)).1 = true → atc (rdT w x (rdA tx w r n p c a1 a2)).2.2.1 (rdT w x (rdA tx w r n p c a1 a2)).2.2.2.1 ≤ 12) := by
  obtain ⟨i1, i2, i3⟩ := rdA_ok (w := w) r n p c a1 a2 hp hc
  generalize rdA tx w r n p c a1 a2 = z at i1 i2 i3 ⊢
  unfold rdT
  by_cases e : z.1 = false
  · rw [if_pos e]
    exact ⟨i1, i2, fun z => (by cases z)⟩
  · rw [if_neg e]
    by_cases e2 : w x = -1
    · rw [if_pos e2]
      exact ⟨i1, i2, fun z => of_decide_eq_true z⟩
    · rw [if_neg e2]
      exact ⟨i1, i2, fun _ => i3 (by simpa using e)⟩
theorem rdL_ok {tx : List Nat} {w : Nat → Int32} {c p : Nat} (hp : p ≤ tx.length) (hc : atc w c ≤ 12) : (rdL tx w c p).2.1 ≤ tx.length ∧ ((rdL tx w c p).1 = true → p < (rdL tx w c p).2.1 ∧ atc (rdL tx w c p).2.2.1 (rdL tx w c p).2.2.2.1 ≤ 12) := by
  have hq := rdN_le hp
  have hqp : p ≤ rdN tx p := by unfold rdN; split <;> omega
  unfold rdL
  cases e : prd (tx.getD (rdN tx p) 0) with
  | none => exact ⟨hq, fun z => (by cases z)⟩
  | some x =>
    have hlt := getD_len (prd_lt e).2
    obtain ⟨i1, i2, i3⟩ := rdT_ok (x := x) (r := mst w x) (n := 0) (p := rdN tx p + 1) (a1 := 0) (a2 := 0) hlt hc
    exact ⟨i2, fun z => ⟨by dsimp only; omega, i3 z⟩⟩
/-- a literal's words: (negative, predicate, how many, first, second) -/
abbrev gLD := Bool × Nat × Nat × Nat × Nat
/-- the whole text: (fault, clauses, constants, widths, sizes, literals) -/
def rdG (tx : List Nat) : Nat → Nat → Nat → Nat → (Nat → Int32) → (Nat → Nat) → (Nat → gLD) → Option Nat × Nat × Nat × (Nat → Int32) × (Nat → Nat) × (Nat → gLD)
  | 0, k, p, c, w, sz, lt => (some p, k, c, w, sz, lt)
  | n + 1, k, p, c, w, sz, lt =>
    if (rdL tx w c p).1 = false then (some (rdL tx w c p).2.1, k, c, w, sz, lt)
    else if (rdL tx w c p).2.1 = tx.length then (none, k, (rdL tx w c p).2.2.2.1, (rdL tx w c p).2.2.1, va_up sz (k - 1) (sz (k - 1) + 1), va_up lt (4 * (k - 1) + sz (k - 1)) (rdL tx w c p).2.2.2.2)
    else match rdJ tx k (rdL tx w c p).2.1 (sz (k - 1) + 1) with
      | none => (some (rdL tx w c p).2.1, k, c, w, sz, lt)
      | some k' => rdG tx n k' ((rdL tx w c p).2.1 + 1) (rdL tx w c p).2.2.2.1 (rdL tx w c p).2.2.1 (va_up sz (k - 1) (sz (k - 1) + 1)) (va_up lt (4 * (k - 1) + sz (k - 1)) (rdL tx w c p).2.2.2.2)
/-- the reader's row of literals -/
def gLs (h : gH) (la : Nat) (L G : Nat → Nat) : Prop := (∃ fl : Nat → Option Nat, h la = some (.inl (4, 48, .inr (.inr (.inr (.inr fl))))) ∧ ∀ j, j < 48 → fl j = some (L j)) ∧ (∀ j, j < 48 → gLu h (L j) (G j)) ∧ (∀ i, i < 48 → ∀ j, j < 48 → L i = L j → i = j) ∧ ∀ i, i < 48 → ∀ j, j < 48 → G i = G j → i = j
/-- the literals that have been read -/
def gLd (h : gH) (L G : Nat → Nat) (sz : Nat → Nat) (lt : Nat → gLD) : Prop := ∀ i, i < 12 → ∀ j, j < sz i → gLr h (L (4 * i + j)) (G (4 * i + j)) (lt (4 * i + j))
/-- the cells that reading may change -/
def rdO (a va vaa vfa ca : Nat) (L G : Nat → Nat) (x : Nat) : Prop := x ∈ [a, va, vaa, vfa, ca] ∨ ∃ j, j < 48 ∧ (x = L j ∨ x = G j)
def gKP (h h' : gH) (P : Nat → Prop) : Prop := ∀ x, ¬ P x → h' x = h x
theorem gKP.rf {h : gH} {P : Nat → Prop} : gKP h h P := fun _ _ => rfl
theorem gKP.tr {h h' h'' : gH} {P : Nat → Prop} (a : gKP h h' P) (b : gKP h' h'' P) : gKP h h'' P := fun x hx => (b x hx).trans (a x hx)
theorem gKp.P {h h' : gH} {L : List Nat} {P : Nat → Prop} (a : gKp h h' L) (hL : ∀ x ∈ L, P x) : gKP h h' P := fun x hx => a x fun z => hx (hL x z)
/-- a reader, whatever it holds -/
def gRu (h : gH) (a va vaa vfa la ca : Nat) (L G : Nat → Nat) : Prop := (∃ k p : Int32, h a = some (.inr (4, [.ref va, .ref la, .ref ca, .int k, .int p]))) ∧ (∃ w c, gVu h va vaa vfa w c) ∧ (∃ f : Nat → Int32, h ca = some (.inl (0, 12, .inl f))) ∧ gLs h la L G
/-- .. and one that has read a text -/
def gRd (h : gH) (a va vaa vfa la ca : Nat) (L G : Nat → Nat) (k c : Nat) (w : Nat → Int32) (sz : Nat → Nat) (lt : Nat → gLD) : Prop := (∃ p : Int32, h a = some (.inr (4, [.ref va, .ref la, .ref ca, .int (nI k), .int p]))) ∧ gVc h va vaa vfa w c ∧ gSz h ca sz ∧ gLs h la L G ∧ gLd h L G sz lt
theorem gRd.u {h : gH} {a va vaa vfa la ca k c : Nat} {L G : Nat → Nat} {w : Nat → Int32} {sz : Nat → Nat} {lt : Nat → gLD} (hr : gRd h a va vaa vfa la ca L G k c w sz lt) : gRu h a va vaa vfa la ca L G := by
  obtain ⟨⟨p, h1⟩, h2, ⟨f, h3, -⟩, h4, -⟩ := hr
  exact ⟨⟨_, p, h1⟩, ⟨_, _, h2.u⟩, ⟨f, h3⟩, h4⟩
/-- a literal has been read: the others are as they were -/
theorem gLs.rd {h h' : gH} {la a va vaa vfa ca j0 c : Nat} {L G : Nat → Nat} {w : Nat → Int32} {v1 v2 v3 v4 u0 : Value} {sz : Nat → Nat} (hl : gLs h la L G) (hj : j0 < 48) (h1 : h a = some (.inr (4, [v1, v2, v3, v4, u0]))) (hv : gVu h va vaa vfa w c) (hs : gSz h ca sz) (hk : gKp h h' [a, va, vaa, vfa, ca, L j0, G j0]) (hn : gLu h' (L j0) (G j0)) : gLs h' la L G ∧ ∀ j, j < 48 → j ≠ j0 → h' (L j) = h (L j) ∧ h' (G j) = h (G j) := by
  obtain ⟨⟨fl, l1, l2⟩, l3, l4, l5⟩ := hl
  obtain ⟨-, -, -, f, u3, u4, q4, q5, q6⟩ := hv
  obtain ⟨fs, s1, -⟩ := hs
  obtain ⟨b0, p0, z1, y1, z2, -⟩ := l3 j0 hj
  have same : ∀ j, j < 48 → j ≠ j0 → h' (L j) = h (L j) ∧ h' (G j) = h (G j) := by
    intro j hj1 hne
    obtain ⟨b1, p1, m1, y2, m2, -⟩ := l3 j hj1
    refine ⟨hk _ ?_, hk _ ?_⟩
    · have := gne m1 h1 (by simp)
      have := gne m1 q4 (by simp)
      have := gne m1 q5 (by simp)
      have := gne m1 q6 (by simp)
      have := gne m1 s1 (by simp)
      have := gne m1 z2 (by simp)
      have : L j ≠ L j0 := fun z => hne (l4 j hj1 j0 hj z)
      simp [*]
    · have := gne m2 h1 (by simp)
      have := gne m2 q4 (by simp)
      have := gne m2 q5 (by simp)
      have := gne m2 q6 (by simp)
      have := gne m2 s1 (by simp)
      have := gne m2 z1 (by simp)
      have : G j ≠ G j0 := fun z => hne (l5 j hj1 j0 hj z)
      simp [*]
  refine ⟨⟨⟨fl, (hk la ?_).trans l1, l2⟩, fun j hj1 => ?_, l4, l5⟩, same⟩
  · have := gne l1 h1 (by simp)
    have := gne l1 q4 (by simp)
    have := gne l1 q5 (by simp)
    have := gne l1 q6 (by simp)
    have := gne l1 s1 (by simp)
    have := gne l1 z1 (by simp)
    have := gne l1 z2 (by simp)
    simp [*]
  · by_cases e : j = j0
    · rw [e]
      exact hn
    · obtain ⟨b1, p1, m1, y2, m2⟩ := l3 j hj1
      obtain ⟨s1, s2⟩ := same j hj1 e
      exact ⟨b1, p1, s1.trans m1, y2, s2.trans m2.1, m2.2⟩
