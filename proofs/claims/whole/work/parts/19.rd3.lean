/-! ===== Reader.readArguments, literal, readLiteral ===== -/
def mst (w : Nat → Int32) (x : Nat) : Nat := if w x = -1 then 2 else (w x).toNatClampNeg
theorem mst_ok {w : Nat → Int32} (hw : wok w) {x : Nat} (hx : x < 4) : mst w x ≤ 2 ∧ (¬ w x = -1 → w x = nI (mst w x)) := by
  unfold mst
  rcases hw x hx with e | e | e | e <;> rw [e] <;> exact ⟨by decide, by decide⟩
theorem c_Rd_readArguments {K : gK} {h : gH} (hst : K.1.stackTraces = false) {a va vaa vfa g l ta tca x p c : Nat} {v1 v2 v3 v0 : Value} {tx : List Nat} {w : Nat → Int32} (hx : x < 4) (hp : p ≤ tx.length) (hR : h a = some (.inr (4, [.ref va, v1, v2, v3, .int (nI p)]))) (hv : gVc h va vaa vfa w c) (ht : gTx h ta tca tx) (hl : h l = some (.inr (3, [v0, .int (nI x), .ref g]))) (hg : gAr h g 0 0 0) (hc : atc w c ≤ 12) :
    Ct K r_Rd_readArguments M_Rd_readArguments [.ref a, .ref ta, .ref l] h (gRx (rdP h a va vaa vfa g v1 v2 v3 (rdT w x (rdA tx w (mst w x) 0 p c 0 0)))) := by
  obtain ⟨hwok, hc8, hne, f, w4, w5, w6, w7⟩ := id hv
  obtain ⟨m1, m2⟩ := mst_ok hwok hx
  refine Ct.of hst (by decide) (Or.inl rfl) (Nat.le_of_ble_eq_true rfl) ?_
  refine g_aload_n d_Rd_readArguments_0 rfl ?_
  refine g_get d_Rd_readArguments_1 f_Rd_12 (hR) rfl ?_
  refine g_get d_Rd_readArguments_4 f_Rd_80 (w4) rfl ?_
  refine g_aload_n d_Rd_readArguments_7 rfl ?_
  refine g_get d_Rd_readArguments_8 f_Rd_73 (hl) rfl ?_
  refine g_iald d_Rd_readArguments_11 (w5) (rfl) (hx) (by decide) ?_
  refine g_istore_n d_Rd_readArguments_12 rfl (Nat.le_of_ble_eq_true rfl) rfl ?_
  refine g_iload_n d_Rd_readArguments_13 rfl ?_
  refine g_iconst (v := -1) d_Rd_readArguments_14 (by decide) ?_
  refine g_icmp_ne (tgt := 22) d_Rd_readArguments_15 (by decide) (fun q => ?_) (fun q => ?_)
  · refine g_iload_n d_Rd_readArguments_22 rfl ?_
    refine g_istore d_Rd_readArguments_23 (Nat.le_of_ble_eq_true rfl) rfl ?_
    refine g_iconst (v := nI 0) d_Rd_readArguments_25 (by decide) ?_
    refine g_istore d_Rd_readArguments_26 (Nat.le_of_ble_eq_true rfl) rfl ?_
    have key := l_Rd_readArgs (v3 := v3) hst hx m1 (mst w x) 0 p c 0 0 h (by omega) hp hR hv ht hl hg hc
    rw [← m2 q] at key
    exact key
  · refine g_iconst (v := nI 2) d_Rd_readArguments_18 (by decide) ?_
    refine g_goto (tgt := 23) d_Rd_readArguments_19 (by decide) ?_
    refine g_istore d_Rd_readArguments_23 (Nat.le_of_ble_eq_true rfl) rfl ?_
    refine g_iconst (v := nI 0) d_Rd_readArguments_25 (by decide) ?_
    refine g_istore d_Rd_readArguments_26 (Nat.le_of_ble_eq_true rfl) rfl ?_
    have e : mst w x = 2 := by
      unfold mst
      rw [if_pos q]
    rw [e]
    exact l_Rd_readArgs (v3 := v3) hst hx (by decide) 2 0 p c 0 0 h (by omega) hp hR hv ht hl hg hc
theorem c_Rd_literal {K : gK} {h : gH} (hst : K.1.stackTraces = false) {a la k i b : Nat} {v0 v2 v3 v4 : Value} {fl : Nat → Option Nat} (hR : h a = some (.inr (4, [v0, .ref la, v2, v3, v4]))) (hla : h la = some (.inl (4, 48, .inr (.inr (.inr (.inr fl)))))) (hj : 4 * k + i < 48) (hb : fl (4 * k + i) = some b) : Ct K r_Rd_literal M_Rd_literal [.ref a, .int (nI k), .int (nI i)] h (gRt (some (.ref b)) h) := by
  refine Ct.of hst (by decide) (Or.inl rfl) (Nat.le_of_ble_eq_true rfl) ?_
  refine g_aload_n d_Rd_literal_0 rfl ?_
  refine g_get d_Rd_literal_1 f_Rd_20 (hR) rfl ?_
  refine g_iload_n d_Rd_literal_4 rfl ?_
  refine g_iconst (v := nI 4) d_Rd_literal_5 (by decide) ?_
  refine g_imul d_Rd_literal_6 ?_
  refine g_iload_n d_Rd_literal_7 rfl ?_
  refine g_iadd d_Rd_literal_8 ?_
  rw [pk_mul, nI_add, show k * 4 + i = 4 * k + i by omega]
  refine g_aald d_Rd_literal_9 (Or.inl rfl) (hla) (rfl) (hj) (by decide) (hb) ?_
  exact g_ret_a d_Rd_literal_10 rfl ⟨rfl, rfl⟩
/-- the place behind a '-' -/
def rdN (tx : List Nat) (p : Nat) : Nat := if tx.getD p 0 = 45 then p + 1 else p
theorem rdN_le {tx : List Nat} {p : Nat} (hp : p ≤ tx.length) : rdN tx p ≤ tx.length := by
  unfold rdN
  split
  · have : tx.getD p 0 ≠ 0 := by omega
    exact getD_len this
  · exact hp
/-- a literal: (good, place, widths, constants, (negative, predicate, how many, first, second)) -/
def rdL (tx : List Nat) (w : Nat → Int32) (c p : Nat) : Bool × Nat × (Nat → Int32) × Nat × Bool × Nat × Nat × Nat × Nat := match prd (tx.getD (rdN tx p) 0) with
  | none => (false, rdN tx p, w, c, decide (tx.getD p 0 = 45), 0, 0, 0, 0)
  | some x => ((rdT w x (rdA tx w (mst w x) 0 (rdN tx p + 1) c 0 0)).1, (rdT w x (rdA tx w (mst w x) 0 (rdN tx p + 1) c 0 0)).2.1, (rdT w x (rdA tx w (mst w x) 0 (rdN tx p + 1) c 0 0)).2.2.1, (rdT w x (rdA tx w (mst w x) 0 (rdN tx p + 1) c 0 0)).2.2.2.1, decide (tx.getD p 0 = 45), x, (rdT w x (rdA tx w (mst w x) 0 (rdN tx p + 1) c 0 0)).2.2.2.2.1, (rdT w x (rdA tx w (mst w x) 0 (rdN tx p + 1) c 0 0)).2.2.2.2.2.1, (rdT w x (rdA tx w (mst w x) 0 (rdN tx p + 1) c 0 0)).2.2.2.2.2.2)
/-- a literal's cells, whatever they hold -/
def gLu (h : gH) (l g : Nat) : Prop := ∃ (b pr : Int32), h l = some (.inr (3, [.int b, .int pr, .ref g])) ∧ gAr h g 0 0 0
/-- a literal that was read -/
def gLr (h : gH) (l g : Nat) (z : Bool × Nat × Nat × Nat × Nat) : Prop := h l = some (.inr (3, [.int (bI z.1), .int (nI z.2.1), .ref g])) ∧ gAr h g z.2.2.1 z.2.2.2.1 z.2.2.2.2
theorem gAr.u {h : gH} {g n a1 a2 : Nat} (ha : gAr h g n a1 a2) : gAr h g 0 0 0 := by
  obtain ⟨f, q1, -, -, q4⟩ := ha
  exact ⟨f, q1, fun z => absurd z (Nat.lt_irrefl _), fun z => absurd z (by decide), q4⟩
/-- the counts of a reader's clauses -/
def gSz (h : gH) (ca : Nat) (sz : Nat → Nat) : Prop := ∃ f : Nat → Int32, h ca = some (.inl (0, 12, .inl f)) ∧ ∀ j, j < 12 → f j = nI (sz j)
/-- what readLiteral leaves -/
def rlP (h : gH) (a va vaa vfa la ca l g k : Nat) (sz : Nat → Nat) (some' : Bool) (z : Bool × Nat × (Nat → Int32) × Nat × Bool × Nat × Nat × Nat × Nat) (v : Option Value) (h' : gH) : Prop :=
  v = some (.int (bI z.1)) ∧ h' a = some (.inr (4, [.ref va, .ref la, .ref ca, .int (nI k), .int (nI z.2.1)])) ∧ gVc h' va vaa vfa z.2.2.1 z.2.2.2.1 ∧ gLu h' l g ∧ (z.1 = true → gLr h' l g z.2.2.2.2 ∧ gSz h' ca (va_up sz (k - 1) (sz (k - 1) + 1))) ∧ (∃ sz', gSz h' ca sz') ∧ gKp h h' [a, va, vaa, vfa, ca, l, g]
/-- the cells of a reader, with its counts, a text and a literal lie apart -/
theorem rd_apart2 {h : gH} {a va vaa vfa ca g l ta tca c : Nat} {v1 v2 v3 v4 u0 : Value} {tx : List Nat} {w : Nat → Int32} {sz : Nat → Nat} (h1 : h a = some (.inr (4, [v1, v2, v3, v4, u0]))) (hv : gVu h va vaa vfa w c) (ht : gTx h ta tca tx) (hl : ∃ x y, h l = some (.inr (3, [x, y, .ref g]))) (hg : ∃ f, h g = some (.inl (0, 2, .inl f))) (hs : gSz h ca sz) :
    ((va ≠ a ∧ vaa ≠ a ∧ vfa ≠ a ∧ ta ≠ a ∧ tca ≠ a ∧ l ≠ a ∧ g ≠ a ∧ ca ≠ a) ∧ (va ≠ l ∧ vaa ≠ l ∧ vfa ≠ l ∧ ta ≠ l ∧ tca ≠ l ∧ g ≠ l ∧ ca ≠ l)) ∧ (va ≠ ca ∧ vaa ≠ ca ∧ vfa ≠ ca ∧ ta ≠ ca ∧ tca ≠ ca ∧ g ≠ ca) ∧ va ≠ g ∧ vaa ≠ g ∧ vfa ≠ g := by
  obtain ⟨-, -, -, f, u3, u4, q4, q5, q6⟩ := hv
  obtain ⟨ft, t1, t2, -⟩ := ht
  obtain ⟨fg, g1⟩ := hg
  obtain ⟨x, y, hl⟩ := hl
  obtain ⟨fs, s1, -⟩ := hs
  exact ⟨⟨⟨gne q4 h1 (by simp), gne q5 h1 (by simp), gne q6 h1 (by simp), gne t1 h1 (by simp), gne t2 h1 (by simp), gne hl h1 (by simp), gne g1 h1 (by simp), gne s1 h1 (by simp)⟩,
    ⟨gne q4 hl (by simp), gne q5 hl (by simp), gne q6 hl (by simp), gne t1 hl (by simp), gne t2 hl (by simp), gne g1 hl (by simp), gne s1 hl (by simp)⟩⟩,
    ⟨gne q4 s1 (by simp), gne q5 s1 (by simp), gne q6 s1 (by simp), gne t1 s1 (by simp), gne t2 s1 (by simp), gne g1 s1 (by simp)⟩, gne q4 g1 (by simp), gne q5 g1 (by simp), gne q6 g1 (by simp)⟩
theorem gSz.kp {h h' : gH} {ca : Nat} {sz : Nat → Nat} {L : List Nat} (hs : gSz h ca sz) (hk : gKp h h' L) (h1 : ca ∉ L) : gSz h' ca sz := by
  obtain ⟨f, q1, q2⟩ := hs
  exact ⟨f, (hk ca h1).trans q1, q2⟩
theorem l_Rd_readLiteral {K : gK} {h h2 : gH} (hst : K.1.stackTraces = false) {a va vaa vfa la ca l g ta tca k p c : Nat} {pr0 : Int32} {tx : List Nat} {w : Nat → Int32} {sz : Nat → Nat} (hk : 1 ≤ k ∧ k ≤ 12) (hp : p ≤ tx.length) (hR : h2 a = some (.inr (4, [.ref va, .ref la, .ref ca, .int (nI k), .int (nI (rdN tx p))]))) (hv : gVc h2 va vaa vfa w c) (ht : gTx h2 ta tca tx) (hs : gSz h2 ca sz) (hl : h2 l = some (.inr (3, [.int (bI (decide (tx.getD p 0 = 45))), .int pr0, .ref g]))) (hg : gAr h2 g 0 0 0) (hc : atc w c ≤ 12) (hkp : gKp h h2 [a, l]) :
    Go K M_Rd_readLiteral r_Rd_readLiteral 58 [(0, .ref a), (1, .ref ta), (2, .int (nI (k - 1))), (3, .ref l)] [] h2 0 0 (gRx (rlP h a va vaa vfa la ca l g k sz true (rdL tx w c p))) := by
  have hq := rdN_le hp
  have h96 : tx.length ≤ 96 := ht.choose_spec.2.2.1
  have hch := ht.chr (rdN tx p)
  obtain ⟨⟨A, B⟩, C, D⟩ := rd_apart2 hR hv.u ht ⟨_, _, hl⟩ ⟨_, hg.choose_spec.1⟩ hs
  refine g_aload_n d_Rd_readLiteral_58 rfl ?_
  refine g_aload_n d_Rd_readLiteral_59 rfl ?_
  refine g_aload_n d_Rd_readLiteral_60 rfl ?_
  refine g_get d_Rd_readLiteral_61 f_Rd_29 (hR) rfl ?_
  refine g_callR (c_Text_at hst ht (by omega)) gm_Text_at d_Rd_readLiteral_64 (gInv_v (As := [.int (nI (rdN tx p))]) (rest := [.ref l]) d_Rd_readLiteral_64 gm_Text_at gv_Rd_61 (ht.choose_spec.1) rfl) (Nat.le_of_ble_eq_true rfl) (Nat.le_of_ble_eq_true rfl) (Nat.le_of_ble_eq_true rfl) (Nat.le_of_ble_eq_true rfl) (Nat.le_of_ble_eq_true rfl) ?_
  refine g_callR (c_Rd_predicateOf hst (by omega)) gm_Rd_predicateOf d_Rd_readLiteral_67 (gInv_s (As := [.int (nI (tx.getD (rdN tx p) 0))]) (rest := [.ref l]) d_Rd_readLiteral_67 gm_Rd_predicateOf gs_Rd_69) (Nat.le_of_ble_eq_true rfl) (Nat.le_of_ble_eq_true rfl) (Nat.le_of_ble_eq_true rfl) (Nat.le_of_ble_eq_true rfl) (Nat.le_of_ble_eq_true rfl) ?_
  cases ep : prd (tx.getD (rdN tx p) 0) with
  | none =>
    refine g_put (fs' := [_, _, _]) d_Rd_readLiteral_70 f_Rd_73 (hl) rfl rfl (Nat.le_of_ble_eq_true rfl) rfl ?_
    refine g_aload_n d_Rd_readLiteral_73 rfl ?_
    refine g_get d_Rd_readLiteral_74 f_Rd_73 (gup_s _ _ _) rfl ?_
    refine g_iconst (v := -1) d_Rd_readLiteral_77 (by decide) ?_
    refine g_icmp_ne (tgt := 83) d_Rd_readLiteral_78 (by decide) (fun q => ?_) (fun q => ?_)
    · exact absurd rfl q
    · refine g_iconst (v := nI 0) d_Rd_readLiteral_81 (by decide) ?_
      have hk1 : gKp h2 (gup h2 l (.inr (3, [.int (bI (decide (tx.getD p 0 = 45))), .int (rcv none), .ref g]))) [l] := gKp.rf.up (by simp)
      refine g_ret_i d_Rd_readLiteral_82 rfl rfl ⟨_, rfl, ?_⟩
      unfold rdL
      rw [ep]
      exact ⟨rfl, (gup_n (Ne.symm A.2.2.2.2.2.1)).trans hR, hv.kp hk1 (by simp [B]) (by simp [B]) (by simp [B]), ⟨_, _, gup_s _ _ _, hg.kp hk1 (by simp [B])⟩, fun z => (by cases z), ⟨sz, hs.kp hk1 (by simp [B])⟩, (hkp.mono (by simp)).tr (hk1.mono (by simp))⟩
  | some x =>
    obtain ⟨hx4, hx0⟩ := prd_lt ep
    have hqlt := getD_len hx0
    refine g_put (fs' := [_, _, _]) d_Rd_readLiteral_70 f_Rd_73 (hl) rfl rfl (Nat.le_of_ble_eq_true rfl) rfl ?_
    refine g_aload_n d_Rd_readLiteral_73 rfl ?_
    refine g_get d_Rd_readLiteral_74 f_Rd_73 (gup_s _ _ _) rfl ?_
    refine g_iconst (v := -1) d_Rd_readLiteral_77 (by decide) ?_
    refine g_icmp_ne (tgt := 83) d_Rd_readLiteral_78 (by decide) (fun q => ?_) (fun q => ?_)
    · obtain ⟨fs, s1, s2⟩ := id hs
      refine g_aload_n d_Rd_readLiteral_83 rfl ?_
      refine g_dup d_Rd_readLiteral_84 rfl ?_
      refine g_get d_Rd_readLiteral_85 f_Rd_29 ((gup_n (Ne.symm A.2.2.2.2.2.1)).trans hR) rfl ?_
      refine g_iconst (v := nI 1) d_Rd_readLiteral_88 (by decide) ?_
      refine g_iadd d_Rd_readLiteral_89 ?_
      refine g_put (fs' := [_, _, _, _, _]) d_Rd_readLiteral_90 f_Rd_29 ((gup_n (Ne.symm A.2.2.2.2.2.1)).trans hR) rfl rfl (Nat.le_of_ble_eq_true rfl) rfl ?_
      refine g_aload_n d_Rd_readLiteral_93 rfl ?_
      refine g_get d_Rd_readLiteral_94 f_Rd_24 (gup_s _ _ _) rfl ?_
      refine g_iload_n d_Rd_readLiteral_97 rfl ?_
      refine g_dup2_11 d_Rd_readLiteral_98 rfl rfl ?_
      refine g_iald d_Rd_readLiteral_99 ((gup_n A.2.2.2.2.2.2.2).trans ((gup_n B.2.2.2.2.2.2).trans s1)) (rfl) (by omega) (by decide) ?_
      refine g_iconst (v := nI 1) d_Rd_readLiteral_100 (by decide) ?_
      refine g_iadd d_Rd_readLiteral_101 ?_
      refine g_iast d_Rd_readLiteral_102 ((gup_n A.2.2.2.2.2.2.2).trans ((gup_n B.2.2.2.2.2.2).trans s1)) (rfl) (by omega) (by decide) ?_
      rw [s2 (k - 1) (by omega), nI_add, nI_add]
      generalize hh3 : gup (gup (gup h2 l (.inr (3, [.int (bI (decide (tx.getD p 0 = 45))), .int (rcv (some x)), .ref g]))) a (.inr (4, [.ref va, .ref la, .ref ca, .int (nI k), .int (nI (rdN tx p + 1))]))) ca (.inl (0, 12, .inl (va_up fs (k - 1) (nI (sz (k - 1) + 1))))) = h3
      have hk3 : gKp h2 h3 [l, a, ca] := by
        rw [← hh3]
        exact ((gKp.rf.up (by simp)).up (by simp)).up (by simp)
      have r3 : h3 a = some (.inr (4, [.ref va, .ref la, .ref ca, .int (nI k), .int (nI (rdN tx p + 1))])) := by
        rw [← hh3, gup_n (Ne.symm A.2.2.2.2.2.2.2), gup_s]
      have l3 : h3 l = some (.inr (3, [.int (bI (decide (tx.getD p 0 = 45))), .int (nI x), .ref g])) := by
        rw [← hh3, gup_n (Ne.symm B.2.2.2.2.2.2), gup_n A.2.2.2.2.2.1, gup_s]
        rfl
      have z3 : gSz h3 ca (va_up sz (k - 1) (sz (k - 1) + 1)) := by
        refine ⟨va_up fs (k - 1) (nI (sz (k - 1) + 1)), by rw [← hh3, gup_s], fun j hj => ?_⟩
        unfold va_up
        by_cases e : j = k - 1
        · rw [if_pos e, if_pos e]
        · rw [if_neg e, if_neg e]
          exact s2 j hj
      have v3 := hv.kp hk3 (nm3 B.1 A.1 C.1) (nm3 B.2.1 A.2.1 C.2.1) (nm3 B.2.2.1 A.2.2.1 C.2.2.1)
      have t3 := ht.kp hk3 (nm3 B.2.2.2.1 A.2.2.2.1 C.2.2.2.1) (nm3 B.2.2.2.2.1 A.2.2.2.2.1 C.2.2.2.2.1)
      have g3 := hg.kp hk3 (nm3 B.2.2.2.2.2.1 A.2.2.2.2.2.2.1 C.2.2.2.2.2)
      refine g_aload_n d_Rd_readLiteral_103 rfl ?_
      refine g_aload_n d_Rd_readLiteral_104 rfl ?_
      refine g_aload_n d_Rd_readLiteral_105 rfl ?_
      refine g_callX (c_Rd_readArguments hst hx4 (by omega) r3 v3 t3 l3 g3 hc) gm_Rd_readArguments d_Rd_readLiteral_106 (gInv_v (As := [.ref ta, .ref l]) (rest := []) d_Rd_readLiteral_106 gm_Rd_readArguments gv_Rd_76 (r3) rfl) (Nat.le_of_ble_eq_true rfl) (Nat.le_of_ble_eq_true rfl) (Nat.le_of_ble_eq_true rfl) (Nat.le_of_ble_eq_true rfl) (Nat.le_of_ble_eq_true rfl) (fun v h1 hp => ?_)
      obtain ⟨hv1, e1, e2, e3, e4⟩ := hp
      subst hv1
      have nl : l ∉ [a, va, vaa, vfa, g] := by simp [A.2.2.2.2.2.1, Ne.symm B.1, Ne.symm B.2.1, Ne.symm B.2.2.1, Ne.symm B.2.2.2.2.2.1]
      have nc : ca ∉ [a, va, vaa, vfa, g] := by simp [A.2.2.2.2.2.2.2, Ne.symm C.1, Ne.symm C.2.1, Ne.symm C.2.2.1, Ne.symm C.2.2.2.2.2]
      have l4 := (e4 l nl).trans l3
      have z4 := z3.kp e4 nc
      refine g_ret_i d_Rd_readLiteral_109 rfl (bI_n _) ⟨_, rfl, ?_⟩
      unfold rdL
      rw [ep]
      exact ⟨rfl, e1, e2, ⟨_, _, l4, e3.u⟩, fun _ => ⟨⟨l4, e3⟩, z4⟩, ⟨_, z4⟩, ((hkp.mono (by simp)).tr (hk3.mono (by simp))).tr (e4.mono (by simp))⟩
    · exact absurd q (nI_neg1 (by omega))
theorem c_Rd_readLiteral {K : gK} {h : gH} (hst : K.1.stackTraces = false) {a va vaa vfa la ca l g ta tca k p c : Nat} {fl : Nat → Option Nat} {tx : List Nat} {w : Nat → Int32} {sz : Nat → Nat} (hk : 1 ≤ k ∧ k ≤ 12) (hp : p ≤ tx.length) (hR : h a = some (.inr (4, [.ref va, .ref la, .ref ca, .int (nI k), .int (nI p)]))) (hv : gVc h va vaa vfa w c) (ht : gTx h ta tca tx) (hs : gSz h ca sz) (hs4 : sz (k - 1) < 4) (hla : h la = some (.inl (4, 48, .inr (.inr (.inr (.inr fl)))))) (hfl : fl (4 * (k - 1) + sz (k - 1)) = some l) (hl : gLu h l g) (hc : atc w c ≤ 12) :
    Ct K r_Rd_readLiteral M_Rd_readLiteral [.ref a, .ref ta] h (gRx (rlP h a va vaa vfa la ca l g k sz true (rdL tx w c p))) := by
  obtain ⟨b0, pr0, hl1, hg⟩ := hl
  have h96 : tx.length ≤ 96 := ht.choose_spec.2.2.1
  have hch := ht.chr p
  obtain ⟨⟨A, B⟩, C, D⟩ := rd_apart2 hR hv.u ht ⟨_, _, hl1⟩ ⟨_, hg.choose_spec.1⟩ hs
  have hk1 : gKp h (gup h l (.inr (3, [.int (bI (decide (tx.getD p 0 = 45))), .int pr0, .ref g]))) [l] := gKp.rf.up (by simp)
  have hR1 := (hk1 a (by simp [Ne.symm A.2.2.2.2.2.1])).trans hR
  have hv1 := hv.kp hk1 (by simp [B]) (by simp [B]) (by simp [B])
  have ht1 := ht.kp hk1 (by simp [B]) (by simp [B])
  have hs1 := hs.kp hk1 (by simp [B])
  have hg1 := hg.kp hk1 (by simp [B])
  have two : Go K M_Rd_readLiteral r_Rd_readLiteral 41 [(0, .ref a), (1, .ref ta), (2, .int (nI (k - 1))), (3, .ref l)] [] (gup h l (.inr (3, [.int (bI (decide (tx.getD p 0 = 45))), .int pr0, .ref g]))) 0 0 (gRx (rlP h a va vaa vfa la ca l g k sz true (rdL tx w c p))) := by
    refine g_aload_n d_Rd_readLiteral_41 rfl ?_
    refine g_get d_Rd_readLiteral_42 f_Rd_65 (gup_s _ _ _) rfl ?_
    refine g_if_eq (tgt := 58) d_Rd_readLiteral_45 (by decide) (fun q => ?_) (fun q => ?_)
    · have e : ¬ tx.getD p 0 = 45 := of_decide_eq_false ((bI_z _).mp q)
      have e1 : rdN tx p = p := by
        unfold rdN
        rw [if_neg e]
      exact l_Rd_readLiteral hst hk hp (by rw [e1]; exact hR1) hv1 ht1 hs1 (gup_s _ _ _) hg1 hc (hk1.mono (by simp))
    · have e : tx.getD p 0 = 45 := by
        apply Classical.byContradiction
        intro z
        exact q ((bI_z _).mpr (decide_eq_false z))
      have e1 : rdN tx p = p + 1 := by
        unfold rdN
        rw [if_pos e]
      refine g_aload_n d_Rd_readLiteral_48 rfl ?_
      refine g_dup d_Rd_readLiteral_49 rfl ?_
      refine g_get d_Rd_readLiteral_50 f_Rd_29 (hR1) rfl ?_
      refine g_iconst (v := nI 1) d_Rd_readLiteral_53 (by decide) ?_
      refine g_iadd d_Rd_readLiteral_54 ?_
      refine g_put (fs' := [_, _, _, _, _]) d_Rd_readLiteral_55 f_Rd_29 (hR1) rfl rfl (Nat.le_of_ble_eq_true rfl) rfl ?_
      rw [nI_add]
      have hk2 : gKp (gup h l (.inr (3, [.int (bI (decide (tx.getD p 0 = 45))), .int pr0, .ref g]))) (gup (gup h l (.inr (3, [.int (bI (decide (tx.getD p 0 = 45))), .int pr0, .ref g]))) a (.inr (4, [.ref va, .ref la, .ref ca, .int (nI k), .int (nI (p + 1))]))) [a] := gKp.rf.up (by simp)
      exact l_Rd_readLiteral hst hk hp (by rw [e1]; exact gup_s _ _ _) (hv1.kp hk2 (by simp [A]) (by simp [A]) (by simp [A])) (ht1.kp hk2 (by simp [A]) (by simp [A])) (hs1.kp hk2 (by simp [A])) ((hk2 l (by simp [A])).trans (gup_s _ _ _)) (hg1.kp hk2 (by simp [A])) hc ((hk1.mono (by simp)).tr (hk2.mono (by simp)))
  obtain ⟨fs, s1, s2⟩ := id hs
  refine Ct.of hst (by decide) (Or.inl rfl) (Nat.le_of_ble_eq_true rfl) ?_
  refine g_aload_n d_Rd_readLiteral_0 rfl ?_
  refine g_get d_Rd_readLiteral_1 f_Rd_42 (hR) rfl ?_
  refine g_iconst (v := nI 1) d_Rd_readLiteral_4 (by decide) ?_
  refine g_isub d_Rd_readLiteral_5 ?_
  rw [pk_sub hk.1]
  refine g_istore_n d_Rd_readLiteral_6 rfl (Nat.le_of_ble_eq_true rfl) rfl ?_
  refine g_aload_n d_Rd_readLiteral_7 rfl ?_
  refine g_iload_n d_Rd_readLiteral_8 rfl ?_
  refine g_aload_n d_Rd_readLiteral_9 rfl ?_
  refine g_get d_Rd_readLiteral_10 f_Rd_24 (hR) rfl ?_
  refine g_iload_n d_Rd_readLiteral_13 rfl ?_
  refine g_iald d_Rd_readLiteral_14 (s1) (rfl) (by omega) (by decide) ?_
  rw [s2 (k - 1) (by omega)]
  refine g_callR (c_Rd_literal hst hR hla (by omega) hfl) gm_Rd_literal d_Rd_readLiteral_15 (gInv_v (As := [.int (nI (k - 1)), .int (nI (sz (k - 1)))]) (rest := []) d_Rd_readLiteral_15 gm_Rd_literal gv_Rd_57 (hR) rfl) (Nat.le_of_ble_eq_true rfl) (Nat.le_of_ble_eq_true rfl) (Nat.le_of_ble_eq_true rfl) (Nat.le_of_ble_eq_true rfl) (Nat.le_of_ble_eq_true rfl) ?_
  refine g_astore_n d_Rd_readLiteral_18 rfl (Nat.le_of_ble_eq_true rfl) rfl ?_
  refine g_aload_n d_Rd_readLiteral_19 rfl ?_
  refine g_aload_n d_Rd_readLiteral_20 rfl ?_
  refine g_aload_n d_Rd_readLiteral_21 rfl ?_
  refine g_get d_Rd_readLiteral_22 f_Rd_29 (hR) rfl ?_
  refine g_callR (c_Text_at hst ht (by omega)) gm_Text_at d_Rd_readLiteral_25 (gInv_v (As := [.int (nI p)]) (rest := [.ref l]) d_Rd_readLiteral_25 gm_Text_at gv_Rd_61 (ht.choose_spec.1) rfl) (Nat.le_of_ble_eq_true rfl) (Nat.le_of_ble_eq_true rfl) (Nat.le_of_ble_eq_true rfl) (Nat.le_of_ble_eq_true rfl) (Nat.le_of_ble_eq_true rfl) ?_
  refine g_bipush (v := nI 45) d_Rd_readLiteral_28 (by decide) ?_
  refine g_icmpN_ne (tgt := 37) d_Rd_readLiteral_30 (by decide) (rfl) (rfl) (by omega) (by decide) (fun q => ?_) (fun q => ?_)
  · have e : decide (tx.getD p 0 = 45) = false := decide_eq_false q
    rw [e] at two
    refine g_iconst (v := nI 0) d_Rd_readLiteral_37 (by decide) ?_
    refine g_put (fs' := [_, _, _]) d_Rd_readLiteral_38 f_Rd_65 (hl1) rfl rfl (Nat.le_of_ble_eq_true rfl) rfl ?_
    exact two
  · have e : decide (tx.getD p 0 = 45) = true := decide_eq_true q
    rw [e] at two
    refine g_iconst (v := nI 1) d_Rd_readLiteral_33 (by decide) ?_
    refine g_goto (tgt := 38) d_Rd_readLiteral_34 (by decide) ?_
    refine g_put (fs' := [_, _, _]) d_Rd_readLiteral_38 f_Rd_65 (hl1) rfl rfl (Nat.le_of_ble_eq_true rfl) rfl ?_
    exact two
