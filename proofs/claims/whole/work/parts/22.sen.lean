/-! ===== Sentence: an atom, an instance ===== -/
def gNj (S : Nat → Nat) (n : Nat) : Prop := ∀ i, i < n → ∀ j, j < n → S i = S j → i = j
theorem gNj.ne {S : Nat → Nat} {n : Nat} (hS : gNj S n) {i j : Nat} (hi : i < n) (hj : j < n) (hne : i ≠ j) : S i ≠ S j := fun z => hne (hS i hi j hj z)
theorem gKp.S {S : Nat → Nat} {n : Nat} {h h' : gH} (hS : gNj S n) (l : List Nat) (hk : gKp h h' (l.map S)) {i : Nat} (hi : i < n) (hl : ∀ j ∈ l, j < n) (hne : i ∉ l) : h' (S i) = h (S i) := by
  refine hk _ fun z => ?_
  obtain ⟨j, hj, e⟩ := List.mem_map.mp z
  have := hS i hi j (hl j hj) e.symm
  exact hne (this ▸ hj)
theorem gKp.R {S R : Nat → Nat} {n m : Nat} {h h' : gH} (hSR : ∀ i, i < n → ∀ j, j < m → R j ≠ S i) (l : List Nat) (hk : gKp h h' (l.map S)) {i : Nat} (hi : i < m) (hl : ∀ j ∈ l, j < n) : h' (R i) = h (R i) := by
  refine hk _ fun z => ?_
  obtain ⟨j, hj, e⟩ := List.mem_map.mp z
  exact hSR j (hl j hj) i hi e.symm
theorem gIs.of {h h' : gH} {a ca cap : Nat} {l : List Nat} (hv : gIs h a ca cap l) (e1 : h' a = h a) (e2 : h' ca = h ca) : gIs h' a ca cap l := by
  unfold gIs at *
  rw [e1, e2]
  exact hv
theorem gIn.of {h h' : gH} {a t f : Nat} (hv : gIn h a t f) (e1 : h' a = h a) : gIn h' a t f := by
  unfold gIn at *
  rw [e1]
  exact hv
theorem gTb.of {h h' : gH} {a wa A : Nat} {f : Nat → Int64} (hv : gTb h a wa A f) (e1 : h' a = h a) (e2 : h' wa = h wa) : gTb h' a wa A f := by
  unfold gTb at *
  rw [e1, e2]
  exact hv
theorem gTu.of {h h' : gH} {a wa : Nat} (hv : gTu h a wa) (e1 : h' a = h a) (e2 : h' wa = h wa) : gTu h' a wa := by
  unfold gTu at *
  rw [e1, e2]
  exact hv
theorem gVc.of {h h' : gH} {a aa fa c : Nat} {w : Nat → Int32} (hv : gVc h a aa fa w c) (e1 : h' a = h a) (e2 : h' aa = h aa) (e3 : h' fa = h fa) : gVc h' a aa fa w c := by
  unfold gVc at *
  rw [e1, e2, e3]
  exact hv
theorem gVu.of {h h' : gH} {a aa fa c : Nat} {w : Nat → Int32} (hv : gVu h a aa fa w c) (e1 : h' a = h a) (e2 : h' aa = h aa) (e3 : h' fa = h fa) : gVu h' a aa fa w c := by
  unfold gVu at *
  rw [e1, e2, e3]
  exact hv
/-- a reader whose cells are numbered: 0 itself, 1 to 3 its words, 4 its row, 5 its counts, from 6 literals, from 54 their arguments -/
def gRD (h : gH) (R : Nat → Nat) (k c : Nat) (w : Nat → Int32) (sz : Nat → Nat) (lt : Nat → gLD) : Prop := gRd h (R 0) (R 1) (R 2) (R 3) (R 4) (R 5) (fun j => R (6 + j)) (fun j => R (54 + j)) k c w sz lt ∧ ∀ j, sz j ≤ 4
theorem gRD.of {h h' : gH} {R : Nat → Nat} {k c : Nat} {w : Nat → Int32} {sz : Nat → Nat} {lt : Nat → gLD} (hr : gRD h R k c w sz lt) (he : ∀ i, i < 102 → h' (R i) = h (R i)) : gRD h' R k c w sz lt := by
  obtain ⟨⟨⟨p, r1⟩, r2, ⟨f, r3, r4⟩, ⟨⟨fl, l1, l2⟩, l3, l4, l5⟩, r6⟩, r7⟩ := hr
  refine ⟨⟨⟨p, (he 0 (by decide)).trans r1⟩, r2.of (he 1 (by decide)) (he 2 (by decide)) (he 3 (by decide)), ⟨f, (he 5 (by decide)).trans r3, r4⟩, ⟨⟨fl, (he 4 (by decide)).trans l1, l2⟩, fun j hj => ?_, l4, l5⟩, fun i hi j hj => ?_⟩, r7⟩
  · obtain ⟨b, u, z1, z2⟩ := l3 j hj
    refine ⟨b, u, (he (6 + j) (by omega)).trans z1, ?_⟩
    obtain ⟨g, y1, y2⟩ := z2
    exact ⟨g, (he (54 + j) (by omega)).trans y1, y2⟩
  · have := r7 i
    obtain ⟨z1, z2⟩ := r6 i hi j hj
    refine ⟨(he (6 + (4 * i + j)) (by omega)).trans z1, ?_⟩
    obtain ⟨g, y1, y2⟩ := z2
    exact ⟨g, (he (54 + (4 * i + j)) (by omega)).trans y1, y2⟩
/-- the sentence's steady cells -/
def gSf (h : gH) (S : Nat → Nat) (k : Int32) (c : Nat) (w : Nat → Int32) (f6 : Nat → Int32) : Prop := h (S 0) = some (.inr (5, [.ref (S 1), .int k, .ref (S 4), .ref (S 5), .ref (S 7), .ref (S 9), .ref (S 10), .ref (S 11), .ref (S 13), .ref (S 15)])) ∧ gVc h (S 1) (S 2) (S 3) w c ∧ h (S 15) = some (.inl (0, 6, .inl f6)) ∧ ∃ fl : Nat → Option Nat, h (S 10) = some (.inl (5, 12, .inr (.inr (.inr (.inr fl))))) ∧ ∀ j, j < 12 → fl j = some (S (16 + j))
theorem gSf.of {h h' : gH} {S : Nat → Nat} {k : Int32} {c : Nat} {w f6 : Nat → Int32} (hs : gSf h S k c w f6) (e0 : h' (S 0) = h (S 0)) (e1 : h' (S 1) = h (S 1)) (e2 : h' (S 2) = h (S 2)) (e3 : h' (S 3) = h (S 3)) (e4 : h' (S 15) = h (S 15)) (e5 : h' (S 10) = h (S 10)) : gSf h' S k c w f6 := by
  obtain ⟨s1, s2, s3, s4⟩ := hs
  refine ⟨e0.trans s1, s2.of e1 e2 e3, e4.trans s3, ?_⟩
  rw [e5]
  exact s4
/-- a literal that fits the words: its predicate has so many arguments, its constants are things -/
def lok (c : Nat) (w : Nat → Int32) (z : gLD) : Prop := z.2.1 < 4 ∧ z.2.2.1 ≤ 2 ∧ w z.2.1 = nI z.2.2.1 ∧ (0 < z.2.2.1 → z.2.2.2.1 < 6 ∧ (z.2.2.2.1 < 3 → isT c z.2.2.2.1)) ∧ (1 < z.2.2.1 → z.2.2.2.2 < 6 ∧ (z.2.2.2.2 < 3 → isT c z.2.2.2.2))
/-- which thing stands for an argument -/
def vof (c x y z a : Nat) : Nat := if a < 3 then rnk c a else if a = 3 then x else if a = 4 then y else z
theorem rnk_lt : ∀ c, c < 8 → ∀ a, a < 3 → (thg c / 2 ^ a % 2 = 1) → rnk c a < tcn c := by decide
theorem vof_lt {c x y z a : Nat} (hc : c < 8) (hx : x < tcn c) (hy : y < tcn c) (hz : z < tcn c) (ha : a < 3 → isT c a) : vof c x y z a < tcn c := by
  unfold vof
  split
  · rename_i h
    exact rnk_lt c hc a h (ha h)
  · split
    · exact hx
    · split
      · exact hy
      · exact hz
/-- the number of a literal's atom -/
def lat (c : Nat) (w : Nat → Int32) (vl : Nat → Nat) (z : gLD) : Nat := fat (tcn c) w z.2.1 + (if z.2.2.1 = 0 then 0 else if z.2.2.1 = 1 then vl z.2.2.2.1 else vl z.2.2.2.1 * tcn c + vl z.2.2.2.2)
theorem fat_mono {n : Nat} {w : Nat → Int32} : ∀ {p u : Nat}, p ≤ u → fat n w p ≤ fat n w u := by
  intro p u h
  induction h with
  | refl => exact Nat.le_refl _
  | step _ ih => exact Nat.le_trans ih (Nat.le_add_right _ _)
theorem lat_lt {c : Nat} {w : Nat → Int32} {vl : Nat → Nat} {z : gLD} (hz : lok c w z) (hv : ∀ a, a < 6 → (a < 3 → isT c a) → vl a < tcn c) : lat c w vl z < atc w c := by
  obtain ⟨z1, z2, z3, z4, z5⟩ := hz
  have h1 : fat (tcn c) w (z.2.1 + 1) ≤ atc w c := fat_mono z1
  have h2 : fat (tcn c) w (z.2.1 + 1) = fat (tcn c) w z.2.1 + cnt (tcn c) (w z.2.1) := rfl
  rw [z3] at h2
  unfold lat
  rcases (show z.2.2.1 = 0 ∨ z.2.2.1 = 1 ∨ z.2.2.1 = 2 by omega) with e | e | e
  · rw [e] at h2 ⊢
    rw [if_pos rfl]
    have : cnt (tcn c) (nI 0) = 1 := rfl
    omega
  · have := hv _ (z4 (by omega)).1 (z4 (by omega)).2
    rw [e] at h2 ⊢
    rw [if_neg (by decide), if_pos rfl]
    have : cnt (tcn c) (nI 1) = tcn c := rfl
    omega
  · have a1 := hv _ (z4 (by omega)).1 (z4 (by omega)).2
    have a2 := hv _ (z5 (by omega)).1 (z5 (by omega)).2
    rw [e] at h2 ⊢
    rw [if_neg (by decide), if_neg (by decide)]
    have h3 : cnt (tcn c) (nI 2) = tcn c * tcn c := rfl
    have h4 : vl z.2.2.2.1 * tcn c + tcn c ≤ tcn c * tcn c := by
      rw [← Nat.succ_mul]
      exact Nat.mul_le_mul_right _ a1
    omega
theorem c_Sen_atomOf {K : gK} {h : gH} (hst : K.1.stackTraces = false) {S : Nat → Nat} {k : Int32} {c l g : Nat} {w f6 : Nat → Int32} {vl : Nat → Nat} {z : gLD} (hs : gSf h S k c w f6) (hl : gLr h l g z) (hz : lok c w z) (hv : ∀ a, a < 6 → (a < 3 → isT c a) → f6 a = nI (vl a)) :
    Ct K r_Sen_atomOf M_Sen_atomOf [.ref (S 0), .ref l] h (gRt (some (.int (nI (lat c w vl z)))) h) := by
  obtain ⟨s1, s2, s3, s4⟩ := id hs
  obtain ⟨l1, f, l2, l3, l4, l5⟩ := hl
  obtain ⟨z1, z2, z3, z4, z5⟩ := hz
  obtain ⟨-, -, -, fv, s5, -⟩ := id s2
  obtain ⟨k1, hk1, e1⟩ := l5 0 (by decide)
  obtain ⟨k2, hk2, e2⟩ := l5 1 (by decide)
  refine Ct.of hst (by decide) (Or.inl rfl) (Nat.le_of_ble_eq_true rfl) ?_
  refine g_aload_n d_Sen_atomOf_0 rfl ?_
  refine g_get d_Sen_atomOf_1 f_Sen_55 (s1) rfl ?_
  refine g_aload_n d_Sen_atomOf_4 rfl ?_
  refine g_get d_Sen_atomOf_5 f_Sen_147 (l1) rfl ?_
  refine g_iconst (v := nI 0) d_Sen_atomOf_8 (by decide) ?_
  refine g_iald d_Sen_atomOf_9 (l2) (rfl) (by decide) (by decide) ?_
  refine g_iald d_Sen_atomOf_10 (s3) (e1) (hk1) (by decide) ?_
  refine g_istore_n d_Sen_atomOf_11 rfl (Nat.le_of_ble_eq_true rfl) rfl ?_
  refine g_aload_n d_Sen_atomOf_12 rfl ?_
  refine g_get d_Sen_atomOf_13 f_Sen_55 (s1) rfl ?_
  refine g_aload_n d_Sen_atomOf_16 rfl ?_
  refine g_get d_Sen_atomOf_17 f_Sen_147 (l1) rfl ?_
  refine g_iconst (v := nI 1) d_Sen_atomOf_20 (by decide) ?_
  refine g_iald d_Sen_atomOf_21 (l2) (rfl) (by decide) (by decide) ?_
  refine g_iald d_Sen_atomOf_22 (s3) (e2) (hk2) (by decide) ?_
  refine g_istore_n d_Sen_atomOf_23 rfl (Nat.le_of_ble_eq_true rfl) rfl ?_
  refine g_aload_n d_Sen_atomOf_24 rfl ?_
  refine g_get d_Sen_atomOf_25 f_Sen_12 (s1) rfl ?_
  refine g_aload_n d_Sen_atomOf_28 rfl ?_
  refine g_get d_Sen_atomOf_29 f_Sen_150 (l1) rfl ?_
  refine g_iload_n d_Sen_atomOf_32 rfl ?_
  refine g_iload_n d_Sen_atomOf_33 rfl ?_
  refine g_callR (c_Voc_number hst s2 z1 (f6 k1) (f6 k2)) gm_Voc_number d_Sen_atomOf_34 (gInv_v (As := [.int (nI z.2.1), .int (f6 k1), .int (f6 k2)]) (rest := []) d_Sen_atomOf_34 gm_Voc_number gv_Sen_153 (s5) rfl) (Nat.le_of_ble_eq_true rfl) (Nat.le_of_ble_eq_true rfl) (Nat.le_of_ble_eq_true rfl) (Nat.le_of_ble_eq_true rfl) (Nat.le_of_ble_eq_true rfl) ?_
  refine g_ret_i d_Sen_atomOf_37 rfl rfl ⟨?_, rfl⟩
  congr 2
  refine congrArg Value.int ?_
  unfold atn lat
  rw [z3]
  rcases (show z.2.2.1 = 0 ∨ z.2.2.1 = 1 ∨ z.2.2.1 = 2 by omega) with e | e | e
  · rw [e]
    rfl
  · have q1 : k1 = z.2.2.2.1 := (nI_eq (by omega) (by have := (z4 (by omega)).1; omega)).mp (e1.symm.trans (l3 (by omega)))
    have q3 := hv _ (z4 (by omega)).1 (z4 (by omega)).2
    rw [e, q1, q3]
    exact nI_add _ _
  · have q1 : k1 = z.2.2.2.1 := (nI_eq (by omega) (by have := (z4 (by omega)).1; omega)).mp (e1.symm.trans (l3 (by omega)))
    have q2 : k2 = z.2.2.2.2 := (nI_eq (by omega) (by have := (z5 (by omega)).1; omega)).mp (e2.symm.trans (l4 (by omega)))
    have q3 := hv _ (z4 (by omega)).1 (z4 (by omega)).2
    have q4 := hv _ (z5 (by omega)).1 (z5 (by omega)).2
    rw [e, q1, q2, q3, q4]
    show nI _ + nI _ * nI _ + nI _ = nI (_ + (_ * _ + _))
    rw [pk_mul, nI_add, nI_add, Nat.add_assoc]
/-- an instance: the atoms that are to be true and to be false -/
def ins (c : Nat) (w : Nat → Int32) (lt : Nat → gLD) (k : Nat) (vl : Nat → Nat) : Nat → Nat × Nat
  | 0 => (0, 0)
  | j + 1 => if (lt (4 * k + j)).1 then ((ins c w lt k vl j).1, (ins c w lt k vl j).2 ||| 2 ^ lat c w vl (lt (4 * k + j))) else ((ins c w lt k vl j).1 ||| 2 ^ lat c w vl (lt (4 * k + j)), (ins c w lt k vl j).2)
/-- .. and its code, when it isn't left out -/
def cod (c : Nat) (w : Nat → Int32) (sz : Nat → Nat) (lt : Nat → gLD) (k : Nat) (vl : Nat → Nat) : Option Nat := if (ins c w lt k vl (sz k)).1 &&& (ins c w lt k vl (sz k)).2 = 0 then some ((ins c w lt k vl (sz k)).2 * 4096 + (ins c w lt k vl (sz k)).1) else none
theorem ins_lt {c : Nat} {w : Nat → Int32} {lt : Nat → gLD} {k : Nat} {vl : Nat → Nat} (hv : ∀ a, a < 6 → (a < 3 → isT c a) → vl a < tcn c) (hA : atc w c ≤ 12) : ∀ j, (∀ i, i < j → lok c w (lt (4 * k + i))) → (ins c w lt k vl j).1 < 4096 ∧ (ins c w lt k vl j).2 < 4096 := by
  intro j
  induction j with
  | zero => exact fun _ => ⟨(by decide : 0 < 4096), (by decide : 0 < 4096)⟩
  | succ j ih =>
    intro hl
    obtain ⟨i1, i2⟩ := ih fun i hi => hl i (by omega)
    have h1 := lat_lt (hl j (by omega)) hv
    have h2 : 2 ^ lat c w vl (lt (4 * k + j)) < 4096 := Nat.pow_lt_pow_right (m := lat c w vl (lt (4 * k + j))) (n := 12) (by decide) (by omega)
    unfold ins
    split
    · exact ⟨i1, Nat.or_lt_two_pow (n := 12) i2 h2⟩
    · exact ⟨Nat.or_lt_two_pow (n := 12) i1 h2, i2⟩
/-- the loop over a clause's literals -/
theorem l_Sen_makeInstance {K : gK} (hst : K.1.stackTraces = false) {S R : Nat → Nat} (hS : gNj S 40) (hSR : ∀ i, i < 40 → ∀ j, j < 102 → R j ≠ S i) {k : Int32} {kr c u : Nat} {w w' f6 : Nat → Int32} {sz : Nat → Nat} {lt : Nat → gLD} {vl : Nat → Nat} {c' : Nat} (hq : u < 12) (hl : ∀ i, i < sz u → lok c w (lt (4 * u + i))) (hv : ∀ a, a < 6 → (a < 3 → isT c a) → f6 a = nI (vl a) ∧ vl a < tcn c) (hA : atc w c ≤ 12) {Q : Outcome → gH → Prop} :
    ∀ (r j : Nat) (h : gH), j + r = sz u → gSf h S k c w f6 → gRD h R kr c' w' sz lt → gIn h (S 9) (ins c w lt u vl j).1 (ins c w lt u vl j).2 → (∀ h' : gH, gKp h h' [S 9] → gIn h' (S 9) (ins c w lt u vl (sz u)).1 (ins c w lt u vl (sz u)).2 → Go K M_Sen_makeInstance r_Sen_makeInstance 51 [(0, .ref (S 0)), (1, .ref (R 0)), (2, .int (nI u))] [] h' 0 0 Q) →
    Go K M_Sen_makeInstance r_Sen_makeInstance 9 [(0, .ref (S 0)), (1, .ref (R 0)), (2, .int (nI u)), (3, .int (nI j))] [] h 0 0 Q := by
  intro r
  induction r with
  | zero =>
    intro j h hj hs hr hi kk
    have h4 := hr.2 u
    obtain ⟨⟨⟨p, r1⟩, r2, ⟨f, r3, r4⟩, r5, r6⟩, -⟩ := id hr
    refine g_iload_n d_Sen_makeInstance_9 rfl ?_
    refine g_aload_n d_Sen_makeInstance_10 rfl ?_
    refine g_get d_Sen_makeInstance_11 f_Sen_113 (r1) rfl ?_
    refine g_iload_n d_Sen_makeInstance_14 rfl ?_
    refine g_iald d_Sen_makeInstance_15 (r3) (rfl) (hq) (by decide) ?_
    rw [r4 u hq]
    refine g_icmpN_ge (tgt := 51) d_Sen_makeInstance_16 (by decide) (rfl) (rfl) (by omega) (by omega) (fun q => ?_) (fun q => ?_)
    · refine g_drop [(0, .ref (S 0)), (1, .ref (R 0)), (2, .int (nI u))] ⟨rfl, rfl, rfl, trivial⟩ ?_
      have e : j = sz u := by omega
      rw [e] at hi
      exact kk h gKp.rf hi
    · omega
  | succ r ih =>
    intro j h hj hs hr hi kk
    have h4 := hr.2 u
    obtain ⟨⟨⟨p, r1⟩, r2, ⟨f, r3, r4⟩, r5, r6⟩, -⟩ := id hr
    obtain ⟨⟨fl, l1, l2⟩, -⟩ := id r5
    obtain ⟨s1, -⟩ := id hs
    have hlj := r6 u hq j (by omega)
    have hok := hl j (by omega)
    have h12 := lat_lt hok (fun a h1 h2 => (hv a h1 h2).2)
    refine g_iload_n d_Sen_makeInstance_9 rfl ?_
    refine g_aload_n d_Sen_makeInstance_10 rfl ?_
    refine g_get d_Sen_makeInstance_11 f_Sen_113 (r1) rfl ?_
    refine g_iload_n d_Sen_makeInstance_14 rfl ?_
    refine g_iald d_Sen_makeInstance_15 (r3) (rfl) (hq) (by decide) ?_
    rw [r4 u hq]
    refine g_icmpN_ge (tgt := 51) d_Sen_makeInstance_16 (by decide) (rfl) (rfl) (by omega) (by omega) (fun q => ?_) (fun q => ?_)
    · omega
    · refine g_aload_n d_Sen_makeInstance_19 rfl ?_
      refine g_iload_n d_Sen_makeInstance_20 rfl ?_
      refine g_iload_n d_Sen_makeInstance_21 rfl ?_
      refine g_callR (c_Rd_literal hst r1 l1 (by omega) (l2 (4 * u + j) (by omega))) gm_Rd_literal d_Sen_makeInstance_22 (gInv_v (As := [.int (nI u), .int (nI j)]) (rest := []) d_Sen_makeInstance_22 gm_Rd_literal gv_Sen_116 (r1) rfl) (Nat.le_of_ble_eq_true rfl) (Nat.le_of_ble_eq_true rfl) (Nat.le_of_ble_eq_true rfl) (Nat.le_of_ble_eq_true rfl) (Nat.le_of_ble_eq_true rfl) ?_
      refine g_astore d_Sen_makeInstance_25 (Nat.le_of_ble_eq_true rfl) rfl ?_
      refine g_aload_n d_Sen_makeInstance_27 rfl ?_
      refine g_get d_Sen_makeInstance_28 f_Sen_37 (s1) rfl ?_
      refine g_aload_n d_Sen_makeInstance_31 rfl ?_
      refine g_aload d_Sen_makeInstance_32 rfl ?_
      refine g_callR (c_Sen_atomOf hst hs hlj hok (fun a h1 h2 => (hv a h1 h2).1)) gm_Sen_atomOf d_Sen_makeInstance_34 (gInv_v (As := [.ref (R (6 + (4 * u + j)))]) (rest := [.ref (S 9)]) d_Sen_makeInstance_34 gm_Sen_atomOf gv_Sen_120 (s1) rfl) (Nat.le_of_ble_eq_true rfl) (Nat.le_of_ble_eq_true rfl) (Nat.le_of_ble_eq_true rfl) (Nat.le_of_ble_eq_true rfl) (Nat.le_of_ble_eq_true rfl) ?_
      refine g_aload d_Sen_makeInstance_37 rfl ?_
      refine g_get d_Sen_makeInstance_39 f_Sen_124 (hlj.1) rfl ?_
      refine g_callX (c_Ins_add hst hi (by omega) (lt (4 * u + j)).1) gm_Ins_add d_Sen_makeInstance_42 (gInv_v (As := [.int (nI (lat c w vl (lt (4 * u + j)))), .int (bI (lt (4 * u + j)).1)]) (rest := []) d_Sen_makeInstance_42 gm_Ins_add gv_Sen_130 (hi.1) rfl) (Nat.le_of_ble_eq_true rfl) (Nat.le_of_ble_eq_true rfl) (Nat.le_of_ble_eq_true rfl) (Nat.le_of_ble_eq_true rfl) (Nat.le_of_ble_eq_true rfl) (fun v h1 hp => ?_)
      obtain ⟨rfl, i1, k1⟩ := hp
      refine g_iinc d_Sen_makeInstance_45 rfl (nI_inc _) (Nat.le_of_ble_eq_true rfl) rfl ?_
      refine g_goto (tgt := 9) d_Sen_makeInstance_48 (by decide) ?_
      refine g_drop [(0, .ref (S 0)), (1, .ref (R 0)), (2, .int (nI u)), (3, .int (nI (j + 1)))] ⟨rfl, rfl, rfl, rfl, trivial⟩ ?_
      refine ih (j + 1) h1 (by omega) (hs.of ?_ ?_ ?_ ?_ ?_ ?_) (hr.of fun i hi => gKp.R hSR [9] k1 hi (by decide)) ?_ fun h' e1 e2 => kk h' (k1.tr e1) e2
      · exact gKp.S hS [9] k1 (by decide) (by decide) (by decide)
      · exact gKp.S hS [9] k1 (by decide) (by decide) (by decide)
      · exact gKp.S hS [9] k1 (by decide) (by decide) (by decide)
      · exact gKp.S hS [9] k1 (by decide) (by decide) (by decide)
      · exact gKp.S hS [9] k1 (by decide) (by decide) (by decide)
      · exact gKp.S hS [9] k1 (by decide) (by decide) (by decide)
      · unfold ins
        cases hb : (lt (4 * u + j)).1 with
        | true =>
          rw [hb] at i1
          exact i1
        | false =>
          rw [hb] at i1
          exact i1
theorem mem_snoc {l : List Nat} {x y : Nat} : x ∈ l ++ [y] ↔ x ∈ l ∨ x = y := by simp
theorem nd_snoc {l : List Nat} {y : Nat} (h : l.Nodup) (hy : y ∉ l) : (l ++ [y]).Nodup := by
  rw [List.nodup_append]
  exact ⟨h, by simp, fun a ha b hb => by rw [List.mem_singleton.mp hb]; exact fun z => hy (z ▸ ha)⟩
/-- a clause under way: its instances, all instances, its tables -/
def gCl (h : gH) (S : Nat → Nat) (u A m0 m : Nat) (P0 P : Nat → Prop) : Prop := ∃ (l al : List Nat) (f : Nat → Int64) (t g : Nat), (gIs h (S 7) (S 8) 27 l ∧ l.Nodup ∧ (∀ c, c ∈ l ↔ P c) ∧ l.length ≤ m) ∧ (gIs h (S 5) (S 6) 324 al ∧ al.Nodup ∧ (∀ c, c ∈ al ↔ P0 c ∨ P c) ∧ al.length ≤ m0 + m) ∧ (gTb h (S (16 + u)) (S (28 + u)) A f ∧ ∀ n, n < 64 * wcn A → (tbs f n = true ↔ n < 2 ^ A ∧ ∀ c, P c → sat A (c % 4096) (c / 4096) n A = true)) ∧ gIn h (S 9) t g ∧ gTu h (S 11) (S 12)
theorem c_Sen_makeInstance {K : gK} {h : gH} (hst : K.1.stackTraces = false) {S R : Nat → Nat} (hS : gNj S 40) (hSR : ∀ i, i < 40 → ∀ j, j < 102 → R j ≠ S i) {k : Int32} {kr c u m0 m : Nat} {P0 P : Nat → Prop} {w w' f6 : Nat → Int32} {sz : Nat → Nat} {lt : Nat → gLD} {vl : Nat → Nat} {c' : Nat} (hq : u < 12) (hl : ∀ i, i < sz u → lok c w (lt (4 * u + i))) (hv : ∀ a, a < 6 → (a < 3 → isT c a) → f6 a = nI (vl a) ∧ vl a < tcn c) (hA : atc w c ≤ 12) (hm : m < 27) (hm0 : m0 + m < 324) (hs : gSf h S k c w f6) (hr : gRD h R kr c' w' sz lt) (hc : gCl h S u (atc w c) m0 m P0 P) :
    Ct K r_Sen_makeInstance M_Sen_makeInstance [.ref (S 0), .ref (R 0), .int (nI u)] h (gRx fun o h' => o = none ∧ gCl h' S u (atc w c) m0 (m + 1) P0 (fun x => P x ∨ cod c w sz lt u vl = some x) ∧ gKp h h' ([5, 6, 7, 8, 9, 11, 12, 28 + u].map S)) := by
  obtain ⟨l, al, ft, t0, g0, ⟨c1, c2, c3, c4⟩, ⟨a1, a2, a3, a4⟩, ⟨t1, t2⟩, ci, cu⟩ := id hc
  obtain ⟨s1, sv, -, fl, s5, s6⟩ := id hs
  obtain ⟨n1, n2⟩ := ins_lt (fun a h1 h2 => (hv a h1 h2).2) hA (sz u) hl
  refine Ct.of hst (by decide) (Or.inl rfl) (Nat.le_of_ble_eq_true rfl) ?_
  refine g_aload_n d_Sen_makeInstance_0 rfl ?_
  refine g_get d_Sen_makeInstance_1 f_Sen_37 (s1) rfl ?_
  refine g_callX (c_Ins_clear hst ci) gm_Ins_clear d_Sen_makeInstance_4 (gInv_v (As := []) (rest := []) d_Sen_makeInstance_4 gm_Ins_clear gv_Sen_112 (ci.1) rfl) (Nat.le_of_ble_eq_true rfl) (Nat.le_of_ble_eq_true rfl) (Nat.le_of_ble_eq_true rfl) (Nat.le_of_ble_eq_true rfl) (Nat.le_of_ble_eq_true rfl) (fun v h1 hp => ?_)
  obtain ⟨rfl, i1, k1⟩ := hp
  refine g_iconst (v := nI 0) d_Sen_makeInstance_7 (by decide) ?_
  refine g_istore_n d_Sen_makeInstance_8 rfl (Nat.le_of_ble_eq_true rfl) rfl ?_
  have e1 : ∀ {i : Nat}, i < 40 → i ∉ [9] → h1 (S i) = h (S i) := fun hi hn => gKp.S hS [9] k1 hi (by decide) hn
  have hs1 : gSf h1 S k c w f6 := hs.of (e1 (by decide) (by decide)) (e1 (by decide) (by decide)) (e1 (by decide) (by decide)) (e1 (by decide) (by decide)) (e1 (by decide) (by decide)) (e1 (by decide) (by decide))
  refine l_Sen_makeInstance hst hS hSR hq hl hv hA (sz u) 0 h1 (by omega) hs1 (hr.of fun i hi => gKp.R hSR [9] k1 hi (by decide)) i1 fun h2 k2 i2 => ?_
  have k02 : gKp h h2 ([9].map S) := k1.tr k2
  have e2 : ∀ {i : Nat}, i < 40 → i ∉ [9] → h2 (S i) = h (S i) := fun hi hn => gKp.S hS [9] k02 hi (by decide) hn
  have s2 := (e2 (i := 0) (by decide) (by decide)).trans s1
  have no : ∀ h', h' = h2 → (¬ ∃ x, cod c w sz lt u vl = some x ∧ ¬ P x) → gCl h' S u (atc w c) m0 (m + 1) P0 (fun x => P x ∨ cod c w sz lt u vl = some x) := by
    intro h' e hx
    subst e
    have eq : ∀ x, (P x ∨ cod c w sz lt u vl = some x) ↔ P x := fun x => ⟨fun z => z.elim id fun z => Classical.byContradiction fun y => hx ⟨x, z, y⟩, Or.inl⟩
    refine ⟨l, al, ft, _, _, ⟨c1.of (e2 (by decide) (by decide)) (e2 (by decide) (by decide)), c2, fun x => (c3 x).trans (eq x).symm, by omega⟩, ⟨a1.of (e2 (by decide) (by decide)) (e2 (by decide) (by decide)), a2, fun x => ?_, by omega⟩, ⟨t1.of (e2 (by omega) (by simp; omega)) (e2 (by omega) (by simp; omega)), fun n hn => ?_⟩, i2, cu.of (e2 (by decide) (by decide)) (e2 (by decide) (by decide))⟩
    · rw [a3]
      exact or_congr Iff.rfl (eq x).symm
    · rw [t2 n hn]
      simp only [eq]
  refine g_aload_n d_Sen_makeInstance_51 rfl ?_
  refine g_get d_Sen_makeInstance_52 f_Sen_37 (s2) rfl ?_
  refine g_callR (c_Ins_isLeftOut hst i2) gm_Ins_isLeftOut d_Sen_makeInstance_55 (gInv_v (As := []) (rest := []) d_Sen_makeInstance_55 gm_Ins_isLeftOut gv_Sen_134 (i2.1) rfl) (Nat.le_of_ble_eq_true rfl) (Nat.le_of_ble_eq_true rfl) (Nat.le_of_ble_eq_true rfl) (Nat.le_of_ble_eq_true rfl) (Nat.le_of_ble_eq_true rfl) ?_
  refine g_if_ne (tgt := 124) d_Sen_makeInstance_58 (by decide) (fun q => ?_) (fun q => ?_)
  · refine g_ret_v d_Sen_makeInstance_124 rfl ⟨_, rfl, rfl, no h2 rfl ?_, k02.mono (by simp)⟩
    rintro ⟨x, hx, -⟩
    have hd : ¬ (ins c w lt u vl (sz u)).1 &&& (ins c w lt u vl (sz u)).2 = 0 := fun z => q (by rw [z]; rfl)
    unfold cod at hx
    rw [if_neg hd] at hx
    cases hx
  · have hd : (ins c w lt u vl (sz u)).1 &&& (ins c w lt u vl (sz u)).2 = 0 := Classical.byContradiction fun z => absurd ((bI_z _).mp q) (by simp [z])
    have hcod : cod c w sz lt u vl = some ((ins c w lt u vl (sz u)).2 * 4096 + (ins c w lt u vl (sz u)).1) := by
      unfold cod
      rw [if_pos hd]
    obtain ⟨N1, N2⟩ : (ins c w lt u vl (sz u)).1 < 4096 ∧ (ins c w lt u vl (sz u)).2 < 4096 := ⟨n1, n2⟩
    generalize ht : (ins c w lt u vl (sz u)).1 = t at i2 hd hcod N1 n1
    generalize hg : (ins c w lt u vl (sz u)).2 = g at i2 hd hcod N2 n2
    have h31 : g * 4096 + t < 2 ^ 31 := by omega
    refine g_aload_n d_Sen_makeInstance_61 rfl ?_
    refine g_get d_Sen_makeInstance_62 f_Sen_31 (s2) rfl ?_
    refine g_aload_n d_Sen_makeInstance_65 rfl ?_
    refine g_get d_Sen_makeInstance_66 f_Sen_37 (s2) rfl ?_
    refine g_callR (c_Ins_code hst i2) gm_Ins_code d_Sen_makeInstance_69 (gInv_v (As := []) (rest := [.ref (S 7)]) d_Sen_makeInstance_69 gm_Ins_code gv_Sen_137 (i2.1) rfl) (Nat.le_of_ble_eq_true rfl) (Nat.le_of_ble_eq_true rfl) (Nat.le_of_ble_eq_true rfl) (Nat.le_of_ble_eq_true rfl) (Nat.le_of_ble_eq_true rfl) ?_
    have c1' := c1.of (e2 (i := 7) (by decide) (by decide)) (e2 (i := 8) (by decide) (by decide))
    have a1' := a1.of (e2 (i := 5) (by decide) (by decide)) (e2 (i := 6) (by decide) (by decide))
    refine g_callX (c_Iset_add hst c1' h31 (fun _ => by omega)) gm_Iset_add d_Sen_makeInstance_72 (gInv_v (As := [.int (nI (g * 4096 + t))]) (rest := []) d_Sen_makeInstance_72 gm_Iset_add gv_Sen_141 (c1'.2.2.2.choose_spec.1) rfl) (Nat.le_of_ble_eq_true rfl) (Nat.le_of_ble_eq_true rfl) (Nat.le_of_ble_eq_true rfl) (Nat.le_of_ble_eq_true rfl) (Nat.le_of_ble_eq_true rfl) (fun v3 h3 hp => ?_)
    by_cases hin : g * 4096 + t ∈ l
    · rw [if_pos hin] at hp
      obtain ⟨rfl, rfl⟩ := hp
      refine g_if_eq (tgt := 124) d_Sen_makeInstance_75 (by decide) (fun q => ?_) (fun q => ?_)
      · refine g_ret_v d_Sen_makeInstance_124 rfl ⟨_, rfl, rfl, no _ rfl ?_, k02.mono (by simp)⟩
        rintro ⟨x, hx, hy⟩
        rw [hcod] at hx
        obtain rfl := Option.some.inj hx
        exact hy ((c3 _).mp hin)
      · exact absurd rfl (by assumption)
    · rw [if_neg hin] at hp
      obtain ⟨rfl, c5, k3⟩ := hp
      have e3 : ∀ {i : Nat}, i < 40 → i ∉ [7, 8] → h3 (S i) = h2 (S i) := fun hi hn => gKp.S hS [7, 8] k3 hi (by decide) hn
      have s3 := (e3 (i := 0) (by decide) (by decide)).trans s2
      have i3 := i2.of (e3 (i := 9) (by decide) (by decide))
      have a3' := a1'.of (e3 (i := 5) (by decide) (by decide)) (e3 (i := 6) (by decide) (by decide))
      refine g_if_eq (tgt := 124) d_Sen_makeInstance_75 (by decide) (fun q => ?_) (fun q => ?_)
      · exact absurd q (by decide)
      · refine g_aload_n d_Sen_makeInstance_78 rfl ?_
        refine g_get d_Sen_makeInstance_79 f_Sen_27 (s3) rfl ?_
        refine g_aload_n d_Sen_makeInstance_82 rfl ?_
        refine g_get d_Sen_makeInstance_83 f_Sen_37 (s3) rfl ?_
        refine g_callR (c_Ins_code hst i3) gm_Ins_code d_Sen_makeInstance_86 (gInv_v (As := []) (rest := [.ref (S 5)]) d_Sen_makeInstance_86 gm_Ins_code gv_Sen_137 (i3.1) rfl) (Nat.le_of_ble_eq_true rfl) (Nat.le_of_ble_eq_true rfl) (Nat.le_of_ble_eq_true rfl) (Nat.le_of_ble_eq_true rfl) (Nat.le_of_ble_eq_true rfl) ?_
        refine g_callX (c_Iset_add hst a3' h31 (fun _ => by omega)) gm_Iset_add d_Sen_makeInstance_89 (gInv_v (As := [.int (nI (g * 4096 + t))]) (rest := []) d_Sen_makeInstance_89 gm_Iset_add gv_Sen_141 (a3'.2.2.2.choose_spec.1) rfl) (Nat.le_of_ble_eq_true rfl) (Nat.le_of_ble_eq_true rfl) (Nat.le_of_ble_eq_true rfl) (Nat.le_of_ble_eq_true rfl) (Nat.le_of_ble_eq_true rfl) (fun v4 h4 hp => ?_)
        have all : ∃ al', gIs h4 (S 5) (S 6) 324 al' ∧ al'.Nodup ∧ (∀ x, x ∈ al' ↔ P0 x ∨ (P x ∨ cod c w sz lt u vl = some x)) ∧ al'.length ≤ m0 + (m + 1) ∧ gKp h3 h4 [S 5, S 6] ∧ ∃ z : Int32, v4 = some (.int z) := by
          have len := a4
          by_cases hia : g * 4096 + t ∈ al
          · rw [if_pos hia] at hp
            obtain ⟨rfl, rfl⟩ := hp
            refine ⟨al, a3', a2, fun x => ?_, by omega, gKp.rf, 0, rfl⟩
            rw [a3 x, hcod]
            constructor
            · rintro (z | z)
              · exact Or.inl z
              · exact Or.inr (Or.inl z)
            · rintro (z | z | z)
              · exact Or.inl z
              · exact Or.inr z
              · obtain rfl := Option.some.inj z
                exact (a3 _).mp hia
          · rw [if_neg hia] at hp
            obtain ⟨rfl, a5, k4⟩ := hp
            refine ⟨al ++ [g * 4096 + t], a5, nd_snoc a2 hia, fun x => ?_, by simp; omega, k4, 1, rfl⟩
            rw [mem_snoc, a3 x, hcod]
            constructor
            · rintro ((z | z) | z)
              · exact Or.inl z
              · exact Or.inr (Or.inl z)
              · exact Or.inr (Or.inr (by rw [z]))
            · rintro (z | z | z)
              · exact Or.inl (Or.inl z)
              · exact Or.inl (Or.inr z)
              · exact Or.inr (Option.some.inj z).symm
        obtain ⟨al', b1, b2, b3, b4, k4, z4, rfl⟩ := all
        have e4 : ∀ {i : Nat}, i < 40 → i ∉ [5, 6] → h4 (S i) = h3 (S i) := fun hi hn => gKp.S hS [5, 6] k4 hi (by decide) hn
        have s4 := (e4 (i := 0) (by decide) (by decide)).trans s3
        have i4 := i3.of (e4 (i := 9) (by decide) (by decide))
        have u4 := ((cu.of (e2 (i := 11) (by decide) (by decide)) (e2 (i := 12) (by decide) (by decide))).of (e3 (i := 11) (by decide) (by decide)) (e3 (i := 12) (by decide) (by decide))).of (e4 (i := 11) (by decide) (by decide)) (e4 (i := 12) (by decide) (by decide))
        have c4' := c5.of (e4 (i := 7) (by decide) (by decide)) (e4 (i := 8) (by decide) (by decide))
        obtain ⟨-, -, -, fv, vv, -⟩ := id sv
        have v4 := (e4 (i := 1) (by decide) (by decide)).trans ((e3 (i := 1) (by decide) (by decide)).trans ((e2 (i := 1) (by decide) (by decide)).trans vv))
        refine g_pop d_Sen_makeInstance_92 rfl ?_
        refine g_aload_n d_Sen_makeInstance_93 rfl ?_
        refine g_get d_Sen_makeInstance_94 f_Sen_48 (s4) rfl ?_
        refine g_aload_n d_Sen_makeInstance_97 rfl ?_
        refine g_get d_Sen_makeInstance_98 f_Sen_37 (s4) rfl ?_
        refine g_aload_n d_Sen_makeInstance_101 rfl ?_
        refine g_get d_Sen_makeInstance_102 f_Sen_12 (s4) rfl ?_
        refine g_get d_Sen_makeInstance_105 f_Sen_84 (v4) rfl ?_
        refine g_callX (c_Tab_become hst u4 i4 hA) gm_Tab_becomeTablesOf d_Sen_makeInstance_108 (gInv_v (As := [.ref (S 9), .int (nI (atc w c))]) (rest := []) d_Sen_makeInstance_108 gm_Tab_becomeTablesOf gv_Sen_143 (u4.choose_spec.choose_spec.choose_spec.1) rfl) (Nat.le_of_ble_eq_true rfl) (Nat.le_of_ble_eq_true rfl) (Nat.le_of_ble_eq_true rfl) (Nat.le_of_ble_eq_true rfl) (Nat.le_of_ble_eq_true rfl) (fun v5 h5 hp => ?_)
        obtain ⟨rfl, fb, d1, k5, d2⟩ := hp
        have e5 : ∀ {i : Nat}, i < 40 → i ∉ [11, 12] → h5 (S i) = h4 (S i) := fun hi hn => gKp.S hS [11, 12] k5 hi (by decide) hn
        have s5' := (e5 (i := 0) (by decide) (by decide)).trans s4
        have t5 : gTb h5 (S (16 + u)) (S (28 + u)) (atc w c) ft := (((t1.of (e2 (by omega) (by simp; omega)) (e2 (by omega) (by simp; omega))).of (e3 (by omega) (by simp; omega)) (e3 (by omega) (by simp; omega))).of (e4 (by omega) (by simp; omega)) (e4 (by omega) (by simp; omega))).of (e5 (by omega) (by simp; omega)) (e5 (by omega) (by simp; omega))
        have r5 := (e5 (i := 10) (by decide) (by decide)).trans ((e4 (i := 10) (by decide) (by decide)).trans ((e3 (i := 10) (by decide) (by decide)).trans ((e2 (i := 10) (by decide) (by decide)).trans s5)))
        refine g_aload_n d_Sen_makeInstance_111 rfl ?_
        refine g_get d_Sen_makeInstance_112 f_Sen_43 (s5') rfl ?_
        refine g_iload_n d_Sen_makeInstance_115 rfl ?_
        refine g_aald d_Sen_makeInstance_116 (Or.inr rfl) (r5) (rfl) (hq) (by decide) (s6 u hq) ?_
        refine g_aload_n d_Sen_makeInstance_117 rfl ?_
        refine g_get d_Sen_makeInstance_118 f_Sen_48 (s5') rfl ?_
        refine g_callX (c_Tab_keep hst t5 d1 (hS.ne (by omega) (by omega) (by omega))) gm_Tab_keepCommon d_Sen_makeInstance_121 (gInv_v (As := [.ref (S 11)]) (rest := []) d_Sen_makeInstance_121 gm_Tab_keepCommon gv_Sen_90 (t5.2.1) rfl) (Nat.le_of_ble_eq_true rfl) (Nat.le_of_ble_eq_true rfl) (Nat.le_of_ble_eq_true rfl) (Nat.le_of_ble_eq_true rfl) (Nat.le_of_ble_eq_true rfl) (fun v6 h6 hp => ?_)
        obtain ⟨rfl, f6', d3, d4, k6⟩ := hp
        have e6 : ∀ {i : Nat}, i < 40 → i ∉ [28 + u] → h6 (S i) = h5 (S i) := fun hi hn => gKp.S hS [28 + u] k6 hi (by simp; omega) hn
        refine g_ret_v d_Sen_makeInstance_124 rfl ⟨_, rfl, rfl, ⟨l ++ [g * 4096 + t], al', f6', t, g, ⟨(c4'.of (e5 (by decide) (by decide)) (e5 (by decide) (by decide))).of (e6 (by decide) (by simp; omega)) (e6 (by decide) (by simp; omega)), nd_snoc c2 hin, fun x => ?_, by simp; omega⟩, ⟨(b1.of (e5 (by decide) (by decide)) (e5 (by decide) (by decide))).of (e6 (by decide) (by simp; omega)) (e6 (by decide) (by simp; omega)), b2, b3, b4⟩, ⟨d3, fun n hn => ?_⟩, (i4.of (e5 (by decide) (by decide))).of (e6 (by decide) (by simp; omega)), (d1.u.of (e6 (by decide) (by simp; omega)) (e6 (by decide) (by simp; omega)))⟩, ?_⟩
        · rw [mem_snoc, c3 x, hcod]
          constructor
          · rintro (z | z)
            · exact Or.inl z
            · exact Or.inr (by rw [z])
          · rintro (z | z)
            · exact Or.inl z
            · exact Or.inr (Option.some.inj z).symm
        · rw [d4 n hn, Bool.and_eq_true, t2 n hn, d2 n hn, hcod]
          have m1 : (g * 4096 + t) % 4096 = t := by omega
          have m2 : (g * 4096 + t) / 4096 = g := by omega
          constructor
          · rintro ⟨⟨z1, z2⟩, z3⟩
            refine ⟨z1, fun x hx => ?_⟩
            rcases hx with hx | hx
            · exact z2 x hx
            · rw [← Option.some.inj hx, m1, m2]
              exact z3
          · rintro ⟨z1, z2⟩
            refine ⟨⟨z1, fun x hx => z2 x (Or.inl hx)⟩, ?_⟩
            have := z2 _ (Or.inr rfl)
            rw [m1, m2] at this
            exact this
        · exact ((((k02.mono (by simp)).tr (k3.mono (by simp))).tr (k4.mono (by simp))).tr (k5.mono (by simp))).tr (k6.mono (by simp))
