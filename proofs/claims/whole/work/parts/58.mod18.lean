/-! ===== a table of the reference is a table of the class, its atoms turned round ===== -/
theorem sat_iff {A x g n : Nat} : ∀ {k : Nat}, sat A x g n k = true ↔ ∃ j, j < k ∧ ((x.testBit j = true ∧ n.testBit (A - 1 - j) = true) ∨ (g.testBit j = true ∧ n.testBit (A - 1 - j) = false)) := by
  intro k
  induction k with
  | zero => exact ⟨fun z => (by cases z), fun ⟨j, hj, _⟩ => absurd hj (Nat.not_lt_zero _)⟩
  | succ k ih =>
    show (sat A x g n k || (x.testBit k && n.testBit (A - 1 - k)) || (g.testBit k && !(n.testBit (A - 1 - k)))) = true ↔ _
    rw [Bool.or_eq_true, Bool.or_eq_true, ih, Bool.and_eq_true, Bool.and_eq_true, Bool.not_eq_true']
    constructor
    · rintro ((⟨j, h1, h2⟩ | h2) | h2)
      · exact ⟨j, by omega, h2⟩
      · exact ⟨k, by omega, Or.inl h2⟩
      · exact ⟨k, by omega, Or.inr h2⟩
    · rintro ⟨j, h1, h2⟩
      by_cases e : j = k
      · subst e
        rcases h2 with h2 | h2
        · exact Or.inl (Or.inr h2)
        · exact Or.inr h2
      · exact Or.inl (Or.inl ⟨j, by omega, h2⟩)
theorem and_ne {x y : Nat} : x &&& y ≠ 0 ↔ ∃ j, x.testBit j = true ∧ y.testBit j = true := by
  constructor
  · intro h
    refine Classical.byContradiction fun z => h (Nat.eq_of_testBit_eq fun j => ?_)
    rw [Nat.testBit_and, Nat.zero_testBit]
    cases h1 : x.testBit j
    · rfl
    · cases h2 : y.testBit j
      · rfl
      · exact absurd ⟨j, h1, h2⟩ z
  · rintro ⟨j, h1, h2⟩ z
    have := congrArg (fun n => n.testBit j) z
    simp only [Nat.testBit_and, h1, h2, Nat.zero_testBit] at this
    cases this
theorem tb_lt {x A j : Nat} (hx : x < 2 ^ A) (hj : x.testBit j = true) : j < A := by
  refine Classical.byContradiction fun z => ?_
  rw [Nat.testBit_lt_two_pow (Nat.lt_of_lt_of_le hx (Nat.pow_le_pow_right (by decide) (by omega)))] at hj
  cases hj
theorem rgt_sat {A e t : Nat} (hA : A ≤ 12) (h1 : e % 4096 < 2 ^ A) (h2 : e / 4096 < 2 ^ A) (ht : t < 2 ^ A) : rgt e t = true ↔ sat A (e % 4096) (e / 4096) (rvp A t A) A = true := by
  have h12 := pwA hA
  have hb : ∀ j, j < A → (rvp A t A).testBit (A - 1 - j) = t.testBit j := fun j hj => by
    rw [rvp_bit, decide_eq_true (by omega), Bool.true_and, show A - 1 - (A - 1 - j) = j by omega]
  have hn : ∀ j, (4095 - t).testBit j = (decide (j < 12) && !t.testBit j) := fun j => by
    have := Nat.testBit_two_pow_sub_succ (n := 12) (show t < 2 ^ 12 by omega) j
    rw [show 2 ^ 12 - (t + 1) = 4095 - t by omega] at this
    exact this
  rw [sat_iff]
  unfold rgt
  rw [Bool.or_eq_true, decide_eq_true_iff, decide_eq_true_iff, and_ne, and_ne]
  constructor
  · rintro (⟨j, y1, y2⟩ | ⟨j, y1, y2⟩)
    · have hj := tb_lt h1 y1
      exact ⟨j, hj, Or.inl ⟨y1, by rw [hb j hj]; exact y2⟩⟩
    · have hj := tb_lt h2 y1
      rw [hn, Bool.and_eq_true, Bool.not_eq_true'] at y2
      exact ⟨j, hj, Or.inr ⟨y1, by rw [hb j hj]; exact y2.2⟩⟩
  · rintro ⟨j, hj, ⟨y1, y2⟩ | ⟨y1, y2⟩⟩
    · rw [hb j hj] at y2
      exact Or.inl ⟨j, y1, y2⟩
    · rw [hb j hj] at y2
      refine Or.inr ⟨j, y1, ?_⟩
      rw [hn, decide_eq_true (by omega), y2]
      rfl
theorem lok_cg {c : Nat} {w w' : Nat → Int32} (he : ∀ p, p < 4 → w' p = w p) {z : gLD} (hz : lok c w z) : lok c w' z := by
  unfold lok at hz ⊢
  rw [he _ hz.1]
  exact hz
section MODEL18
variable {K : gK} {h : gH} {Y : Nat → Nat} {cd : Int32} {tx : List Nat} {td : Int32} {k c : Nat} {w : Nat → Int32} {A : Nat} {CS : Nat → Nat → Prop}
/-- on the way: the clauses below u are made -/
def mrI (F : Nat → Nat → Int32) (A c : Nat) (w : Nat → Int32) (sz : Nat → Nat) (lt : Nat → gLD) (L : Nat → List Nat) (u : Nat) : Prop := ∀ v, v < u → (mls F v (L v) ∧ (L v).Nodup ∧ ∀ e, e ∈ L v ↔ cset c w sz lt v e) ∧ ∀ t, t < 2 ^ A → (mhb F v t = true ↔ ∀ e, e ∈ L v → rgt e t = true)
theorem mrI.next {F F1 F2 : Nat → Nat → Int32} {sz : Nat → Nat} {lt : Nat → gLD} {L : Nat → List Nat} {u : Nat} {l : List Nat} (hA : A ≤ 12) (hr : mrI F A c w sz lt L u) (h1 : miI F F1 u) (h2 : ttI F1 F2 u) (hl : mls F1 u l) (hn : l.Nodup) (hc : ∀ e, e ∈ l ↔ cset c w sz lt u e) (hb : ∀ t, t < 2 ^ A → (mhb F2 u t = true ↔ ∀ e, e ∈ l → rgt e t = true)) : mrI F2 A c w sz lt (va_up L u l) (u + 1) := by
  have h12 := pwA hA
  have e14 : F2 14 = F1 14 := h2.1 14 (by decide)
  have e15 : F2 15 = F1 15 := h2.1 15 (by decide)
  intro v hv
  by_cases e : v = u
  · subst e
    rw [show va_up L v l v = l from if_pos rfl]
    refine ⟨⟨?_, hn, hc⟩, hb⟩
    unfold mls at hl ⊢
    rw [e14, e15]
    exact hl
  · rw [show va_up L u l v = L v from if_neg e]
    obtain ⟨⟨⟨l1, l2, l3, l4⟩, l5, l6⟩, l7⟩ := hr v (by omega)
    refine ⟨⟨⟨?_, l2, fun i hi => ?_, l4⟩, l5, l6⟩, fun t ht => ?_⟩
    · rw [e15, h1.2.1 v e]
      exact l1
    · rw [e14, h1.2.2 _ (Or.inl (by omega))]
      exact l3 i hi
    · rw [← l7 t ht]
      unfold mhb
      rw [h2.2 _ (Or.inl (by omega)), h1.1 16 (by decide) (by decide)]
theorem l_Mod_read (hst : K.1.stackTraces = false) {h0 : gH} {F0 : Nat → Nat → Int32} {cd ty nc nt : Int32} {sz : Nat → Nat} {lt : Nat → gLD} (hk : k ≤ 12) (hc : c < 8) (hw : wok w) (hA : atc w c ≤ 12) (hs4 : ∀ u, sz u ≤ 4) (hl : ∀ u, ∀ i, i < sz u → lok c w (lt (4 * u + i))) {Q : Outcome → gH → Prop}
    (kq : ∀ (h : gH) (F : Nat → Nat → Int32) (L : Nat → List Nat), gMb h Y F cd ty td nc nt (nI 1) (nI k) (nI (thg c)) (nI (atc w c)) → gKP h0 h (gOf Y 17) → mtk F k w sz lt → mrI F (atc w c) c w sz lt L k → Go K M_Mod_read r_Mod_read 68 [(0, .ref (Y 0)), (1, .int (nI k))] [] h 0 0 Q) : ∀ (r u : Nat) (h : gH) (F : Nat → Nat → Int32) (L : Nat → List Nat), u + r = k → gMb h Y F cd ty td nc nt (nI 1) (nI k) (nI (thg c)) (nI (atc w c)) → gKP h0 h (gOf Y 17) → mtk F k w sz lt → mrI F (atc w c) c w sz lt L u → Go K M_Mod_read r_Mod_read 44 [(0, .ref (Y 0)), (1, .int (nI u))] [] h 0 0 Q := by
  intro r
  induction r with
  | zero =>
    intro u h F L hu hm hK hT hR
    have e : u = k := by omega
    subst e
    refine g_iload_n d_Mod_read_44 rfl ?_
    refine g_aload_n d_Mod_read_45 rfl ?_
    refine g_get d_Mod_read_46 f_Mod_105 (hm.2) rfl ?_
    refine g_icmpN_ge (tgt := 68) d_Mod_read_49 (by decide) (rfl) (rfl) (by omega) (by omega) (fun q => ?_) (fun q => ?_)
    · exact kq h F L hm hK hT hR
    · omega
  | succ r ih =>
    intro u h F L hu hm hK hT hR
    refine g_iload_n d_Mod_read_44 rfl ?_
    refine g_aload_n d_Mod_read_45 rfl ?_
    refine g_get d_Mod_read_46 f_Mod_105 (hm.2) rfl ?_
    refine g_icmpN_ge (tgt := 68) d_Mod_read_49 (by decide) (rfl) (rfl) (by omega) (by omega) (fun q => ?_) (fun q => ?_)
    · omega
    · refine g_aload_n d_Mod_read_52 rfl ?_
      refine g_iload_n d_Mod_read_53 rfl ?_
      refine g_callX (c_Mod_makeInstances hst hm hk q hT hc hw hA (hs4 u) (hl u)) gm_Mod_makeInstances d_Mod_read_54 (gInv_v (As := [.int (nI u)]) (rest := []) d_Mod_read_54 gm_Mod_makeInstances gv_Mod_139 (hm.2) rfl) (Nat.le_of_ble_eq_true rfl) (Nat.le_of_ble_eq_true rfl) (Nat.le_of_ble_eq_true rfl) (Nat.le_of_ble_eq_true rfl) (Nat.le_of_ble_eq_true rfl) (fun v1 h1 hp => ?_)
      obtain ⟨rfl, F1, l, hm1, hK1, hI1, hls, hnd, hcs⟩ := hp
      refine g_aload_n d_Mod_read_57 rfl ?_
      refine g_iload_n d_Mod_read_58 rfl ?_
      refine g_callX (c_Mod_tryTables hst (by omega) hA hm1 hls) gm_Mod_tryTables d_Mod_read_59 (gInv_v (As := [.int (nI u)]) (rest := []) d_Mod_read_59 gm_Mod_tryTables gv_Mod_143 (hm1.2) rfl) (Nat.le_of_ble_eq_true rfl) (Nat.le_of_ble_eq_true rfl) (Nat.le_of_ble_eq_true rfl) (Nat.le_of_ble_eq_true rfl) (Nat.le_of_ble_eq_true rfl) (fun v2 h2 hp => ?_)
      obtain ⟨rfl, F2, hm2, hK2, hI2, hb2⟩ := hp
      refine g_iinc d_Mod_read_62 rfl (nI_inc _) (Nat.le_of_ble_eq_true rfl) rfl ?_
      refine g_goto (tgt := 44) d_Mod_read_65 (by decide) ?_
      refine ih (u + 1) h2 F2 (va_up L u l) (by omega) hm2 ((hK.tr hK1).tr hK2) (hT.cg fun m h14 => (hI2.1 m (by omega)).trans (hI1.1 m (by omega) (by omega))) (hR.next hA hI1 hI2 hls hnd hcs hb2)
/-- what read tells: the code, the text, the sentence -/
def mrQ (h : gH) (Y : Nat → Nat) (tx : List Nat) (k c : Nat) (w : Nat → Int32) (A : Nat) (CS : Nat → Nat → Prop) (z : Option Nat × Nat × Nat × (Nat → Int32) × (Nat → Nat) × (Nat → gLD)) (w' : Nat → Int32) : Outcome → gH → Prop := gRx fun o h' => gKP h h' (gOf Y 17) ∧ ∃ x, o = some (.int x) ∧
  ((∃ f, z.1 = some f ∧ gMo h' Y (nI 1) tx (nI f) k c w A CS) ∨
   (z.1 = none ∧ gMo h' Y (nI 0) [] (-1) z.2.1 z.2.2.1 w' (atc w' z.2.2.1) (cset z.2.2.1 w' z.2.2.2.2.1 z.2.2.2.2.2) ∧ ∃ al : List Nat, al.Nodup ∧ al.length ≤ 324 ∧ (∀ e, e ∈ al ↔ ∃ u, u < z.2.1 ∧ cset z.2.2.1 w' z.2.2.2.2.1 z.2.2.2.2.2 u e) ∧ x = nI al.length))
theorem c_Mod_read (hst : K.1.stackTraces = false) (hh : gMo h Y cd tx td k c w A CS) {w0 w' : Nat → Int32} (hw0 : ∀ p, p < 4 → w0 p = -1) (hw' : (rd0 tx w0).1 = none → ∀ p, p < 4 → w' p = (rd0 tx w0).2.2.2.1 p) : Ct K r_Mod_read M_Mod_read [.ref (Y 0)] h (mrQ h Y tx k c w A CS (rd0 tx w0) w') := by
  obtain ⟨F, ty, nc, nt, tg, hm, ht, hs⟩ := hh
  have t96 := ht.2.1
  refine Ct.of hst (by decide) (Or.inl rfl) (Nat.le_of_ble_eq_true rfl) ?_
  refine g_aload_n d_Mod_read_0 rfl ?_
  refine g_aload_n d_Mod_read_1 rfl ?_
  refine g_callX (c_Mod_readText hst ht hm hw0) gm_Mod_readText d_Mod_read_2 (gInv_v (As := []) (rest := [.ref (Y 0)]) d_Mod_read_2 gm_Mod_readText gv_Mod_132 (hm.2) rfl) (Nat.le_of_ble_eq_true rfl) (Nat.le_of_ble_eq_true rfl) (Nat.le_of_ble_eq_true rfl) (Nat.le_of_ble_eq_true rfl) (Nat.le_of_ble_eq_true rfl) (fun v1 h1 hp => ?_)
  obtain ⟨F1, nc1, nt1, hm1, hK1, hF1, rfl, hrt⟩ := hp
  have hat0 : atc w0 0 ≤ 12 := by
    unfold atc
    simp only [fat, hw0 0 (by decide), hw0 1 (by decide), hw0 2 (by decide), hw0 3 (by decide)]
    decide
  have hok := rd0_ok (tx := tx) hw0
  have hfle : ∀ f, (rd0 tx w0).1 = some f → f ≤ tx.length := fun f hf => rdG_le 48 1 0 0 w0 _ _ f (Nat.zero_le _) hat0 hf
  generalize rd0 tx w0 = z at *
  obtain ⟨z1, z2⟩ := z
  have hm2 := hm1.o cd ty (rcv z1) nc1 nt1 (bI (decide (¬ k = 0))) (nI k) tg (nI A)
  refine g_put (fs' := [_, _, _, _, _, _, _, _, _, _, _, _, _, _, _, _, _, _, _, _, _, _, _, _, _]) d_Mod_read_5 f_Mod_13 (hm1.2) rfl rfl (Nat.le_of_ble_eq_true rfl) rfl ?_
  refine g_aload_n d_Mod_read_8 rfl ?_
  refine g_aload_n d_Mod_read_9 rfl ?_
  refine g_get d_Mod_read_10 f_Mod_13 (hm2.2) rfl ?_
  cases z1 with
  | some f =>
    have hf := hfle f rfl
    have hm3 := hm2.o (nI 1) ty (rcv (some f)) nc1 nt1 (bI (decide (¬ k = 0))) (nI k) tg (nI A)
    refine g_if_lt (tgt := 20) d_Mod_read_13 (by decide) (fun q => ?_) (fun q => ?_)
    · exact absurd q (nI_pos (by omega))
    · refine g_iconst (v := nI 1) d_Mod_read_16 (by decide) ?_
      refine g_goto (tgt := 21) d_Mod_read_17 (by decide) ?_
      refine g_put (fs' := [_, _, _, _, _, _, _, _, _, _, _, _, _, _, _, _, _, _, _, _, _, _, _, _, _]) d_Mod_read_21 f_Mod_63 (hm2.2) rfl rfl (Nat.le_of_ble_eq_true rfl) rfl ?_
      refine g_aload_n d_Mod_read_24 rfl ?_
      refine g_get d_Mod_read_25 f_Mod_63 (hm3.2) rfl ?_
      refine g_if_le (tgt := 33) d_Mod_read_28 (by decide) (fun q => ?_) (fun q => ?_)
      · exact absurd q (by decide)
      · refine g_iconst (v := nI 0) d_Mod_read_31 (by decide) ?_
        refine g_ret_i d_Mod_read_32 rfl rfl ⟨_, rfl, mK0 (mK0 hK1 (by decide)) (by decide), _, rfl, Or.inl ⟨f, rfl, F1, ty, nc1, nt1, tg, hm3, ⟨ht.1, ht.2.1, fun i hi => ?_, ht.2.2.2⟩, hs.cg (hF1 13 (by decide)) (hF1 14 (by decide)) (hF1 15 (by decide)) (hF1 16 (by decide))⟩⟩
        rw [hF1 1 (Or.inl rfl)]
        exact ht.2.2.1 i hi
  | none =>
    obtain ⟨rfl, rfl, hI⟩ := hrt rfl
    obtain ⟨⟨hk1, hk12⟩, hA12, hwok, hc8, hs4, hlok⟩ := hok rfl
    have hwz := hw' rfl
    clear hw' hrt hok hfle
    obtain ⟨kz, cz, wz, sz, lt⟩ := z2
    simp only at hI hk1 hk12 hA12 hwok hc8 hs4 hlok hwz hm1 hm2 ⊢
    have hwok' : wok w' := fun p hp => by
      rw [hwz p hp]
      exact hwok p hp
    have hatc : atc w' cz = atc wz cz := fat_cg hwz
    have hA' : atc w' cz ≤ 12 := by
      rw [hatc]
      exact hA12
    have hlok' : ∀ u, ∀ i, i < sz u → lok cz w' (lt (4 * u + i)) := fun u i hi => lok_cg hwz (hlok u i hi)
    have hI' : rtI F1 kz cz w' sz lt := ⟨fun p hp => (hI.1 p hp).trans (hwz p hp).symm, hI.2⟩
    have hm3 := hm2.o (nI 0) ty (rcv none) (nI kz) (nI cz) (bI (decide (¬ k = 0))) (nI k) tg (nI A)
    refine g_if_lt (tgt := 20) d_Mod_read_13 (by decide) (fun q => ?_) (fun q => ?_)
    · refine g_iconst (v := nI 0) d_Mod_read_20 (by decide) ?_
      refine g_put (fs' := [_, _, _, _, _, _, _, _, _, _, _, _, _, _, _, _, _, _, _, _, _, _, _, _, _]) d_Mod_read_21 f_Mod_63 (hm2.2) rfl rfl (Nat.le_of_ble_eq_true rfl) rfl ?_
      refine g_aload_n d_Mod_read_24 rfl ?_
      refine g_get d_Mod_read_25 f_Mod_63 (hm3.2) rfl ?_
      refine g_if_le (tgt := 33) d_Mod_read_28 (by decide) (fun q => ?_) (fun q => ?_)
      · refine g_aload_n d_Mod_read_33 rfl ?_
        refine g_callX (c_Mod_take hst hm3 hk12 hc8 hwok' hs4 hI') gm_Mod_take d_Mod_read_34 (gInv_v (As := []) (rest := []) d_Mod_read_34 gm_Mod_take gv_Mod_136 (hm3.2) rfl) (Nat.le_of_ble_eq_true rfl) (Nat.le_of_ble_eq_true rfl) (Nat.le_of_ble_eq_true rfl) (Nat.le_of_ble_eq_true rfl) (Nat.le_of_ble_eq_true rfl) (fun v4 h4 hp => ?_)
        obtain ⟨rfl, F4, hm4, hK4, e41, hT4⟩ := hp
        have hm5 := hm4.o (nI 0) (nI 0) (rcv none) (nI kz) (nI cz) (nI 1) (nI kz) (nI (thg cz)) (nI (atc w' cz))
        refine g_aload_n d_Mod_read_37 rfl ?_
        refine g_iconst (v := nI 0) d_Mod_read_38 (by decide) ?_
        refine g_put (fs' := [_, _, _, _, _, _, _, _, _, _, _, _, _, _, _, _, _, _, _, _, _, _, _, _, _]) d_Mod_read_39 f_Mod_68 (hm4.2) rfl rfl (Nat.le_of_ble_eq_true rfl) rfl ?_
        refine g_iconst (v := nI 0) d_Mod_read_42 (by decide) ?_
        refine g_istore_n d_Mod_read_43 rfl (Nat.le_of_ble_eq_true rfl) rfl ?_
        refine l_Mod_read hst (h0 := h) (F0 := F4) hk12 hc8 hwok' hA' hs4 hlok' (fun h6 F6 L hm6 hK6 hT6 hR6 => ?_) kz 0 _ F4 (fun _ => []) (by omega) hm5 (mK0 ((mK0 (mK0 hK1 (by decide)) (by decide)).tr hK4) (by decide)) hT4 fun v hv => absurd hv (Nat.not_lt_zero _)
        refine g_aload_n d_Mod_read_68 rfl ?_
        refine g_callX (c_Mod_allInstances hst hm6 hk12 fun v hv => ⟨(hR6 v hv).1.1, (hR6 v hv).1.2.1⟩) gm_Mod_allInstances d_Mod_read_69 (gInv_v (As := []) (rest := []) d_Mod_read_69 gm_Mod_allInstances gv_Mod_146 (hm6.2) rfl) (Nat.le_of_ble_eq_true rfl) (Nat.le_of_ble_eq_true rfl) (Nat.le_of_ble_eq_true rfl) (Nat.le_of_ble_eq_true rfl) (Nat.le_of_ble_eq_true rfl) (fun v7 h7 hp => ?_)
        obtain ⟨rfl, al, a1, a2, a3, rfl⟩ := hp
        have hcs : ∀ e, (∃ u, u < kz ∧ e ∈ L u) ↔ ∃ u, u < kz ∧ cset cz w' sz lt u e := fun e => exists_congr fun u => and_congr_right fun hu => (hR6 u hu).1.2.2 e
        refine g_ret_i d_Mod_read_72 rfl rfl ⟨_, rfl, hK6, _, rfl, Or.inr ⟨rfl, ⟨F6, nI 0, nI kz, nI cz, nI (thg cz), ?_, ⟨rfl, by decide, fun i hi => absurd hi (Nat.not_lt_zero _), fun c hc => by cases hc⟩, ⟨hk12, hA'⟩, fun _ => ⟨rfl, hc8, hwok', hT6.1⟩, ⟨L, fun u hu => (hR6 u hu).1⟩, fun u hu t ht => ?_⟩, al, a1, a2, fun e => (a3 e).trans (hcs e), rfl⟩⟩
        · rw [decide_eq_true (show ¬ kz = 0 by omega)]
          exact hm6
        · rw [(hR6 u hu).2 t ht]
          refine forall_congr' fun e => ?_
          rw [(hR6 u hu).1.2.2 e]
          refine forall_congr' fun he => ?_
          obtain ⟨x, hx, y, hy, v, hv, hcod⟩ := he
          obtain ⟨b1, b2, -⟩ := cod_lt (fun a _ ha => vof_lt hc8 hx hy hv ha) hA' (hlok' u) hcod
          exact rgt_sat hA' b1 b2 ht
      · exact absurd (by decide) q
    · exact absurd (by decide) q
end MODEL18
