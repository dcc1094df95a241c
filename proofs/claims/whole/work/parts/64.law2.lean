/-! ===== the class beside the reference ===== -/
theorem tb_eq {A k : Nat} {CS : Nat → Nat → Prop} {s : Nat} (hA : A ≤ 12) {p p' : Nat → Bool} (h1 : ∀ n, n < 64 * wcn A → (p n = true ↔ n < 2 ^ A ∧ hat A k CS s n)) (h2 : ∀ t, t < 2 ^ A → (p' t = true ↔ hat A k CS s (rvp A t A))) : cnB p (64 * wcn A) = cnB p' (2 ^ A) := by
  have hle : 2 ^ A ≤ 64 * wcn A := by
    unfold wcn
    split
    · have : 2 ^ A ≤ 2 ^ 6 := Nat.pow_le_pow_right (by decide) (by omega)
      omega
    · have e : 2 ^ A = 2 ^ 6 * 2 ^ (A - 6) := by rw [← Nat.pow_add]; congr 1; omega
      omega
  have e1 : cnB p (64 * wcn A) = cnB p (2 ^ A) := by
    rw [cnB_len, cnB_len]
    refine nd_len (List.nodup_range.filter _) (List.nodup_range.filter _) fun n => ?_
    rw [List.mem_filter, List.mem_filter, List.mem_range, List.mem_range]
    constructor
    · rintro ⟨a1, a2⟩
      exact ⟨((h1 n a1).mp a2).1, a2⟩
    · rintro ⟨a1, a2⟩
      exact ⟨by omega, a2⟩
  rw [e1, ← cnB_rv p]
  refine cnB_congr fun t ht => ?_
  have h3 := (h1 (rvp A t A) (Nat.lt_of_lt_of_le (rvp_lt A t A) hle)).trans ⟨fun z => z.2, fun z => ⟨rvp_lt A t A, z⟩⟩
  exact Bool.eq_iff_iff.mpr (h3.trans (h2 t ht).symm)
theorem nd_eq {P : Nat → Prop} {l m : List Nat} (h1 : l.Nodup) (h2 : m.Nodup) (h3 : ∀ e, e ∈ l ↔ P e) (h4 : ∀ e, e ∈ m ↔ P e) : l.length = m.length := nd_len h1 h2 fun e => (h3 e).trans (h4 e).symm
theorem bb_eq {P : Prop} {b c : Bool} (h1 : b = true ↔ P) (h2 : c = true ↔ P) : b = c := Bool.eq_iff_iff.mpr (h1.trans h2.symm)
theorem lg_e (x y : Int64) : lg_cmp x y = 0 ↔ x = y := by
  unfold lg_cmp
  constructor
  · intro h
    split at h
    · exact absurd h (by decide)
    · split at h
      · assumption
      · exact absurd h (by decide)
  · rintro rfl
    rw [if_neg (fun z => Int64.lt_irrefl z), if_pos rfl]
/-- two ints make a row -/
def rwL (a b : Int32) : Int64 := a.toInt64 <<< ((nI 32).toInt64 &&& 63) ||| (b.toInt64 &&& 4294967295)
theorem bL_l (b : Bool) : bL b = (bI b).toInt64 := by cases b <;> rfl
theorem gMo.gb {h : gH} {Y : Nat → Nat} {cd : Int32} {tx : List Nat} {td : Int32} {k c : Nat} {w : Nat → Int32} {A : Nat} {CS : Nat → Nat → Prop} (hm : gMo h Y cd tx td k c w A CS) : gMb h Y hm.choose cd hm.choose_spec.choose td hm.choose_spec.choose_spec.choose hm.choose_spec.choose_spec.choose_spec.choose (bI (decide (¬ k = 0))) (nI k) hm.choose_spec.choose_spec.choose_spec.choose_spec.choose (nI A) := hm.choose_spec.choose_spec.choose_spec.choose_spec.choose_spec.1
theorem gMo.obj {h : gH} {Y : Nat → Nat} {cd : Int32} {tx : List Nat} {td : Int32} {k c : Nat} {w : Nat → Int32} {A : Nat} {CS : Nat → Nat → Prop} (hm : gMo h Y cd tx td k c w A CS) : h (Y 0) = some (mob Y cd hm.choose_spec.choose td hm.choose_spec.choose_spec.choose hm.choose_spec.choose_spec.choose_spec.choose (bI (decide (¬ k = 0))) (nI k) hm.choose_spec.choose_spec.choose_spec.choose_spec.choose (nI A)) := hm.gb.2
section LAW
variable {K : gK} {X Y : Nat → Nat} {o sc n : Nat} {xs : Nat → Int32}
/-- all lie apart -/
def gAp (X Y : Nat → Nat) (o : Nat) : Prop := (∀ i, i < 145 → ∀ j, j < 17 → X i ≠ Y j) ∧ (∀ i, i < 145 → X i ≠ o) ∧ ∀ j, j < 17 → Y j ≠ o
/-- the class and the reference say one sentence -/
def gJ (h : gH) (X Y : Nat → Nat) (o : Nat) : Prop := ∃ (tx : List Nat) (td : Int32) (k c : Nat) (w : Nat → Int32) (A : Nat) (CS : Nat → Nat → Prop) (cd : Int32) (f : Nat → Int64), gHt h X tx td k c w A CS ∧ gMo h Y cd tx td k c w A CS ∧ (k = 0 → ∀ p, p < 4 → w p = -1) ∧ h o = some (.inl (1, 1, .inr (.inl f)))
theorem gMo.of {h h' : gH} {cd : Int32} {tx : List Nat} {td : Int32} {k c : Nat} {w : Nat → Int32} {A : Nat} {CS : Nat → Nat → Prop} (hm : gMo h Y cd tx td k c w A CS) (he : ∀ i, i < 17 → h' (Y i) = h (Y i)) : gMo h' Y cd tx td k c w A CS := by
  obtain ⟨F, ty, nc, nt, tg, ⟨⟨m1, m2⟩, m3⟩, ht, hs⟩ := hm
  exact ⟨F, ty, nc, nt, tg, ⟨⟨m1, fun i h1 h2 => (he i h2).trans (m2 i h1 h2)⟩, (he 0 (by decide)).trans m3⟩, ht, hs⟩
theorem gMo.sm {h : gH} {cd : Int32} {tx : List Nat} {td : Int32} {k c : Nat} {w : Nat → Int32} {A : Nat} {CS : Nat → Nat → Prop} (hm : gMo h Y cd tx td k c w A CS) {i : Nat} (hi : i < 17) : h (Y i) ≠ none := by
  obtain ⟨F, ty, nc, nt, tg, ⟨⟨m1, m2⟩, m3⟩, ht, hs⟩ := hm
  by_cases e : i = 0
  · rw [e, m3]
    simp
  · rw [m2 i (by omega) hi]
    simp
section STEP
variable {h h' : gH} {cd : Int32} {tx : List Nat} {td : Int32} {k c : Nat} {w : Nat → Int32} {A : Nat} {CS : Nat → Nat → Prop} {f : Nat → Int64}
/-- the class has worked: the reference is as it was -/
theorem jx_m (ha : gAp X Y o) (hk : gKx h h' (gOf X 145)) (hm : gMo h Y cd tx td k c w A CS) : gMo h' Y cd tx td k c w A CS := hm.of fun i hi => hk _ (fun ⟨j, hj, e⟩ => ha.1 j hj i hi e.symm) (hm.sm hi)
theorem jo_m (ha : gAp X Y o) (hk : gKx h h' (fun y => gOf X 145 y ∨ y = o)) (hm : gMo h Y cd tx td k c w A CS) : gMo h' Y cd tx td k c w A CS := hm.of fun i hi => hk _ (fun z => z.elim (fun ⟨j, hj, e⟩ => ha.1 j hj i hi e.symm) (ha.2.2 i hi)) (hm.sm hi)
theorem jx_o (ha : gAp X Y o) (hk : gKx h h' (gOf X 145)) (ho : h o = some (.inl (1, 1, .inr (.inl f)))) : h' o = some (.inl (1, 1, .inr (.inl f))) := lh_o hk ha.2.1 ho
/-- the reference has worked: the class is as it was -/
theorem jy_x (ha : gAp X Y o) (hk : gKP h h' (gOf Y 17)) (hx : gHt h X tx td k c w A CS) : gHt h' X tx td k c w A CS := hx.of fun i hi => hk _ fun ⟨j, hj, e⟩ => ha.1 i hi j hj e
theorem jy_o (ha : gAp X Y o) (hk : gKP h h' (gOf Y 17)) (ho : h o = some (.inl (1, 1, .inr (.inl f)))) : h' o = some (.inl (1, 1, .inr (.inl f))) := (hk o fun ⟨j, hj, e⟩ => ha.2.2 j hj e.symm).trans ho
end STEP
theorem lc_type (hst : K.1.stackTraces = false) (hap : gAp X Y o) (hsc : gSc K sc n xs) (hn : n ≤ 2048) {i r : Nat} (hi : i + 4 ≤ n) (hr : 1 ≤ r) {Q : Outcome → gH → Prop} (nx : ∀ h, gJ h X Y o → Go K M_Law_law room_1 683 [(0, .ref sc), (1, .ref (X 0)), (2, .ref (Y 0)), (3, .ref o), (4, .int (nI i))] [] h (3 * r - 3) (18 * r - 18) Q) {h : gH} (hJ : gJ h X Y o) : Go K M_Law_law room_1 116 [(0, .ref sc), (1, .ref (X 0)), (2, .ref (Y 0)), (3, .ref o), (4, .int (nI i))] [] h (3 * r) (18 * r) Q := by
  obtain ⟨tx, td, k, c, w, A, CS, cd, f, hx, hm, hk0, ho⟩ := hJ
  refine g_aload_n d_Law_law_116 rfl ?_
  refine g_aload_n d_Law_law_117 rfl ?_
  refine g_iload d_Law_law_118 rfl ?_
  refine g_iconst (v := nI 1) d_Law_law_120 (by decide) ?_
  refine g_iadd d_Law_law_121 ?_
  refine g_iald0 d_Law_law_122 hsc (nI_add i 1) (by omega) (by omega) ?_
  refine g_i2l d_Law_law_123 ?_
  refine g_bipush (v := nI 32) d_Law_law_124 (by decide) ?_
  refine g_lshl d_Law_law_126 ?_
  refine g_aload_n d_Law_law_127 rfl ?_
  refine g_iload d_Law_law_128 rfl ?_
  refine g_iconst (v := nI 2) d_Law_law_130 (by decide) ?_
  refine g_iadd d_Law_law_131 ?_
  refine g_iald0 d_Law_law_132 hsc (nI_add i 2) (by omega) (by omega) ?_
  refine g_i2l d_Law_law_133 ?_
  refine g_ldc2 d_Law_law_134 k_Law_45 ?_
  refine g_land d_Law_law_137 ?_
  refine g_lor d_Law_law_138 ?_
  refine g_callX (c_HT_type hst hx (rwL (xs (i + 1)) (xs (i + 2)))) gm_HT_type d_Law_law_139 (gInv_v (As := [.long (rwL (xs (i + 1)) (xs (i + 2)))]) (rest := []) d_Law_law_139 gm_HT_type gv_Law_47 (hx.2.1) rfl) (Nat.le_of_ble_eq_true rfl) (Nat.le_of_ble_eq_true rfl) (Nat.zero_le _) (Nat.zero_le _) (Nat.le_of_ble_eq_true rfl) (fun v1 h1 hp => ?_)
  obtain ⟨rfl, hx1, hk1⟩ := hp
  have hm1 := jx_m hap hk1 hm
  refine g_aload_n d_Law_law_142 rfl ?_
  refine g_aload_n d_Law_law_143 rfl ?_
  refine g_iload d_Law_law_144 rfl ?_
  refine g_iconst (v := nI 1) d_Law_law_146 (by decide) ?_
  refine g_iadd d_Law_law_147 ?_
  refine g_iald0 d_Law_law_148 hsc (nI_add i 1) (by omega) (by omega) ?_
  refine g_i2l d_Law_law_149 ?_
  refine g_bipush (v := nI 32) d_Law_law_150 (by decide) ?_
  refine g_lshl d_Law_law_152 ?_
  refine g_aload_n d_Law_law_153 rfl ?_
  refine g_iload d_Law_law_154 rfl ?_
  refine g_iconst (v := nI 2) d_Law_law_156 (by decide) ?_
  refine g_iadd d_Law_law_157 ?_
  refine g_iald0 d_Law_law_158 hsc (nI_add i 2) (by omega) (by omega) ?_
  refine g_i2l d_Law_law_159 ?_
  refine g_ldc2 d_Law_law_160 k_Law_45 ?_
  refine g_land d_Law_law_163 ?_
  refine g_lor d_Law_law_164 ?_
  refine g_callX (c_Mod_type hst hm1 (rwL (xs (i + 1)) (xs (i + 2)))) gm_Mod_type d_Law_law_165 (gInv_v (As := [.long (rwL (xs (i + 1)) (xs (i + 2)))]) (rest := [.int (bI (tyOk (rwL (xs (i + 1)) (xs (i + 2))) tx).isSome)]) d_Law_law_165 gm_Mod_type gv_Law_51 (hm1.obj) rfl) (Nat.le_of_ble_eq_true rfl) (Nat.le_of_ble_eq_true rfl) (Nat.zero_le _) (Nat.zero_le _) (Nat.le_of_ble_eq_true rfl) (fun v2 h2 hp => ?_)
  obtain ⟨rfl, hm2, hk2⟩ := hp
  refine g_icmp_eq (tgt := 683) d_Law_law_168 (by decide) (fun q => ?_) (fun q => ?_)
  · refine g_less (kc' := 3 * r - 3) (ks' := 18 * r - 18) (show 3 * r - 3 ≤ 3 * r - 0 - 0 by omega) (show 18 * r - 18 ≤ 18 * r - 0 - 0 by omega) (nx _ ?_)
    exact ⟨_, _, _, _, _, _, _, _, _, jy_x hap hk2 hx1, hm2, hk0, jy_o hap hk2 (jx_o hap hk1 ho)⟩
  · exact absurd rfl q
theorem lc_erase (hst : K.1.stackTraces = false) (hap : gAp X Y o) (hsc : gSc K sc n xs) (hn : n ≤ 2048) {i r : Nat} (hi : i + 4 ≤ n) (hr : 1 ≤ r) {Q : Outcome → gH → Prop} (nx : ∀ h, gJ h X Y o → Go K M_Law_law room_1 683 [(0, .ref sc), (1, .ref (X 0)), (2, .ref (Y 0)), (3, .ref o), (4, .int (nI i))] [] h (3 * r - 3) (18 * r - 18) Q) {h : gH} (hJ : gJ h X Y o) : Go K M_Law_law room_1 173 [(0, .ref sc), (1, .ref (X 0)), (2, .ref (Y 0)), (3, .ref o), (4, .int (nI i))] [] h (3 * r) (18 * r) Q := by
  obtain ⟨tx, td, k, c, w, A, CS, cd, f, hx, hm, hk0, ho⟩ := hJ
  refine g_aload_n d_Law_law_173 rfl ?_
  refine g_callX (c_HT_erase hst hx) gm_HT_erase d_Law_law_174 (gInv_v (As := []) (rest := []) d_Law_law_174 gm_HT_erase gv_Law_52 (hx.2.1) rfl) (Nat.le_of_ble_eq_true rfl) (Nat.le_of_ble_eq_true rfl) (Nat.zero_le _) (Nat.zero_le _) (Nat.le_of_ble_eq_true rfl) (fun v1 h1 hp => ?_)
  obtain ⟨rfl, hx1, hk1⟩ := hp
  have hm1 := jx_m hap hk1 hm
  refine g_aload_n d_Law_law_177 rfl ?_
  refine g_callX (c_Mod_erase hst hm1) gm_Mod_erase d_Law_law_178 (gInv_v (As := []) (rest := [.int (nI tx.length)]) d_Law_law_178 gm_Mod_erase gv_Law_55 (hm1.obj) rfl) (Nat.le_of_ble_eq_true rfl) (Nat.le_of_ble_eq_true rfl) (Nat.zero_le _) (Nat.zero_le _) (Nat.le_of_ble_eq_true rfl) (fun v2 h2 hp => ?_)
  obtain ⟨rfl, hm2, hk2⟩ := hp
  refine g_icmp_eq (tgt := 683) d_Law_law_181 (by decide) (fun q => ?_) (fun q => ?_)
  · refine g_less (kc' := 3 * r - 3) (ks' := 18 * r - 18) (show 3 * r - 3 ≤ 3 * r - 0 - 0 by omega) (show 18 * r - 18 ≤ 18 * r - 0 - 0 by omega) (nx _ ?_)
    exact ⟨_, _, _, _, _, _, _, _, _, jy_x hap hk2 hx1, hm2, hk0, jy_o hap hk2 (jx_o hap hk1 ho)⟩
  · exact absurd rfl q
theorem lc_fault (hst : K.1.stackTraces = false) (hap : gAp X Y o) (hsc : gSc K sc n xs) (hn : n ≤ 2048) {i r : Nat} (hi : i + 4 ≤ n) (hr : 1 ≤ r) {Q : Outcome → gH → Prop} (nx : ∀ h, gJ h X Y o → Go K M_Law_law room_1 683 [(0, .ref sc), (1, .ref (X 0)), (2, .ref (Y 0)), (3, .ref o), (4, .int (nI i))] [] h (3 * r - 3) (18 * r - 18) Q) {h : gH} (hJ : gJ h X Y o) : Go K M_Law_law room_1 230 [(0, .ref sc), (1, .ref (X 0)), (2, .ref (Y 0)), (3, .ref o), (4, .int (nI i))] [] h (3 * r) (18 * r) Q := by
  obtain ⟨tx, td, k, c, w, A, CS, cd, f, hx, hm, hk0, ho⟩ := hJ
  refine g_aload_n d_Law_law_230 rfl ?_
  refine g_callR (c_HT_fault hst hx) gm_HT_fault d_Law_law_231 (gInv_v (As := []) (rest := []) d_Law_law_231 gm_HT_fault gv_Law_65 (hx.2.1) rfl) (Nat.le_of_ble_eq_true rfl) (Nat.le_of_ble_eq_true rfl) (Nat.zero_le _) (Nat.zero_le _) (Nat.le_of_ble_eq_true rfl) ?_
  refine g_aload_n d_Law_law_234 rfl ?_
  refine g_callX (c_Mod_fault hst hm) gm_Mod_fault d_Law_law_235 (gInv_v (As := []) (rest := [.int td]) d_Law_law_235 gm_Mod_fault gv_Law_68 (hm.obj) rfl) (Nat.le_of_ble_eq_true rfl) (Nat.le_of_ble_eq_true rfl) (Nat.zero_le _) (Nat.zero_le _) (Nat.le_of_ble_eq_true rfl) (fun v2 h2 hp => ?_)
  obtain ⟨rfl, hm2, hk2⟩ := hp
  refine g_icmp_eq (tgt := 683) d_Law_law_238 (by decide) (fun q => ?_) (fun q => ?_)
  · refine g_less (kc' := 3 * r - 3) (ks' := 18 * r - 18) (show 3 * r - 3 ≤ 3 * r - 0 - 0 by omega) (show 18 * r - 18 ≤ 18 * r - 0 - 0 by omega) (nx _ ?_)
    exact ⟨_, _, _, _, _, _, _, _, _, jy_x hap hk2 hx, hm2, hk0, jy_o hap hk2 ho⟩
  · exact absurd rfl q
theorem lc_clauses (hst : K.1.stackTraces = false) (hap : gAp X Y o) (hsc : gSc K sc n xs) (hn : n ≤ 2048) {i r : Nat} (hi : i + 4 ≤ n) (hr : 1 ≤ r) {Q : Outcome → gH → Prop} (nx : ∀ h, gJ h X Y o → Go K M_Law_law room_1 683 [(0, .ref sc), (1, .ref (X 0)), (2, .ref (Y 0)), (3, .ref o), (4, .int (nI i))] [] h (3 * r - 3) (18 * r - 18) Q) {h : gH} (hJ : gJ h X Y o) : Go K M_Law_law room_1 243 [(0, .ref sc), (1, .ref (X 0)), (2, .ref (Y 0)), (3, .ref o), (4, .int (nI i))] [] h (3 * r) (18 * r) Q := by
  obtain ⟨tx, td, k, c, w, A, CS, cd, f, hx, hm, hk0, ho⟩ := hJ
  refine g_aload_n d_Law_law_243 rfl ?_
  refine g_callR (c_HT_clauses hst hx) gm_HT_clauses d_Law_law_244 (gInv_v (As := []) (rest := []) d_Law_law_244 gm_HT_clauses gv_Law_69 (hx.2.1) rfl) (Nat.le_of_ble_eq_true rfl) (Nat.le_of_ble_eq_true rfl) (Nat.zero_le _) (Nat.zero_le _) (Nat.le_of_ble_eq_true rfl) ?_
  refine g_aload_n d_Law_law_247 rfl ?_
  refine g_callX (c_Mod_clauses hst hm) gm_Mod_clauses d_Law_law_248 (gInv_v (As := []) (rest := [.int (nI k)]) d_Law_law_248 gm_Mod_clauses gv_Law_72 (hm.obj) rfl) (Nat.le_of_ble_eq_true rfl) (Nat.le_of_ble_eq_true rfl) (Nat.zero_le _) (Nat.zero_le _) (Nat.le_of_ble_eq_true rfl) (fun v2 h2 hp => ?_)
  obtain ⟨rfl, hm2, hk2⟩ := hp
  refine g_icmp_eq (tgt := 683) d_Law_law_251 (by decide) (fun q => ?_) (fun q => ?_)
  · refine g_less (kc' := 3 * r - 3) (ks' := 18 * r - 18) (show 3 * r - 3 ≤ 3 * r - 0 - 0 by omega) (show 18 * r - 18 ≤ 18 * r - 0 - 0 by omega) (nx _ ?_)
    exact ⟨_, _, _, _, _, _, _, _, _, jy_x hap hk2 hx, hm2, hk0, jy_o hap hk2 ho⟩
  · exact absurd rfl q
theorem lc_atoms (hst : K.1.stackTraces = false) (hap : gAp X Y o) (hsc : gSc K sc n xs) (hn : n ≤ 2048) {i r : Nat} (hi : i + 4 ≤ n) (hr : 1 ≤ r) {Q : Outcome → gH → Prop} (nx : ∀ h, gJ h X Y o → Go K M_Law_law room_1 683 [(0, .ref sc), (1, .ref (X 0)), (2, .ref (Y 0)), (3, .ref o), (4, .int (nI i))] [] h (3 * r - 3) (18 * r - 18) Q) {h : gH} (hJ : gJ h X Y o) : Go K M_Law_law room_1 256 [(0, .ref sc), (1, .ref (X 0)), (2, .ref (Y 0)), (3, .ref o), (4, .int (nI i))] [] h (3 * r) (18 * r) Q := by
  obtain ⟨tx, td, k, c, w, A, CS, cd, f, hx, hm, hk0, ho⟩ := hJ
  refine g_aload_n d_Law_law_256 rfl ?_
  refine g_callR (c_HT_atoms hst hx) gm_HT_atoms d_Law_law_257 (gInv_v (As := []) (rest := []) d_Law_law_257 gm_HT_atoms gv_Law_73 (hx.2.1) rfl) (Nat.le_of_ble_eq_true rfl) (Nat.le_of_ble_eq_true rfl) (Nat.zero_le _) (Nat.zero_le _) (Nat.le_of_ble_eq_true rfl) ?_
  refine g_aload_n d_Law_law_260 rfl ?_
  refine g_callX (c_Mod_atoms hst hm) gm_Mod_atoms d_Law_law_261 (gInv_v (As := []) (rest := [.int (nI A)]) d_Law_law_261 gm_Mod_atoms gv_Law_76 (hm.obj) rfl) (Nat.le_of_ble_eq_true rfl) (Nat.le_of_ble_eq_true rfl) (Nat.zero_le _) (Nat.zero_le _) (Nat.le_of_ble_eq_true rfl) (fun v2 h2 hp => ?_)
  obtain ⟨rfl, hm2, hk2⟩ := hp
  refine g_icmp_eq (tgt := 683) d_Law_law_264 (by decide) (fun q => ?_) (fun q => ?_)
  · refine g_less (kc' := 3 * r - 3) (ks' := 18 * r - 18) (show 3 * r - 3 ≤ 3 * r - 0 - 0 by omega) (show 18 * r - 18 ≤ 18 * r - 0 - 0 by omega) (nx _ ?_)
    exact ⟨_, _, _, _, _, _, _, _, _, jy_x hap hk2 hx, hm2, hk0, jy_o hap hk2 ho⟩
  · exact absurd rfl q
theorem lc_atom (hst : K.1.stackTraces = false) (hap : gAp X Y o) (hsc : gSc K sc n xs) (hn : n ≤ 2048) {i r : Nat} (hi : i + 4 ≤ n) (hr : 1 ≤ r) {Q : Outcome → gH → Prop} (nx : ∀ h, gJ h X Y o → Go K M_Law_law room_1 683 [(0, .ref sc), (1, .ref (X 0)), (2, .ref (Y 0)), (3, .ref o), (4, .int (nI i))] [] h (3 * r - 3) (18 * r - 18) Q) {h : gH} (hJ : gJ h X Y o) : Go K M_Law_law room_1 269 [(0, .ref sc), (1, .ref (X 0)), (2, .ref (Y 0)), (3, .ref o), (4, .int (nI i))] [] h (3 * r) (18 * r) Q := by
  obtain ⟨tx, td, k, c, w, A, CS, cd, f, hx, hm, hk0, ho⟩ := hJ
  refine g_aload_n d_Law_law_269 rfl ?_
  refine g_aload_n d_Law_law_270 rfl ?_
  refine g_iload d_Law_law_271 rfl ?_
  refine g_iconst (v := nI 1) d_Law_law_273 (by decide) ?_
  refine g_iadd d_Law_law_274 ?_
  refine g_iald0 d_Law_law_275 hsc (nI_add i 1) (by omega) (by omega) ?_
  refine g_aload_n d_Law_law_276 rfl ?_
  refine g_iload d_Law_law_277 rfl ?_
  refine g_iconst (v := nI 2) d_Law_law_279 (by decide) ?_
  refine g_iadd d_Law_law_280 ?_
  refine g_iald0 d_Law_law_281 hsc (nI_add i 2) (by omega) (by omega) ?_
  refine g_aload_n d_Law_law_282 rfl ?_
  refine g_iload d_Law_law_283 rfl ?_
  refine g_iconst (v := nI 3) d_Law_law_285 (by decide) ?_
  refine g_iadd d_Law_law_286 ?_
  refine g_iald0 d_Law_law_287 hsc (nI_add i 3) (by omega) (by omega) ?_
  refine g_callR (c_HT_atom hst hx (xs (i + 1)) (xs (i + 2)) (xs (i + 3))) gm_HT_atom d_Law_law_288 (gInv_v (As := [.int (xs (i + 1)), .int (xs (i + 2)), .int (xs (i + 3))]) (rest := []) d_Law_law_288 gm_HT_atom gv_Law_77 (hx.2.1) rfl) (Nat.le_of_ble_eq_true rfl) (Nat.le_of_ble_eq_true rfl) (Nat.zero_le _) (Nat.zero_le _) (Nat.le_of_ble_eq_true rfl) ?_
  refine g_aload_n d_Law_law_291 rfl ?_
  refine g_aload_n d_Law_law_292 rfl ?_
  refine g_iload d_Law_law_293 rfl ?_
  refine g_iconst (v := nI 1) d_Law_law_295 (by decide) ?_
  refine g_iadd d_Law_law_296 ?_
  refine g_iald0 d_Law_law_297 hsc (nI_add i 1) (by omega) (by omega) ?_
  refine g_aload_n d_Law_law_298 rfl ?_
  refine g_iload d_Law_law_299 rfl ?_
  refine g_iconst (v := nI 2) d_Law_law_301 (by decide) ?_
  refine g_iadd d_Law_law_302 ?_
  refine g_iald0 d_Law_law_303 hsc (nI_add i 2) (by omega) (by omega) ?_
  refine g_aload_n d_Law_law_304 rfl ?_
  refine g_iload d_Law_law_305 rfl ?_
  refine g_iconst (v := nI 3) d_Law_law_307 (by decide) ?_
  refine g_iadd d_Law_law_308 ?_
  refine g_iald0 d_Law_law_309 hsc (nI_add i 3) (by omega) (by omega) ?_
  refine g_callX (c_Mod_atom hst hk0 hm (xs (i + 1)) (xs (i + 2)) (xs (i + 3))) gm_Mod_atom d_Law_law_310 (gInv_v (As := [.int (xs (i + 1)), .int (xs (i + 2)), .int (xs (i + 3))]) (rest := [.int (fatm c w (xs (i + 1)) (xs (i + 2)) (xs (i + 3)))]) d_Law_law_310 gm_Mod_atom gv_Law_81 (hm.obj) rfl) (Nat.le_of_ble_eq_true rfl) (Nat.le_of_ble_eq_true rfl) (Nat.zero_le _) (Nat.zero_le _) (Nat.le_of_ble_eq_true rfl) (fun v2 h2 hp => ?_)
  obtain ⟨rfl, hm2, hk2⟩ := hp
  refine g_icmp_eq (tgt := 683) d_Law_law_313 (by decide) (fun q => ?_) (fun q => ?_)
  · refine g_less (kc' := 3 * r - 3) (ks' := 18 * r - 18) (show 3 * r - 3 ≤ 3 * r - 0 - 0 by omega) (show 18 * r - 18 ≤ 18 * r - 0 - 0 by omega) (nx _ ?_)
    exact ⟨_, _, _, _, _, _, _, _, _, jy_x hap hk2 hx, hm2, hk0, jy_o hap hk2 ho⟩
  · exact absurd rfl q
theorem lc_instances (hst : K.1.stackTraces = false) (hap : gAp X Y o) (hsc : gSc K sc n xs) (hn : n ≤ 2048) {i r : Nat} (hi : i + 4 ≤ n) (hr : 1 ≤ r) {Q : Outcome → gH → Prop} (nx : ∀ h, gJ h X Y o → Go K M_Law_law room_1 683 [(0, .ref sc), (1, .ref (X 0)), (2, .ref (Y 0)), (3, .ref o), (4, .int (nI i))] [] h (3 * r - 3) (18 * r - 18) Q) {h : gH} (hJ : gJ h X Y o) : Go K M_Law_law room_1 318 [(0, .ref sc), (1, .ref (X 0)), (2, .ref (Y 0)), (3, .ref o), (4, .int (nI i))] [] h (3 * r) (18 * r) Q := by
  obtain ⟨tx, td, k, c, w, A, CS, cd, f, hx, hm, hk0, ho⟩ := hJ
  refine g_aload_n d_Law_law_318 rfl ?_
  refine g_callX (c_HT_instances hst hx) gm_HT_instances d_Law_law_319 (gInv_v (As := []) (rest := []) d_Law_law_319 gm_HT_instances gv_Law_82 (hx.2.1) rfl) (Nat.le_of_ble_eq_true rfl) (Nat.le_of_ble_eq_true rfl) (Nat.zero_le _) (Nat.zero_le _) (Nat.le_of_ble_eq_true rfl) (fun v1 h1 hp => ?_)
  obtain ⟨rfl, al, a1, a2, a3, rfl⟩ := hp
  refine g_aload_n d_Law_law_322 rfl ?_
  refine g_callX (c_Mod_instances hst hm) gm_Mod_instances d_Law_law_323 (gInv_v (As := []) (rest := [.int (nI al.length)]) d_Law_law_323 gm_Mod_instances gv_Law_85 (hm.obj) rfl) (Nat.le_of_ble_eq_true rfl) (Nat.le_of_ble_eq_true rfl) (Nat.zero_le _) (Nat.zero_le _) (Nat.le_of_ble_eq_true rfl) (fun v2 h2 hp => ?_)
  obtain ⟨⟨al2, b1, b2, b3, rfl⟩, hm2, hk2⟩ := hp
  refine g_icmp_eq (tgt := 683) d_Law_law_326 (by decide) (fun q => ?_) (fun q => ?_)
  · refine g_less (kc' := 3 * r - 3) (ks' := 18 * r - 18) (show 3 * r - 3 ≤ 3 * r - 0 - 0 by omega) (show 18 * r - 18 ≤ 18 * r - 0 - 0 by omega) (nx _ ?_)
    exact ⟨_, _, _, _, _, _, _, _, _, jy_x hap hk2 hx, hm2, hk0, jy_o hap hk2 ho⟩
  · exact absurd (by rw [nd_eq a1 b1 a3 b3]) q
theorem lc_instancesOf (hst : K.1.stackTraces = false) (hap : gAp X Y o) (hsc : gSc K sc n xs) (hn : n ≤ 2048) {i r : Nat} (hi : i + 4 ≤ n) (hr : 1 ≤ r) {Q : Outcome → gH → Prop} (nx : ∀ h, gJ h X Y o → Go K M_Law_law room_1 683 [(0, .ref sc), (1, .ref (X 0)), (2, .ref (Y 0)), (3, .ref o), (4, .int (nI i))] [] h (3 * r - 3) (18 * r - 18) Q) {h : gH} (hJ : gJ h X Y o) : Go K M_Law_law room_1 331 [(0, .ref sc), (1, .ref (X 0)), (2, .ref (Y 0)), (3, .ref o), (4, .int (nI i))] [] h (3 * r) (18 * r) Q := by
  obtain ⟨tx, td, k, c, w, A, CS, cd, f, hx, hm, hk0, ho⟩ := hJ
  refine g_aload_n d_Law_law_331 rfl ?_
  refine g_aload_n d_Law_law_332 rfl ?_
  refine g_iload d_Law_law_333 rfl ?_
  refine g_iconst (v := nI 1) d_Law_law_335 (by decide) ?_
  refine g_iadd d_Law_law_336 ?_
  refine g_iald0 d_Law_law_337 hsc (nI_add i 1) (by omega) (by omega) ?_
  refine g_callX (c_HT_instancesOf hst hx (xs (i + 1))) gm_HT_instancesOf d_Law_law_338 (gInv_v (As := [.int (xs (i + 1))]) (rest := []) d_Law_law_338 gm_HT_instancesOf gv_Law_86 (hx.2.1) rfl) (Nat.le_of_ble_eq_true rfl) (Nat.le_of_ble_eq_true rfl) (Nat.zero_le _) (Nat.zero_le _) (Nat.le_of_ble_eq_true rfl) (fun v1 h1 hp => ?_)
  obtain ⟨rfl, hc⟩ := hp
  have hv : ∃ x, v1 = some (.int x) := by
    rcases hc with ⟨-, e⟩ | ⟨u, l, -, -, -, -, -, e⟩
    · exact ⟨_, e⟩
    · exact ⟨_, e⟩
  obtain ⟨x1, rfl⟩ := hv
  refine g_aload_n d_Law_law_341 rfl ?_
  refine g_aload_n d_Law_law_342 rfl ?_
  refine g_iload d_Law_law_343 rfl ?_
  refine g_iconst (v := nI 1) d_Law_law_345 (by decide) ?_
  refine g_iadd d_Law_law_346 ?_
  refine g_iald0 d_Law_law_347 hsc (nI_add i 1) (by omega) (by omega) ?_
  refine g_callX (c_Mod_instancesOf hst hm (xs (i + 1))) gm_Mod_instancesOf d_Law_law_348 (gInv_v (As := [.int (xs (i + 1))]) (rest := [.int x1]) d_Law_law_348 gm_Mod_instancesOf gv_Law_89 (hm.obj) rfl) (Nat.le_of_ble_eq_true rfl) (Nat.le_of_ble_eq_true rfl) (Nat.zero_le _) (Nat.zero_le _) (Nat.le_of_ble_eq_true rfl) (fun v2 h2 hp => ?_)
  obtain ⟨hd, hm2, hk2⟩ := hp
  have hv2 : v2 = some (.int x1) := by
    rcases hc with ⟨c1, e⟩ | ⟨u, l, c1, c2, c3, c4, c5, e⟩
    · rcases hd with ⟨d1, e2⟩ | ⟨u2, l2, d1, d2, d3, d4, d5, e2⟩
      · rw [e2, ← e]
      · have := hx.2.2.2.2.1.2.1
        exact absurd ⟨by rw [d1]; exact nI_pos (by omega), by rw [d1]; exact nI_lt d2 (by omega)⟩ c1
    · have h12 := hx.2.2.2.2.1.2.1
      rcases hd with ⟨d1, e2⟩ | ⟨u2, l2, d1, d2, d3, d4, d5, e2⟩
      · exact absurd ⟨by rw [c1]; exact nI_pos (by omega), by rw [c1]; exact nI_lt c2 (by omega)⟩ d1
      · have eu : u = u2 := (nI_eq (by omega) (by omega)).mp (c1.symm.trans d1)
        subst eu
        rw [e2, e, nd_eq c3 d3 c5 d5]
  subst hv2
  refine g_icmp_eq (tgt := 683) d_Law_law_351 (by decide) (fun q => ?_) (fun q => ?_)
  · refine g_less (kc' := 3 * r - 3) (ks' := 18 * r - 18) (show 3 * r - 3 ≤ 3 * r - 0 - 0 by omega) (show 18 * r - 18 ≤ 18 * r - 0 - 0 by omega) (nx _ ?_)
    exact ⟨_, _, _, _, _, _, _, _, _, jy_x hap hk2 hx, hm2, hk0, jy_o hap hk2 ho⟩
  · exact absurd rfl q
theorem lc_holds (hst : K.1.stackTraces = false) (hap : gAp X Y o) (hsc : gSc K sc n xs) (hn : n ≤ 2048) {i r : Nat} (hi : i + 4 ≤ n) (hr : 1 ≤ r) {Q : Outcome → gH → Prop} (nx : ∀ h, gJ h X Y o → Go K M_Law_law room_1 683 [(0, .ref sc), (1, .ref (X 0)), (2, .ref (Y 0)), (3, .ref o), (4, .int (nI i))] [] h (3 * r - 3) (18 * r - 18) Q) {h : gH} (hJ : gJ h X Y o) : Go K M_Law_law room_1 356 [(0, .ref sc), (1, .ref (X 0)), (2, .ref (Y 0)), (3, .ref o), (4, .int (nI i))] [] h (3 * r) (18 * r) Q := by
  obtain ⟨tx, td, k, c, w, A, CS, cd, f, hx, hm, hk0, ho⟩ := hJ
  refine g_aload_n d_Law_law_356 rfl ?_
  refine g_callX (c_HT_holds hst hx) gm_HT_holds d_Law_law_357 (gInv_v (As := []) (rest := []) d_Law_law_357 gm_HT_holds gv_Law_90 (hx.2.1) rfl) (Nat.le_of_ble_eq_true rfl) (Nat.le_of_ble_eq_true rfl) (Nat.zero_le _) (Nat.zero_le _) (Nat.le_of_ble_eq_true rfl) (fun v1 h1 hp => ?_)
  obtain ⟨⟨b, rfl, b1⟩, hx1, hk1⟩ := hp
  have hm1 := jx_m hap hk1.x hm
  refine g_aload_n d_Law_law_360 rfl ?_
  refine g_callX (c_Mod_holds hst hm1) gm_Mod_holds d_Law_law_361 (gInv_v (As := []) (rest := [.int (bI b)]) d_Law_law_361 gm_Mod_holds gv_Law_94 (hm1.obj) rfl) (Nat.le_of_ble_eq_true rfl) (Nat.le_of_ble_eq_true rfl) (Nat.zero_le _) (Nat.zero_le _) (Nat.le_of_ble_eq_true rfl) (fun v2 h2 hp => ?_)
  obtain ⟨⟨b', rfl, b2⟩, hm2, hk2⟩ := hp
  have eb : b = b' := by
    refine bb_eq b1 (b2.trans ⟨fun z => z.elim (fun z => ?_) id, Or.inr⟩)
    subst z
    exact ⟨0, Nat.two_pow_pos _, fun u hu => absurd hu (Nat.not_lt_zero _)⟩
  subst eb
  refine g_icmp_eq (tgt := 683) d_Law_law_364 (by decide) (fun q => ?_) (fun q => ?_)
  · refine g_less (kc' := 3 * r - 3) (ks' := 18 * r - 18) (show 3 * r - 3 ≤ 3 * r - 0 - 0 by omega) (show 18 * r - 18 ≤ 18 * r - 0 - 0 by omega) (nx _ ?_)
    exact ⟨_, _, _, _, _, _, _, _, _, jy_x hap hk2 hx1, hm2, hk0, jy_o hap hk2 (jx_o hap hk1.x ho)⟩
  · exact absurd rfl q
theorem lc_tables (hst : K.1.stackTraces = false) (hap : gAp X Y o) (hsc : gSc K sc n xs) (hn : n ≤ 2048) {i r : Nat} (hi : i + 4 ≤ n) (hr : 1 ≤ r) {Q : Outcome → gH → Prop} (nx : ∀ h, gJ h X Y o → Go K M_Law_law room_1 683 [(0, .ref sc), (1, .ref (X 0)), (2, .ref (Y 0)), (3, .ref o), (4, .int (nI i))] [] h (3 * r - 3) (18 * r - 18) Q) {h : gH} (hJ : gJ h X Y o) : Go K M_Law_law room_1 369 [(0, .ref sc), (1, .ref (X 0)), (2, .ref (Y 0)), (3, .ref o), (4, .int (nI i))] [] h (3 * r) (18 * r) Q := by
  obtain ⟨tx, td, k, c, w, A, CS, cd, f, hx, hm, hk0, ho⟩ := hJ
  refine g_aload_n d_Law_law_369 rfl ?_
  refine g_aload_n d_Law_law_370 rfl ?_
  refine g_callX (c_Law_tables hst hx ho hap.2.1) gm_Law_tables d_Law_law_371 (gInv_s (As := [.ref (X 0), .ref o]) (rest := []) d_Law_law_371 gm_Law_tables gs_Law_95) (Nat.le_of_ble_eq_true rfl) (Nat.le_of_ble_eq_true rfl) (show 1 ≤ _ by omega) (show 6 ≤ _ by omega) (Nat.le_of_ble_eq_true rfl) (fun v1 h1 hp => ?_)
  obtain ⟨x, ⟨hx1, hk1, f1, ho1, e1⟩, hc⟩ := hp
  have hm1 := jo_m hap hk1 hm
  have hv : ∃ y, v1 = some (.int y) := by
    rcases hc with ⟨-, e⟩ | ⟨-, e, -⟩ <;> exact ⟨_, e⟩
  obtain ⟨y, rfl⟩ := hv
  refine g_istore d_Law_law_374 (Nat.le_of_ble_eq_true rfl) rfl ?_
  refine g_aload_n d_Law_law_376 rfl ?_
  refine g_callX (c_Mod_tables hst hm1) gm_Mod_tables d_Law_law_377 (gInv_v (As := []) (rest := []) d_Law_law_377 gm_Mod_tables gv_Law_97 (hm1.obj) rfl) (Nat.le_of_ble_eq_true rfl) (Nat.le_of_ble_eq_true rfl) (Nat.zero_le _) (Nat.zero_le _) (Nat.le_of_ble_eq_true rfl) (fun v2 h2 hp => ?_)
  obtain ⟨cd2, x2, rfl, hm2, hk2, hd⟩ := hp
  have hJ2 : gJ h2 X Y o := ⟨_, _, _, _, _, _, _, _, _, jy_x hap hk2 hx1, hm2, hk0, jy_o hap hk2 ho1⟩
  have ho2 := jy_o hap hk2 ho1
  have key : cd2 = y ∧ (y = 0 → f1 0 = x2.toInt64) := by
    rcases hc with ⟨c1, c2⟩ | ⟨c1, c2, p, c3, c4⟩
    · cases c2
      rcases hd with ⟨d1, d2⟩ | ⟨d1, d2, p2, d3, d4⟩
      · exact ⟨d2, fun z => absurd z (by decide)⟩
      · exact absurd c1 d1
    · cases c2
      rcases hd with ⟨d1, d2⟩ | ⟨d1, d2, p2, d3, d4⟩
      · exact absurd d1 c1
      · exact ⟨d2, fun _ => by rw [e1, c4, d4, tb_eq hx.2.2.2.2.1.2.2 c3 d3]⟩
  refine g_istore d_Law_law_380 (Nat.le_of_ble_eq_true rfl) rfl ?_
  refine g_aload_n d_Law_law_382 rfl ?_
  refine g_callR (c_Mod_thrown hst hm2.gb) gm_Mod_thrown d_Law_law_383 (gInv_v (As := []) (rest := []) d_Law_law_383 gm_Mod_thrown gv_Law_62 (hm2.obj) rfl) (Nat.le_of_ble_eq_true rfl) (Nat.le_of_ble_eq_true rfl) (Nat.zero_le _) (Nat.zero_le _) (Nat.le_of_ble_eq_true rfl) ?_
  refine g_iload d_Law_law_386 rfl ?_
  refine g_icmp_eq (tgt := 393) d_Law_law_388 (by decide) (fun q => ?_) (fun q => ?_)
  · refine g_iload d_Law_law_393 rfl ?_
    refine g_if_ne (tgt := 410) d_Law_law_395 (by decide) (fun q => ?_) (fun q => ?_)
    · refine g_goto (tgt := 683) d_Law_law_410 (by decide) ?_
      refine g_less (kc' := 3 * r - 3) (ks' := 18 * r - 18) (show 3 * r - 3 ≤ 3 * r - 1 - 0 - 0 by omega) (show 18 * r - 18 ≤ 18 * r - 6 - 0 - 0 by omega) (g_drop [(0, .ref sc), (1, .ref (X 0)), (2, .ref (Y 0)), (3, .ref o), (4, .int (nI i))] ⟨rfl, rfl, rfl, rfl, rfl, trivial⟩ (nx _ hJ2))
    · have hz := key.2 q
      refine g_aload_n d_Law_law_398 rfl ?_
      refine g_iconst (v := nI 0) d_Law_law_399 (by decide) ?_
      refine g_lald d_Law_law_400 (ho2) (rfl) (by decide) (by decide) ?_
      refine g_iload d_Law_law_401 rfl ?_
      refine g_i2l d_Law_law_403 ?_
      refine g_lcmp d_Law_law_404 ?_
      refine g_if_eq (tgt := 410) d_Law_law_405 (by decide) (fun q => ?_) (fun q => ?_)
      · refine g_goto (tgt := 683) d_Law_law_410 (by decide) ?_
        refine g_less (kc' := 3 * r - 3) (ks' := 18 * r - 18) (show 3 * r - 3 ≤ 3 * r - 1 - 0 - 0 by omega) (show 18 * r - 18 ≤ 18 * r - 6 - 0 - 0 by omega) (g_drop [(0, .ref sc), (1, .ref (X 0)), (2, .ref (Y 0)), (3, .ref o), (4, .int (nI i))] ⟨rfl, rfl, rfl, rfl, rfl, trivial⟩ (nx _ hJ2))
      · exact absurd ((lg_e _ _).mpr hz) q
  · exact absurd key.1 q
theorem lc_least (hst : K.1.stackTraces = false) (hap : gAp X Y o) (hsc : gSc K sc n xs) (hn : n ≤ 2048) {i r : Nat} (hi : i + 4 ≤ n) (hr : 1 ≤ r) {Q : Outcome → gH → Prop} (nx : ∀ h, gJ h X Y o → Go K M_Law_law room_1 683 [(0, .ref sc), (1, .ref (X 0)), (2, .ref (Y 0)), (3, .ref o), (4, .int (nI i))] [] h (3 * r - 3) (18 * r - 18) Q) {h : gH} (hJ : gJ h X Y o) : Go K M_Law_law room_1 413 [(0, .ref sc), (1, .ref (X 0)), (2, .ref (Y 0)), (3, .ref o), (4, .int (nI i))] [] h (3 * r) (18 * r) Q := by
  obtain ⟨tx, td, k, c, w, A, CS, cd, f, hx, hm, hk0, ho⟩ := hJ
  refine g_aload_n d_Law_law_413 rfl ?_
  refine g_aload_n d_Law_law_414 rfl ?_
  refine g_callX (c_Law_least hst hx ho hap.2.1) gm_Law_least d_Law_law_415 (gInv_s (As := [.ref (X 0), .ref o]) (rest := []) d_Law_law_415 gm_Law_least gs_Law_98) (Nat.le_of_ble_eq_true rfl) (Nat.le_of_ble_eq_true rfl) (show 2 ≤ _ by omega) (show 12 ≤ _ by omega) (Nat.le_of_ble_eq_true rfl) (fun v1 h1 hp => ?_)
  obtain ⟨x, ⟨hx1, hk1, f1, ho1, e1⟩, hc⟩ := hp
  have hm1 := jo_m hap hk1 hm
  have hv : ∃ y, v1 = some (.int y) := by
    rcases hc with ⟨-, e⟩ | ⟨-, -, e⟩ | ⟨-, e, -⟩ <;> exact ⟨_, e⟩
  obtain ⟨y, rfl⟩ := hv
  refine g_istore d_Law_law_418 (Nat.le_of_ble_eq_true rfl) rfl ?_
  refine g_aload_n d_Law_law_420 rfl ?_
  refine g_callX (c_Mod_least hst hm1) gm_Mod_least d_Law_law_421 (gInv_v (As := []) (rest := []) d_Law_law_421 gm_Mod_least gv_Law_100 (hm1.obj) rfl) (Nat.le_of_ble_eq_true rfl) (Nat.le_of_ble_eq_true rfl) (Nat.zero_le _) (Nat.zero_le _) (Nat.le_of_ble_eq_true rfl) (fun v2 h2 hp => ?_)
  obtain ⟨cd2, x2, rfl, hm2, hk2, hd⟩ := hp
  have hJ2 : gJ h2 X Y o := ⟨_, _, _, _, _, _, _, _, _, jy_x hap hk2 hx1, hm2, hk0, jy_o hap hk2 ho1⟩
  have ho2 := jy_o hap hk2 ho1
  have key : cd2 = y ∧ (y = 0 → f1 0 = x2.toInt64) := by
    rcases hc with ⟨c1, c2⟩ | ⟨c1, c3, c2⟩ | ⟨c1, c2, n1, c4, c5, c6, c7⟩
    · cases c2
      rcases hd with ⟨d1, d2⟩ | ⟨d1, d3, d2⟩ | ⟨d1, d2, n2, d4, d5, d6, d7⟩
      · exact ⟨d2, fun z => absurd z (by decide)⟩
      · exact absurd c1 d1
      · exact absurd c1 d1
    · cases c2
      rcases hd with ⟨d1, d2⟩ | ⟨d1, d3, d2⟩ | ⟨d1, d2, n2, d4, d5, d6, d7⟩
      · exact absurd d1 c1
      · exact ⟨d2, fun z => absurd z (by decide)⟩
      · exact absurd ⟨n2, d4, d5⟩ c3
    · cases c2
      rcases hd with ⟨d1, d2⟩ | ⟨d1, d3, d2⟩ | ⟨d1, d2, n2, d4, d5, d6, d7⟩
      · exact absurd d1 c1
      · exact absurd ⟨n1, c4, c5⟩ d3
      · refine ⟨d2, fun _ => ?_⟩
        have en : n1 = n2 := by
          rcases Nat.lt_trichotomy n1 n2 with z | z | z
          · exact absurd c5 (d6 n1 z)
          · exact z
          · exact absurd d5 (c6 n2 z)
        rw [e1, c7, d7, en]
  refine g_istore d_Law_law_424 (Nat.le_of_ble_eq_true rfl) rfl ?_
  refine g_aload_n d_Law_law_426 rfl ?_
  refine g_callR (c_Mod_thrown hst hm2.gb) gm_Mod_thrown d_Law_law_427 (gInv_v (As := []) (rest := []) d_Law_law_427 gm_Mod_thrown gv_Law_62 (hm2.obj) rfl) (Nat.le_of_ble_eq_true rfl) (Nat.le_of_ble_eq_true rfl) (Nat.zero_le _) (Nat.zero_le _) (Nat.le_of_ble_eq_true rfl) ?_
  refine g_iload d_Law_law_430 rfl ?_
  refine g_icmp_eq (tgt := 437) d_Law_law_432 (by decide) (fun q => ?_) (fun q => ?_)
  · refine g_iload d_Law_law_437 rfl ?_
    refine g_if_ne (tgt := 454) d_Law_law_439 (by decide) (fun q => ?_) (fun q => ?_)
    · refine g_goto (tgt := 683) d_Law_law_454 (by decide) ?_
      refine g_less (kc' := 3 * r - 3) (ks' := 18 * r - 18) (show 3 * r - 3 ≤ 3 * r - 2 - 0 - 0 by omega) (show 18 * r - 18 ≤ 18 * r - 12 - 0 - 0 by omega) (g_drop [(0, .ref sc), (1, .ref (X 0)), (2, .ref (Y 0)), (3, .ref o), (4, .int (nI i))] ⟨rfl, rfl, rfl, rfl, rfl, trivial⟩ (nx _ hJ2))
    · have hz := key.2 q
      refine g_aload_n d_Law_law_442 rfl ?_
      refine g_iconst (v := nI 0) d_Law_law_443 (by decide) ?_
      refine g_lald d_Law_law_444 (ho2) (rfl) (by decide) (by decide) ?_
      refine g_iload d_Law_law_445 rfl ?_
      refine g_i2l d_Law_law_447 ?_
      refine g_lcmp d_Law_law_448 ?_
      refine g_if_eq (tgt := 454) d_Law_law_449 (by decide) (fun q => ?_) (fun q => ?_)
      · refine g_goto (tgt := 683) d_Law_law_454 (by decide) ?_
        refine g_less (kc' := 3 * r - 3) (ks' := 18 * r - 18) (show 3 * r - 3 ≤ 3 * r - 2 - 0 - 0 by omega) (show 18 * r - 18 ≤ 18 * r - 12 - 0 - 0 by omega) (g_drop [(0, .ref sc), (1, .ref (X 0)), (2, .ref (Y 0)), (3, .ref o), (4, .int (nI i))] ⟨rfl, rfl, rfl, rfl, rfl, trivial⟩ (nx _ hJ2))
      · exact absurd ((lg_e _ _).mpr hz) q
  · exact absurd key.1 q
theorem lc_greatest (hst : K.1.stackTraces = false) (hap : gAp X Y o) (hsc : gSc K sc n xs) (hn : n ≤ 2048) {i r : Nat} (hi : i + 4 ≤ n) (hr : 1 ≤ r) {Q : Outcome → gH → Prop} (nx : ∀ h, gJ h X Y o → Go K M_Law_law room_1 683 [(0, .ref sc), (1, .ref (X 0)), (2, .ref (Y 0)), (3, .ref o), (4, .int (nI i))] [] h (3 * r - 3) (18 * r - 18) Q) {h : gH} (hJ : gJ h X Y o) : Go K M_Law_law room_1 457 [(0, .ref sc), (1, .ref (X 0)), (2, .ref (Y 0)), (3, .ref o), (4, .int (nI i))] [] h (3 * r) (18 * r) Q := by
  obtain ⟨tx, td, k, c, w, A, CS, cd, f, hx, hm, hk0, ho⟩ := hJ
  refine g_aload_n d_Law_law_457 rfl ?_
  refine g_aload_n d_Law_law_458 rfl ?_
  refine g_callX (c_Law_greatest hst hx ho hap.2.1) gm_Law_greatest d_Law_law_459 (gInv_s (As := [.ref (X 0), .ref o]) (rest := []) d_Law_law_459 gm_Law_greatest gs_Law_101) (Nat.le_of_ble_eq_true rfl) (Nat.le_of_ble_eq_true rfl) (show 2 ≤ _ by omega) (show 12 ≤ _ by omega) (Nat.le_of_ble_eq_true rfl) (fun v1 h1 hp => ?_)
  obtain ⟨x, ⟨hx1, hk1, f1, ho1, e1⟩, hc⟩ := hp
  have hm1 := jo_m hap hk1 hm
  have hv : ∃ y, v1 = some (.int y) := by
    rcases hc with ⟨-, e⟩ | ⟨-, -, e⟩ | ⟨-, e, -⟩ <;> exact ⟨_, e⟩
  obtain ⟨y, rfl⟩ := hv
  refine g_istore d_Law_law_462 (Nat.le_of_ble_eq_true rfl) rfl ?_
  refine g_aload_n d_Law_law_464 rfl ?_
  refine g_callX (c_Mod_greatest hst hm1) gm_Mod_greatest d_Law_law_465 (gInv_v (As := []) (rest := []) d_Law_law_465 gm_Mod_greatest gv_Law_103 (hm1.obj) rfl) (Nat.le_of_ble_eq_true rfl) (Nat.le_of_ble_eq_true rfl) (Nat.zero_le _) (Nat.zero_le _) (Nat.le_of_ble_eq_true rfl) (fun v2 h2 hp => ?_)
  obtain ⟨cd2, x2, rfl, hm2, hk2, hd⟩ := hp
  have hJ2 : gJ h2 X Y o := ⟨_, _, _, _, _, _, _, _, _, jy_x hap hk2 hx1, hm2, hk0, jy_o hap hk2 ho1⟩
  have ho2 := jy_o hap hk2 ho1
  have key : cd2 = y ∧ (y = 0 → f1 0 = x2.toInt64) := by
    rcases hc with ⟨c1, c2⟩ | ⟨c1, c3, c2⟩ | ⟨c1, c2, n1, c4, c5, c6, c7⟩
    · cases c2
      rcases hd with ⟨d1, d2⟩ | ⟨d1, d3, d2⟩ | ⟨d1, d2, n2, d4, d5, d6, d7⟩
      · exact ⟨d2, fun z => absurd z (by decide)⟩
      · exact absurd c1 d1
      · exact absurd c1 d1
    · cases c2
      rcases hd with ⟨d1, d2⟩ | ⟨d1, d3, d2⟩ | ⟨d1, d2, n2, d4, d5, d6, d7⟩
      · exact absurd d1 c1
      · exact ⟨d2, fun z => absurd z (by decide)⟩
      · exact absurd ⟨n2, d4, d5⟩ c3
    · cases c2
      rcases hd with ⟨d1, d2⟩ | ⟨d1, d3, d2⟩ | ⟨d1, d2, n2, d4, d5, d6, d7⟩
      · exact absurd d1 c1
      · exact absurd ⟨n1, c4, c5⟩ d3
      · refine ⟨d2, fun _ => ?_⟩
        have en : n1 = n2 := by
          rcases Nat.lt_trichotomy n1 n2 with z | z | z
          · exact absurd d5 (c6 n2 z d4)
          · exact z
          · exact absurd c5 (d6 n1 z c4)
        rw [e1, c7, d7, en]
  refine g_istore d_Law_law_468 (Nat.le_of_ble_eq_true rfl) rfl ?_
  refine g_aload_n d_Law_law_470 rfl ?_
  refine g_callR (c_Mod_thrown hst hm2.gb) gm_Mod_thrown d_Law_law_471 (gInv_v (As := []) (rest := []) d_Law_law_471 gm_Mod_thrown gv_Law_62 (hm2.obj) rfl) (Nat.le_of_ble_eq_true rfl) (Nat.le_of_ble_eq_true rfl) (Nat.zero_le _) (Nat.zero_le _) (Nat.le_of_ble_eq_true rfl) ?_
  refine g_iload d_Law_law_474 rfl ?_
  refine g_icmp_eq (tgt := 481) d_Law_law_476 (by decide) (fun q => ?_) (fun q => ?_)
  · refine g_iload d_Law_law_481 rfl ?_
    refine g_if_ne (tgt := 498) d_Law_law_483 (by decide) (fun q => ?_) (fun q => ?_)
    · refine g_goto (tgt := 683) d_Law_law_498 (by decide) ?_
      refine g_less (kc' := 3 * r - 3) (ks' := 18 * r - 18) (show 3 * r - 3 ≤ 3 * r - 2 - 0 - 0 by omega) (show 18 * r - 18 ≤ 18 * r - 12 - 0 - 0 by omega) (g_drop [(0, .ref sc), (1, .ref (X 0)), (2, .ref (Y 0)), (3, .ref o), (4, .int (nI i))] ⟨rfl, rfl, rfl, rfl, rfl, trivial⟩ (nx _ hJ2))
    · have hz := key.2 q
      refine g_aload_n d_Law_law_486 rfl ?_
      refine g_iconst (v := nI 0) d_Law_law_487 (by decide) ?_
      refine g_lald d_Law_law_488 (ho2) (rfl) (by decide) (by decide) ?_
      refine g_iload d_Law_law_489 rfl ?_
      refine g_i2l d_Law_law_491 ?_
      refine g_lcmp d_Law_law_492 ?_
      refine g_if_eq (tgt := 498) d_Law_law_493 (by decide) (fun q => ?_) (fun q => ?_)
      · refine g_goto (tgt := 683) d_Law_law_498 (by decide) ?_
        refine g_less (kc' := 3 * r - 3) (ks' := 18 * r - 18) (show 3 * r - 3 ≤ 3 * r - 2 - 0 - 0 by omega) (show 18 * r - 18 ≤ 18 * r - 12 - 0 - 0 by omega) (g_drop [(0, .ref sc), (1, .ref (X 0)), (2, .ref (Y 0)), (3, .ref o), (4, .int (nI i))] ⟨rfl, rfl, rfl, rfl, rfl, trivial⟩ (nx _ hJ2))
      · exact absurd ((lg_e _ _).mpr hz) q
  · exact absurd key.1 q
theorem lc_forced (hst : K.1.stackTraces = false) (hap : gAp X Y o) (hsc : gSc K sc n xs) (hn : n ≤ 2048) {i r : Nat} (hi : i + 4 ≤ n) (hr : 1 ≤ r) {Q : Outcome → gH → Prop} (nx : ∀ h, gJ h X Y o → Go K M_Law_law room_1 683 [(0, .ref sc), (1, .ref (X 0)), (2, .ref (Y 0)), (3, .ref o), (4, .int (nI i))] [] h (3 * r - 3) (18 * r - 18) Q) {h : gH} (hJ : gJ h X Y o) : Go K M_Law_law room_1 501 [(0, .ref sc), (1, .ref (X 0)), (2, .ref (Y 0)), (3, .ref o), (4, .int (nI i))] [] h (3 * r) (18 * r) Q := by
  obtain ⟨tx, td, k, c, w, A, CS, cd, f, hx, hm, hk0, ho⟩ := hJ
  refine g_aload_n d_Law_law_501 rfl ?_
  refine g_aload_n d_Law_law_502 rfl ?_
  refine g_iload d_Law_law_503 rfl ?_
  refine g_iconst (v := nI 1) d_Law_law_505 (by decide) ?_
  refine g_iadd d_Law_law_506 ?_
  refine g_iald0 d_Law_law_507 hsc (nI_add i 1) (by omega) (by omega) ?_
  refine g_aload_n d_Law_law_508 rfl ?_
  refine g_callX (c_Law_forced hst hx ho hap.2.1 (xs (i + 1))) gm_Law_forced d_Law_law_509 (gInv_s (As := [.ref (X 0), .int (xs (i + 1)), .ref o]) (rest := []) d_Law_law_509 gm_Law_forced gs_Law_104) (Nat.le_of_ble_eq_true rfl) (Nat.le_of_ble_eq_true rfl) (show 3 ≤ _ by omega) (show 18 ≤ _ by omega) (Nat.le_of_ble_eq_true rfl) (fun v1 h1 hp => ?_)
  obtain ⟨x, ⟨hx1, hk1, f1, ho1, e1⟩, hc⟩ := hp
  have hm1 := jo_m hap hk1 hm
  have hv : ∃ y, v1 = some (.int y) := by
    rcases hc with ⟨-, e⟩ | ⟨-, -, e⟩ | ⟨-, -, -, e⟩ | ⟨-, e, -⟩ <;> exact ⟨_, e⟩
  obtain ⟨y, rfl⟩ := hv
  refine g_istore d_Law_law_512 (Nat.le_of_ble_eq_true rfl) rfl ?_
  refine g_aload_n d_Law_law_514 rfl ?_
  refine g_aload_n d_Law_law_515 rfl ?_
  refine g_iload d_Law_law_516 rfl ?_
  refine g_iconst (v := nI 1) d_Law_law_518 (by decide) ?_
  refine g_iadd d_Law_law_519 ?_
  refine g_iald0 d_Law_law_520 hsc (nI_add i 1) (by omega) (by omega) ?_
  refine g_callX (c_Mod_forced hst hm1 (xs (i + 1))) gm_Mod_forced d_Law_law_521 (gInv_v (As := [.int (xs (i + 1))]) (rest := []) d_Law_law_521 gm_Mod_forced gv_Law_107 (hm1.obj) rfl) (Nat.le_of_ble_eq_true rfl) (Nat.le_of_ble_eq_true rfl) (Nat.zero_le _) (Nat.zero_le _) (Nat.le_of_ble_eq_true rfl) (fun v2 h2 hp => ?_)
  obtain ⟨cd2, x2, rfl, hm2, hk2, hd⟩ := hp
  have hJ2 : gJ h2 X Y o := ⟨_, _, _, _, _, _, _, _, _, jy_x hap hk2 hx1, hm2, hk0, jy_o hap hk2 ho1⟩
  have ho2 := jy_o hap hk2 ho1
  have h12 := hx.2.2.2.2.1.2.2
  have key : cd2 = y ∧ (y = 0 → f1 0 = x2.toInt64) := by
    rcases hc with ⟨c1, c2⟩ | ⟨c1, c3, c2⟩ | ⟨c1, c3, c4, c2⟩ | ⟨c1, c2, j, c3, c4, c5, y1, z1, c6, c7, c8⟩
    · cases c2
      rcases hd with ⟨d1, d2⟩ | ⟨d1, d3, d2⟩ | ⟨d1, d3, d4, d2⟩ | ⟨d1, d2, j2, d3, d4, d5, y2, z2, d6, d7, d8⟩
      · exact ⟨d2, fun z => absurd z (by decide)⟩
      · exact absurd c1 d1
      · exact absurd c1 d1
      · exact absurd c1 d1
    · cases c2
      rcases hd with ⟨d1, d2⟩ | ⟨d1, d3, d2⟩ | ⟨d1, d3, d4, d2⟩ | ⟨d1, d2, j2, d3, d4, d5, y2, z2, d6, d7, d8⟩
      · exact absurd d1 c1
      · exact ⟨d2, fun z => absurd z (by decide)⟩
      · exact absurd d3 c3
      · exact absurd ⟨by rw [d4]; exact nI_pos (by omega), by rw [d4]; exact nI_lt d3 (by omega)⟩ c3
    · cases c2
      rcases hd with ⟨d1, d2⟩ | ⟨d1, d3, d2⟩ | ⟨d1, d3, d4, d2⟩ | ⟨d1, d2, j2, d3, d4, d5, y2, z2, d6, d7, d8⟩
      · exact absurd d1 c1
      · exact absurd c3 d3
      · exact ⟨d2, fun z => absurd z (by decide)⟩
      · exact absurd d5 c4
    · cases c2
      rcases hd with ⟨d1, d2⟩ | ⟨d1, d3, d2⟩ | ⟨d1, d3, d4, d2⟩ | ⟨d1, d2, j2, d3, d4, d5, y2, z2, d6, d7, d8⟩
      · exact absurd d1 c1
      · exact absurd ⟨by rw [c4]; exact nI_pos (by omega), by rw [c4]; exact nI_lt c3 (by omega)⟩ d3
      · exact absurd c5 d4
      · refine ⟨d2, fun _ => ?_⟩
        have ej : j = j2 := (nI_eq (by omega) (by omega)).mp (c4.symm.trans d4)
        subst ej
        rw [e1, c8, d8, bb_eq c6 d6, bb_eq c7 d7]
  refine g_istore d_Law_law_524 (Nat.le_of_ble_eq_true rfl) rfl ?_
  refine g_aload_n d_Law_law_526 rfl ?_
  refine g_callR (c_Mod_thrown hst hm2.gb) gm_Mod_thrown d_Law_law_527 (gInv_v (As := []) (rest := []) d_Law_law_527 gm_Mod_thrown gv_Law_62 (hm2.obj) rfl) (Nat.le_of_ble_eq_true rfl) (Nat.le_of_ble_eq_true rfl) (Nat.zero_le _) (Nat.zero_le _) (Nat.le_of_ble_eq_true rfl) ?_
  refine g_iload d_Law_law_530 rfl ?_
  refine g_icmp_eq (tgt := 537) d_Law_law_532 (by decide) (fun q => ?_) (fun q => ?_)
  · refine g_iload d_Law_law_537 rfl ?_
    refine g_if_ne (tgt := 554) d_Law_law_539 (by decide) (fun q => ?_) (fun q => ?_)
    · refine g_goto (tgt := 683) d_Law_law_554 (by decide) ?_
      refine g_less (kc' := 3 * r - 3) (ks' := 18 * r - 18) (show 3 * r - 3 ≤ 3 * r - 3 - 0 - 0 by omega) (show 18 * r - 18 ≤ 18 * r - 18 - 0 - 0 by omega) (g_drop [(0, .ref sc), (1, .ref (X 0)), (2, .ref (Y 0)), (3, .ref o), (4, .int (nI i))] ⟨rfl, rfl, rfl, rfl, rfl, trivial⟩ (nx _ hJ2))
    · have hz := key.2 q
      refine g_aload_n d_Law_law_542 rfl ?_
      refine g_iconst (v := nI 0) d_Law_law_543 (by decide) ?_
      refine g_lald d_Law_law_544 (ho2) (rfl) (by decide) (by decide) ?_
      refine g_iload d_Law_law_545 rfl ?_
      refine g_i2l d_Law_law_547 ?_
      refine g_lcmp d_Law_law_548 ?_
      refine g_if_eq (tgt := 554) d_Law_law_549 (by decide) (fun q => ?_) (fun q => ?_)
      · refine g_goto (tgt := 683) d_Law_law_554 (by decide) ?_
        refine g_less (kc' := 3 * r - 3) (ks' := 18 * r - 18) (show 3 * r - 3 ≤ 3 * r - 3 - 0 - 0 by omega) (show 18 * r - 18 ≤ 18 * r - 18 - 0 - 0 by omega) (g_drop [(0, .ref sc), (1, .ref (X 0)), (2, .ref (Y 0)), (3, .ref o), (4, .int (nI i))] ⟨rfl, rfl, rfl, rfl, rfl, trivial⟩ (nx _ hJ2))
      · exact absurd ((lg_e _ _).mpr hz) q
  · exact absurd key.1 q
theorem lc_without (hst : K.1.stackTraces = false) (hap : gAp X Y o) (hsc : gSc K sc n xs) (hn : n ≤ 2048) {i r : Nat} (hi : i + 4 ≤ n) (hr : 1 ≤ r) {Q : Outcome → gH → Prop} (nx : ∀ h, gJ h X Y o → Go K M_Law_law room_1 683 [(0, .ref sc), (1, .ref (X 0)), (2, .ref (Y 0)), (3, .ref o), (4, .int (nI i))] [] h (3 * r - 3) (18 * r - 18) Q) {h : gH} (hJ : gJ h X Y o) : Go K M_Law_law room_1 557 [(0, .ref sc), (1, .ref (X 0)), (2, .ref (Y 0)), (3, .ref o), (4, .int (nI i))] [] h (3 * r) (18 * r) Q := by
  obtain ⟨tx, td, k, c, w, A, CS, cd, f, hx, hm, hk0, ho⟩ := hJ
  refine g_aload_n d_Law_law_557 rfl ?_
  refine g_aload_n d_Law_law_558 rfl ?_
  refine g_iload d_Law_law_559 rfl ?_
  refine g_iconst (v := nI 1) d_Law_law_561 (by decide) ?_
  refine g_iadd d_Law_law_562 ?_
  refine g_iald0 d_Law_law_563 hsc (nI_add i 1) (by omega) (by omega) ?_
  refine g_aload_n d_Law_law_564 rfl ?_
  refine g_callX (c_Law_without hst hx ho hap.2.1 (xs (i + 1))) gm_Law_without d_Law_law_565 (gInv_s (As := [.ref (X 0), .int (xs (i + 1)), .ref o]) (rest := []) d_Law_law_565 gm_Law_without gs_Law_108) (Nat.le_of_ble_eq_true rfl) (Nat.le_of_ble_eq_true rfl) (show 2 ≤ _ by omega) (show 12 ≤ _ by omega) (Nat.le_of_ble_eq_true rfl) (fun v1 h1 hp => ?_)
  obtain ⟨x, ⟨hx1, hk1, f1, ho1, e1⟩, hc⟩ := hp
  have hm1 := jo_m hap hk1 hm
  have hv : ∃ y, v1 = some (.int y) := by
    rcases hc with ⟨-, e⟩ | ⟨-, -, e⟩ | ⟨-, e, -⟩ <;> exact ⟨_, e⟩
  obtain ⟨y, rfl⟩ := hv
  refine g_istore d_Law_law_568 (Nat.le_of_ble_eq_true rfl) rfl ?_
  refine g_aload_n d_Law_law_570 rfl ?_
  refine g_aload_n d_Law_law_571 rfl ?_
  refine g_iload d_Law_law_572 rfl ?_
  refine g_iconst (v := nI 1) d_Law_law_574 (by decide) ?_
  refine g_iadd d_Law_law_575 ?_
  refine g_iald0 d_Law_law_576 hsc (nI_add i 1) (by omega) (by omega) ?_
  refine g_callX (c_Mod_without hst hm1 (xs (i + 1))) gm_Mod_without d_Law_law_577 (gInv_v (As := [.int (xs (i + 1))]) (rest := []) d_Law_law_577 gm_Mod_without gv_Law_110 (hm1.obj) rfl) (Nat.le_of_ble_eq_true rfl) (Nat.le_of_ble_eq_true rfl) (Nat.zero_le _) (Nat.zero_le _) (Nat.le_of_ble_eq_true rfl) (fun v2 h2 hp => ?_)
  obtain ⟨cd2, x2, rfl, hm2, hk2, hd⟩ := hp
  have hJ2 : gJ h2 X Y o := ⟨_, _, _, _, _, _, _, _, _, jy_x hap hk2 hx1, hm2, hk0, jy_o hap hk2 ho1⟩
  have ho2 := jy_o hap hk2 ho1
  have h12 := hx.2.2.2.2.1.2.1
  have key3 : ∃ b9, x2 = bI b9 := by
    rcases hd with ⟨-, -, b9, e9⟩ | ⟨-, -, -, b9, e9⟩ | ⟨-, -, u, -, -, b9, -, e9⟩ <;> exact ⟨b9, e9⟩
  have key : cd2 = y ∧ (y = 0 → f1 0 = x2.toInt64) := by
    rcases hc with ⟨c1, c2⟩ | ⟨c1, c3, c2⟩ | ⟨c1, c2, u, c3, c4, b1, c5, c6⟩
    · cases c2
      rcases hd with ⟨d1, d2, -⟩ | ⟨d1, d3, d2, -⟩ | ⟨d1, d2, u2, d3, d4, b2, d5, d6⟩
      · exact ⟨d2, fun z => absurd z (by decide)⟩
      · exact absurd c1 d1
      · exact absurd c1 d1
    · cases c2
      rcases hd with ⟨d1, d2, -⟩ | ⟨d1, d3, d2, -⟩ | ⟨d1, d2, u2, d3, d4, b2, d5, d6⟩
      · exact absurd d1 c1
      · exact ⟨d2, fun z => absurd z (by decide)⟩
      · exact absurd ⟨by rw [d4]; exact nI_pos (by omega), by rw [d4]; exact nI_lt d3 (by omega)⟩ c3
    · cases c2
      rcases hd with ⟨d1, d2, -⟩ | ⟨d1, d3, d2, -⟩ | ⟨d1, d2, u2, d3, d4, b2, d5, d6⟩
      · exact absurd d1 c1
      · exact absurd ⟨by rw [c4]; exact nI_pos (by omega), by rw [c4]; exact nI_lt c3 (by omega)⟩ d3
      · refine ⟨d2, fun _ => ?_⟩
        have ej : u = u2 := (nI_eq (by omega) (by omega)).mp (c4.symm.trans d4)
        subst ej
        rw [e1, c6, d6, bb_eq c5 d5]
        exact bL_l b2
  refine g_istore d_Law_law_580 (Nat.le_of_ble_eq_true rfl) rfl ?_
  refine g_aload_n d_Law_law_582 rfl ?_
  refine g_callR (c_Mod_thrown hst hm2.gb) gm_Mod_thrown d_Law_law_583 (gInv_v (As := []) (rest := []) d_Law_law_583 gm_Mod_thrown gv_Law_62 (hm2.obj) rfl) (Nat.le_of_ble_eq_true rfl) (Nat.le_of_ble_eq_true rfl) (Nat.zero_le _) (Nat.zero_le _) (Nat.le_of_ble_eq_true rfl) ?_
  refine g_iload d_Law_law_586 rfl ?_
  refine g_icmp_eq (tgt := 593) d_Law_law_588 (by decide) (fun q => ?_) (fun q => ?_)
  · refine g_iload d_Law_law_593 rfl ?_
    refine g_if_ne (tgt := 617) d_Law_law_595 (by decide) (fun q => ?_) (fun q => ?_)
    · refine g_goto (tgt := 683) d_Law_law_617 (by decide) ?_
      refine g_less (kc' := 3 * r - 3) (ks' := 18 * r - 18) (show 3 * r - 3 ≤ 3 * r - 2 - 0 - 0 by omega) (show 18 * r - 18 ≤ 18 * r - 12 - 0 - 0 by omega) (g_drop [(0, .ref sc), (1, .ref (X 0)), (2, .ref (Y 0)), (3, .ref o), (4, .int (nI i))] ⟨rfl, rfl, rfl, rfl, rfl, trivial⟩ (nx _ hJ2))
    · have hz := key.2 q
      refine g_aload_n d_Law_law_598 rfl ?_
      refine g_iconst (v := nI 0) d_Law_law_599 (by decide) ?_
      refine g_lald d_Law_law_600 (ho2) (rfl) (by decide) (by decide) ?_
      refine g_iload d_Law_law_601 rfl ?_
      obtain ⟨b9, rfl⟩ := key3
      have fin9 : ∀ x9 : Int64, x9 = bL b9 → Go K M_Law_law room_1 611 [(0, .ref sc), (1, .ref (X 0)), (2, .ref (Y 0)), (3, .ref o), (4, .int (nI i)), (5, .int y), (6, .int (bI b9))] [.long x9, .long (f1 0)] h2 (3 * r - 2 - 0 - 0) (18 * r - 12 - 0 - 0) Q := by
        intro x9 hx9
        refine g_lcmp d_Law_law_611 ?_
        refine g_if_eq (tgt := 617) d_Law_law_612 (by decide) (fun q => ?_) (fun q => ?_)
        · refine g_goto (tgt := 683) d_Law_law_617 (by decide) ?_
          refine g_less (kc' := 3 * r - 3) (ks' := 18 * r - 18) (show 3 * r - 3 ≤ 3 * r - 2 - 0 - 0 by omega) (show 18 * r - 18 ≤ 18 * r - 12 - 0 - 0 by omega) (g_drop [(0, .ref sc), (1, .ref (X 0)), (2, .ref (Y 0)), (3, .ref o), (4, .int (nI i))] ⟨rfl, rfl, rfl, rfl, rfl, trivial⟩ (nx _ hJ2))
        · exact absurd ((lg_e _ _).mpr (hz.trans (hx9.trans (bL_l b9)).symm)) q
      refine g_if_eq (tgt := 610) d_Law_law_603 (by decide) (fun q => ?_) (fun q => ?_)
      · refine g_lconstV (v := 0) d_Law_law_610 (by decide) ?_
        exact fin9 0 (by rw [(bI_z _).mp q]; rfl)
      · refine g_lconstV (v := 1) d_Law_law_606 (by decide) ?_
        refine g_goto (tgt := 611) d_Law_law_607 (by decide) ?_
        exact fin9 1 (by rw [bI_t q]; rfl)
  · exact absurd key.1 q
theorem lc_core (hst : K.1.stackTraces = false) (hap : gAp X Y o) (hsc : gSc K sc n xs) (hn : n ≤ 2048) {i r : Nat} (hi : i + 4 ≤ n) (hr : 1 ≤ r) {Q : Outcome → gH → Prop} (nx : ∀ h, gJ h X Y o → Go K M_Law_law room_1 683 [(0, .ref sc), (1, .ref (X 0)), (2, .ref (Y 0)), (3, .ref o), (4, .int (nI i))] [] h (3 * r - 3) (18 * r - 18) Q) {h : gH} (hJ : gJ h X Y o) : Go K M_Law_law room_1 620 [(0, .ref sc), (1, .ref (X 0)), (2, .ref (Y 0)), (3, .ref o), (4, .int (nI i))] [] h (3 * r) (18 * r) Q := by
  obtain ⟨tx, td, k, c, w, A, CS, cd, f, hx, hm, hk0, ho⟩ := hJ
  refine g_aload_n d_Law_law_620 rfl ?_
  refine g_aload_n d_Law_law_621 rfl ?_
  refine g_iload d_Law_law_622 rfl ?_
  refine g_iconst (v := nI 1) d_Law_law_624 (by decide) ?_
  refine g_iadd d_Law_law_625 ?_
  refine g_iald0 d_Law_law_626 hsc (nI_add i 1) (by omega) (by omega) ?_
  refine g_aload_n d_Law_law_627 rfl ?_
  refine g_callX (c_Law_core hst hx ho hap.2.1 (xs (i + 1))) gm_Law_core d_Law_law_628 (gInv_s (As := [.ref (X 0), .int (xs (i + 1)), .ref o]) (rest := []) d_Law_law_628 gm_Law_core gs_Law_111) (Nat.le_of_ble_eq_true rfl) (Nat.le_of_ble_eq_true rfl) (show 2 ≤ _ by omega) (show 12 ≤ _ by omega) (Nat.le_of_ble_eq_true rfl) (fun v1 h1 hp => ?_)
  obtain ⟨x, ⟨hx1, hk1, f1, ho1, e1⟩, hc⟩ := hp
  have hm1 := jo_m hap hk1 hm
  have hv : ∃ y, v1 = some (.int y) := by
    rcases hc with ⟨-, e⟩ | ⟨-, -, e⟩ | ⟨-, e, -⟩ <;> exact ⟨_, e⟩
  obtain ⟨y, rfl⟩ := hv
  refine g_istore d_Law_law_631 (Nat.le_of_ble_eq_true rfl) rfl ?_
  refine g_aload_n d_Law_law_633 rfl ?_
  refine g_aload_n d_Law_law_634 rfl ?_
  refine g_iload d_Law_law_635 rfl ?_
  refine g_iconst (v := nI 1) d_Law_law_637 (by decide) ?_
  refine g_iadd d_Law_law_638 ?_
  refine g_iald0 d_Law_law_639 hsc (nI_add i 1) (by omega) (by omega) ?_
  refine g_callX (c_Mod_core hst hm1 (xs (i + 1))) gm_Mod_core d_Law_law_640 (gInv_v (As := [.int (xs (i + 1))]) (rest := []) d_Law_law_640 gm_Mod_core gv_Law_113 (hm1.obj) rfl) (Nat.le_of_ble_eq_true rfl) (Nat.le_of_ble_eq_true rfl) (Nat.zero_le _) (Nat.zero_le _) (Nat.le_of_ble_eq_true rfl) (fun v2 h2 hp => ?_)
  obtain ⟨cd2, x2, rfl, hm2, hk2, hd⟩ := hp
  have hJ2 : gJ h2 X Y o := ⟨_, _, _, _, _, _, _, _, _, jy_x hap hk2 hx1, hm2, hk0, jy_o hap hk2 ho1⟩
  have ho2 := jy_o hap hk2 ho1
  have h12 := hx.2.2.2.2.1.2.1
  have h13 := pwA h12
  have h14 := Nat.one_le_two_pow (n := k)
  have key3 : ∃ b9, x2 = bI b9 := by
    rcases hd with ⟨-, -, b9, e9⟩ | ⟨-, -, -, b9, e9⟩ | ⟨-, -, u, -, -, b9, -, e9⟩ <;> exact ⟨b9, e9⟩
  have key : cd2 = y ∧ (y = 0 → f1 0 = x2.toInt64) := by
    rcases hc with ⟨c1, c2⟩ | ⟨c1, c3, c2⟩ | ⟨c1, c2, u, c3, c4, b1, c5, c6⟩
    · cases c2
      rcases hd with ⟨d1, d2, -⟩ | ⟨d1, d3, d2, -⟩ | ⟨d1, d2, u2, d3, d4, b2, d5, d6⟩
      · exact ⟨d2, fun z => absurd z (by decide)⟩
      · exact absurd c1 d1
      · exact absurd c1 d1
    · cases c2
      rcases hd with ⟨d1, d2, -⟩ | ⟨d1, d3, d2, -⟩ | ⟨d1, d2, u2, d3, d4, b2, d5, d6⟩
      · exact absurd d1 c1
      · exact ⟨d2, fun z => absurd z (by decide)⟩
      · exact absurd ⟨by rw [d4]; exact nI_pos (by omega), by rw [d4]; exact (nI_leI (by omega) (by omega)).mpr (by omega)⟩ c3
    · cases c2
      rcases hd with ⟨d1, d2, -⟩ | ⟨d1, d3, d2, -⟩ | ⟨d1, d2, u2, d3, d4, b2, d5, d6⟩
      · exact absurd d1 c1
      · exact absurd ⟨by rw [c4]; exact nI_pos (by omega), by rw [c4]; exact (nI_leI (by omega) (by omega)).mpr (by omega)⟩ d3
      · refine ⟨d2, fun _ => ?_⟩
        have ej : u = u2 := (nI_eq (by omega) (by omega)).mp (c4.symm.trans d4)
        subst ej
        rw [e1, c6, d6, bb_eq c5 d5]
        exact bL_l b2
  refine g_istore d_Law_law_643 (Nat.le_of_ble_eq_true rfl) rfl ?_
  refine g_aload_n d_Law_law_645 rfl ?_
  refine g_callR (c_Mod_thrown hst hm2.gb) gm_Mod_thrown d_Law_law_646 (gInv_v (As := []) (rest := []) d_Law_law_646 gm_Mod_thrown gv_Law_62 (hm2.obj) rfl) (Nat.le_of_ble_eq_true rfl) (Nat.le_of_ble_eq_true rfl) (Nat.zero_le _) (Nat.zero_le _) (Nat.le_of_ble_eq_true rfl) ?_
  refine g_iload d_Law_law_649 rfl ?_
  refine g_icmp_eq (tgt := 656) d_Law_law_651 (by decide) (fun q => ?_) (fun q => ?_)
  · refine g_iload d_Law_law_656 rfl ?_
    refine g_if_ne (tgt := 680) d_Law_law_658 (by decide) (fun q => ?_) (fun q => ?_)
    · refine g_goto (tgt := 683) d_Law_law_680 (by decide) ?_
      refine g_less (kc' := 3 * r - 3) (ks' := 18 * r - 18) (show 3 * r - 3 ≤ 3 * r - 2 - 0 - 0 by omega) (show 18 * r - 18 ≤ 18 * r - 12 - 0 - 0 by omega) (g_drop [(0, .ref sc), (1, .ref (X 0)), (2, .ref (Y 0)), (3, .ref o), (4, .int (nI i))] ⟨rfl, rfl, rfl, rfl, rfl, trivial⟩ (nx _ hJ2))
    · have hz := key.2 q
      refine g_aload_n d_Law_law_661 rfl ?_
      refine g_iconst (v := nI 0) d_Law_law_662 (by decide) ?_
      refine g_lald d_Law_law_663 (ho2) (rfl) (by decide) (by decide) ?_
      refine g_iload d_Law_law_664 rfl ?_
      obtain ⟨b9, rfl⟩ := key3
      have fin9 : ∀ x9 : Int64, x9 = bL b9 → Go K M_Law_law room_1 674 [(0, .ref sc), (1, .ref (X 0)), (2, .ref (Y 0)), (3, .ref o), (4, .int (nI i)), (5, .int y), (6, .int (bI b9))] [.long x9, .long (f1 0)] h2 (3 * r - 2 - 0 - 0) (18 * r - 12 - 0 - 0) Q := by
        intro x9 hx9
        refine g_lcmp d_Law_law_674 ?_
        refine g_if_eq (tgt := 680) d_Law_law_675 (by decide) (fun q => ?_) (fun q => ?_)
        · refine g_goto (tgt := 683) d_Law_law_680 (by decide) ?_
          refine g_less (kc' := 3 * r - 3) (ks' := 18 * r - 18) (show 3 * r - 3 ≤ 3 * r - 2 - 0 - 0 by omega) (show 18 * r - 18 ≤ 18 * r - 12 - 0 - 0 by omega) (g_drop [(0, .ref sc), (1, .ref (X 0)), (2, .ref (Y 0)), (3, .ref o), (4, .int (nI i))] ⟨rfl, rfl, rfl, rfl, rfl, trivial⟩ (nx _ hJ2))
        · exact absurd ((lg_e _ _).mpr (hz.trans (hx9.trans (bL_l b9)).symm)) q
      refine g_if_eq (tgt := 673) d_Law_law_666 (by decide) (fun q => ?_) (fun q => ?_)
      · refine g_lconstV (v := 0) d_Law_law_673 (by decide) ?_
        exact fin9 0 (by rw [(bI_z _).mp q]; rfl)
      · refine g_lconstV (v := 1) d_Law_law_669 (by decide) ?_
        refine g_goto (tgt := 674) d_Law_law_670 (by decide) ?_
        exact fin9 1 (by rw [bI_t q]; rfl)
  · exact absurd key.1 q
theorem lc_read (hst : K.1.stackTraces = false) (hap : gAp X Y o) (hsc : gSc K sc n xs) (hn : n ≤ 2048) {i r : Nat} (hi : i + 4 ≤ n) (hr : 1 ≤ r) {Q : Outcome → gH → Prop} (nx : ∀ h, gJ h X Y o → Go K M_Law_law room_1 683 [(0, .ref sc), (1, .ref (X 0)), (2, .ref (Y 0)), (3, .ref o), (4, .int (nI i))] [] h (3 * r - 3) (18 * r - 18) Q) {h : gH} (hJ : gJ h X Y o) : Go K M_Law_law room_1 186 [(0, .ref sc), (1, .ref (X 0)), (2, .ref (Y 0)), (3, .ref o), (4, .int (nI i))] [] h (3 * r) (18 * r) Q := by
  obtain ⟨tx, td, k, c, w, A, CS, cd, f, hx, hm, hk0, ho⟩ := hJ
  refine g_aload_n d_Law_law_186 rfl ?_
  refine g_aload_n d_Law_law_187 rfl ?_
  refine g_callX (c_Law_read hst hx ho hap.2.1) gm_Law_read d_Law_law_188 (gInv_s (As := [.ref (X 0), .ref o]) (rest := []) d_Law_law_188 gm_Law_read gs_Law_56) (Nat.le_of_ble_eq_true rfl) (Nat.le_of_ble_eq_true rfl) (show 1 ≤ _ by omega) (show 6 ≤ _ by omega) (Nat.le_of_ble_eq_true rfl) (fun v1 h1 hp => ?_)
  obtain ⟨x, w0, hw0, hc⟩ := hp
  have hv : ∃ y, v1 = some (.int y) := by
    rcases hc with ⟨g, -, e, -⟩ | ⟨-, e, -⟩ <;> exact ⟨_, e⟩
  obtain ⟨y, rfl⟩ := hv
  refine g_istore d_Law_law_191 (Nat.le_of_ble_eq_true rfl) rfl ?_
  refine g_aload_n d_Law_law_193 rfl ?_
  have tl : ∀ (h2 : gH) (cd2 x2 : Int32) (f1 : Nat → Int64) (tx2 : List Nat) (td2 : Int32) (k2 c2 : Nat) (w2 : Nat → Int32) (A2 : Nat) (CS2 : Nat → Nat → Prop), gMo h2 Y cd2 tx2 td2 k2 c2 w2 A2 CS2 → gJ h2 X Y o → h2 o = some (.inl (1, 1, .inr (.inl f1))) → (cd2 = y ∧ (y = 0 → f1 0 = x2.toInt64)) → Go K M_Law_law room_1 197 [(0, .ref sc), (1, .ref (X 0)), (2, .ref (Y 0)), (3, .ref o), (4, .int (nI i)), (5, .int y)] [.int x2] h2 (3 * r - 1 - 0) (18 * r - 6 - 0) Q := by
    intro h2 cd2 x2 f1 tx2 td2 k2 c2 w2 A2 CS2 hm2 hJ2 ho2 key
    refine g_istore d_Law_law_197 (Nat.le_of_ble_eq_true rfl) rfl ?_
    refine g_aload_n d_Law_law_199 rfl ?_
    refine g_callR (c_Mod_thrown hst hm2.gb) gm_Mod_thrown d_Law_law_200 (gInv_v (As := []) (rest := []) d_Law_law_200 gm_Mod_thrown gv_Law_62 (hm2.obj) rfl) (Nat.le_of_ble_eq_true rfl) (Nat.le_of_ble_eq_true rfl) (Nat.zero_le _) (Nat.zero_le _) (Nat.le_of_ble_eq_true rfl) ?_
    refine g_iload d_Law_law_203 rfl ?_
    refine g_icmp_eq (tgt := 210) d_Law_law_205 (by decide) (fun q => ?_) (fun q => ?_)
    · refine g_iload d_Law_law_210 rfl ?_
      refine g_if_ne (tgt := 227) d_Law_law_212 (by decide) (fun q => ?_) (fun q => ?_)
      · refine g_goto (tgt := 683) d_Law_law_227 (by decide) ?_
        refine g_less (kc' := 3 * r - 3) (ks' := 18 * r - 18) (show 3 * r - 3 ≤ 3 * r - 1 - 0 - 0 by omega) (show 18 * r - 18 ≤ 18 * r - 6 - 0 - 0 by omega) (g_drop [(0, .ref sc), (1, .ref (X 0)), (2, .ref (Y 0)), (3, .ref o), (4, .int (nI i))] ⟨rfl, rfl, rfl, rfl, rfl, trivial⟩ (nx _ hJ2))
      · have hz := key.2 q
        refine g_aload_n d_Law_law_215 rfl ?_
        refine g_iconst (v := nI 0) d_Law_law_216 (by decide) ?_
        refine g_lald d_Law_law_217 (ho2) (rfl) (by decide) (by decide) ?_
        refine g_iload d_Law_law_218 rfl ?_
        refine g_i2l d_Law_law_220 ?_
        refine g_lcmp d_Law_law_221 ?_
        refine g_if_eq (tgt := 227) d_Law_law_222 (by decide) (fun q => ?_) (fun q => ?_)
        · refine g_goto (tgt := 683) d_Law_law_227 (by decide) ?_
          refine g_less (kc' := 3 * r - 3) (ks' := 18 * r - 18) (show 3 * r - 3 ≤ 3 * r - 1 - 0 - 0 by omega) (show 18 * r - 18 ≤ 18 * r - 6 - 0 - 0 by omega) (g_drop [(0, .ref sc), (1, .ref (X 0)), (2, .ref (Y 0)), (3, .ref o), (4, .int (nI i))] ⟨rfl, rfl, rfl, rfl, rfl, trivial⟩ (nx _ hJ2))
        · exact absurd ((lg_e _ _).mpr hz) q
    · exact absurd key.1 q
  rcases hc with ⟨g, z1, ev, hx1, hk1, f1, ho1, e1⟩ | ⟨z1, ev, w', hw', ⟨hx1, hk1, f1, ho1, e1⟩, al, a1, a2, a3, a4⟩
  · cases ev
    have hm1 := jo_m hap hk1 hm
    refine g_callX (c_Mod_read hst hm1 hw0 (w' := w0) (fun z => by rw [z1] at z; cases z)) gm_Mod_read d_Law_law_194 (gInv_v (As := []) (rest := []) d_Law_law_194 gm_Mod_read gv_Law_61 (hm1.obj) rfl) (Nat.le_of_ble_eq_true rfl) (Nat.le_of_ble_eq_true rfl) (Nat.zero_le _) (Nat.zero_le _) (Nat.le_of_ble_eq_true rfl) (fun v2 h2 hp => ?_)
    obtain ⟨hk2, x2, rfl, ⟨g2, z2, hm2⟩ | ⟨z2, -⟩⟩ := hp
    · have eg : g = g2 := Option.some.inj (z1.symm.trans z2)
      subst eg
      exact tl h2 _ x2 f1 _ _ _ _ _ _ _ hm2 ⟨_, _, _, _, _, _, _, _, _, jy_x hap hk2 hx1, hm2, hk0, jy_o hap hk2 ho1⟩ (jy_o hap hk2 ho1) ⟨rfl, fun z => absurd z (by decide)⟩
    · rw [z1] at z2
      cases z2
  · cases ev
    have hm1 := jo_m hap hk1 hm
    have hkp := (rd0_ok hw0 z1).1.1
    refine g_callX (c_Mod_read hst hm1 hw0 (w' := w') (fun _ => hw')) gm_Mod_read d_Law_law_194 (gInv_v (As := []) (rest := []) d_Law_law_194 gm_Mod_read gv_Law_61 (hm1.obj) rfl) (Nat.le_of_ble_eq_true rfl) (Nat.le_of_ble_eq_true rfl) (Nat.zero_le _) (Nat.zero_le _) (Nat.le_of_ble_eq_true rfl) (fun v2 h2 hp => ?_)
    obtain ⟨hk2, x2, rfl, ⟨g2, z2, -⟩ | ⟨z2, hm2, al2, b1, b2, b3, b4⟩⟩ := hp
    · rw [z1] at z2
      cases z2
    · exact tl h2 _ x2 f1 _ _ _ _ _ _ _ hm2 ⟨_, _, _, _, _, _, _, _, _, jy_x hap hk2 hx1, hm2, fun z => absurd z (by omega), jy_o hap hk2 ho1⟩ (jy_o hap hk2 ho1) ⟨rfl, fun _ => by rw [e1, a4, b4, nd_eq a1 b1 a3 b3]⟩
end LAW
