/-! ===== the reference, tied to what the class says ===== -/
def mhd (F : Nat → Nat → Int32) (k A : Nat) (CS : Nat → Nat → Prop) : Prop := ∀ u, u < k → ∀ t, t < 2 ^ A → (mhb F u t = true ↔ ∀ e, CS u e → sat A (e % 4096) (e / 4096) (rvp A t A) A = true)
def gMs (F : Nat → Nat → Int32) (tg : Int32) (k c : Nat) (w : Nat → Int32) (A : Nat) (CS : Nat → Nat → Prop) : Prop := (k ≤ 12 ∧ A ≤ 12) ∧ (¬ k = 0 → tg = nI (thg c) ∧ c < 8 ∧ wok w ∧ ∀ p, p < 4 → F 13 p = w p) ∧ (∃ L : Nat → List Nat, ∀ u, u < k → mls F u (L u) ∧ (L u).Nodup ∧ ∀ e, e ∈ L u ↔ CS u e) ∧ mhd F k A CS
def gMo (h : gH) (Y : Nat → Nat) (cd : Int32) (tx : List Nat) (td : Int32) (k c : Nat) (w : Nat → Int32) (A : Nat) (CS : Nat → Nat → Prop) : Prop := ∃ (F : Nat → Nat → Int32) (ty nc nt tg : Int32), gMb h Y F cd ty td nc nt (bI (decide (¬ k = 0))) (nI k) tg (nI A) ∧ mtx F ty tx ∧ gMs F tg k c w A CS
section MODEL5
variable {K : gK} {h : gH} {Y : Nat → Nat} {cd : Int32} {tx : List Nat} {td : Int32} {k c : Nat} {w : Nat → Int32} {A : Nat} {CS : Nat → Nat → Prop}
theorem hin_u {F : Nat → Nat → Int32} {s t : Nat} : ∀ {u : Nat}, hin F s t u = true ↔ ∀ v, v < u → s / 2 ^ v % 2 = 1 → mhb F v t = true := by
  intro u
  induction u with
  | zero => exact ⟨fun _ v hv => absurd hv (Nat.not_lt_zero _), fun _ => rfl⟩
  | succ u ih =>
    show (hin F s t u && (decide (s / 2 ^ u % 2 = 0) || mhb F u t)) = true ↔ _
    have h2 : s / 2 ^ u % 2 < 2 := Nat.mod_lt _ (by decide)
    rw [Bool.and_eq_true, ih, Bool.or_eq_true, decide_eq_true_iff]
    constructor
    · rintro ⟨h3, h4⟩ v hv h5
      by_cases e : v = u
      · subst e
        exact h4.elim (fun z => by omega) id
      · exact h3 v (by omega) h5
    · intro h3
      refine ⟨fun v hv => h3 v (by omega), ?_⟩
      by_cases e : s / 2 ^ u % 2 = 0
      · exact Or.inl e
      · exact Or.inr (h3 u (by omega) (by omega))
theorem hin_hat {F : Nat → Nat → Int32} (hd : mhd F k A CS) {s t : Nat} (ht : t < 2 ^ A) : hin F s t k = true ↔ hat A k CS s (rvp A t A) := by
  rw [hin_u]
  unfold hat
  exact forall_congr' fun u => forall_congr' fun hu => forall_congr' fun _ => hd u hu t ht
theorem c_Mod_fault (hst : K.1.stackTraces = false) (hh : gMo h Y cd tx td k c w A CS) : Ct K r_Mod_fault M_Mod_fault [.ref (Y 0)] h (gRx fun o h' => o = some (.int td) ∧ gMo h' Y 0 tx td k c w A CS ∧ gKP h h' (gOf Y 17)) := by
  obtain ⟨F, ty, nc, nt, tg, hm, ht, hs⟩ := hh
  refine Ct.of hst (by decide) (Or.inl rfl) (Nat.le_of_ble_eq_true rfl) ?_
  refine g_aload_n d_Mod_fault_0 rfl ?_
  refine g_iconst (v := nI 0) d_Mod_fault_1 (by decide) ?_
  refine g_put (fs' := [_, _, _, _, _, _, _, _, _, _, _, _, _, _, _, _, _, _, _, _, _, _, _, _, _]) d_Mod_fault_2 f_Mod_63 (hm.2) rfl rfl (Nat.le_of_ble_eq_true rfl) rfl ?_
  refine g_aload_n d_Mod_fault_5 rfl ?_
  refine g_get d_Mod_fault_6 f_Mod_13 (gup_s _ _ _) rfl ?_
  exact g_ret_i d_Mod_fault_9 rfl rfl ⟨_, rfl, rfl, ⟨F, ty, nc, nt, tg, hm.o 0 _ _ _ _ _ _ _ _, ht, hs⟩, mK0 gKP.rf (by decide)⟩
theorem c_Mod_clauses (hst : K.1.stackTraces = false) (hh : gMo h Y cd tx td k c w A CS) : Ct K r_Mod_clauses M_Mod_clauses [.ref (Y 0)] h (gRx fun o h' => o = some (.int (nI k)) ∧ gMo h' Y 0 tx td k c w A CS ∧ gKP h h' (gOf Y 17)) := by
  obtain ⟨F, ty, nc, nt, tg, hm, ht, hs⟩ := hh
  refine Ct.of hst (by decide) (Or.inl rfl) (Nat.le_of_ble_eq_true rfl) ?_
  refine g_aload_n d_Mod_clauses_0 rfl ?_
  refine g_iconst (v := nI 0) d_Mod_clauses_1 (by decide) ?_
  refine g_put (fs' := [_, _, _, _, _, _, _, _, _, _, _, _, _, _, _, _, _, _, _, _, _, _, _, _, _]) d_Mod_clauses_2 f_Mod_63 (hm.2) rfl rfl (Nat.le_of_ble_eq_true rfl) rfl ?_
  refine g_aload_n d_Mod_clauses_5 rfl ?_
  refine g_get d_Mod_clauses_6 f_Mod_105 (gup_s _ _ _) rfl ?_
  exact g_ret_i d_Mod_clauses_9 rfl rfl ⟨_, rfl, rfl, ⟨F, ty, nc, nt, tg, hm.o 0 _ _ _ _ _ _ _ _, ht, hs⟩, mK0 gKP.rf (by decide)⟩
theorem c_Mod_atoms (hst : K.1.stackTraces = false) (hh : gMo h Y cd tx td k c w A CS) : Ct K r_Mod_atoms M_Mod_atoms [.ref (Y 0)] h (gRx fun o h' => o = some (.int (nI A)) ∧ gMo h' Y 0 tx td k c w A CS ∧ gKP h h' (gOf Y 17)) := by
  obtain ⟨F, ty, nc, nt, tg, hm, ht, hs⟩ := hh
  refine Ct.of hst (by decide) (Or.inl rfl) (Nat.le_of_ble_eq_true rfl) ?_
  refine g_aload_n d_Mod_atoms_0 rfl ?_
  refine g_iconst (v := nI 0) d_Mod_atoms_1 (by decide) ?_
  refine g_put (fs' := [_, _, _, _, _, _, _, _, _, _, _, _, _, _, _, _, _, _, _, _, _, _, _, _, _]) d_Mod_atoms_2 f_Mod_63 (hm.2) rfl rfl (Nat.le_of_ble_eq_true rfl) rfl ?_
  refine g_aload_n d_Mod_atoms_5 rfl ?_
  refine g_get d_Mod_atoms_6 f_Mod_108 (gup_s _ _ _) rfl ?_
  exact g_ret_i d_Mod_atoms_9 rfl rfl ⟨_, rfl, rfl, ⟨F, ty, nc, nt, tg, hm.o 0 _ _ _ _ _ _ _ _, ht, hs⟩, mK0 gKP.rf (by decide)⟩
theorem c_Mod_erase (hst : K.1.stackTraces = false) (hh : gMo h Y cd tx td k c w A CS) : Ct K r_Mod_erase M_Mod_erase [.ref (Y 0)] h (gRx fun o h' => o = some (.int (nI tx.length)) ∧ gMo h' Y 0 [] td k c w A CS ∧ gKP h h' (gOf Y 17)) := by
  obtain ⟨F, ty, nc, nt, tg, hm, ht, hs⟩ := hh
  obtain ⟨rfl, t2, t3, t4⟩ := ht
  refine Ct.of hst (by decide) (Or.inl rfl) (Nat.le_of_ble_eq_true rfl) ?_
  refine g_aload_n d_Mod_erase_0 rfl ?_
  refine g_iconst (v := nI 0) d_Mod_erase_1 (by decide) ?_
  refine g_put (fs' := [_, _, _, _, _, _, _, _, _, _, _, _, _, _, _, _, _, _, _, _, _, _, _, _, _]) d_Mod_erase_2 f_Mod_63 (hm.2) rfl rfl (Nat.le_of_ble_eq_true rfl) rfl ?_
  refine g_aload_n d_Mod_erase_5 rfl ?_
  refine g_get d_Mod_erase_6 f_Mod_68 (gup_s _ _ _) rfl ?_
  refine g_istore_n d_Mod_erase_9 rfl (Nat.le_of_ble_eq_true rfl) rfl ?_
  refine g_aload_n d_Mod_erase_10 rfl ?_
  refine g_iconst (v := nI 0) d_Mod_erase_11 (by decide) ?_
  refine g_put (fs' := [_, _, _, _, _, _, _, _, _, _, _, _, _, _, _, _, _, _, _, _, _, _, _, _, _]) d_Mod_erase_12 f_Mod_68 (gup_s _ _ _) rfl rfl (Nat.le_of_ble_eq_true rfl) rfl ?_
  refine g_iload_n d_Mod_erase_15 rfl ?_
  rw [gup_up]
  exact g_ret_i d_Mod_erase_16 rfl rfl ⟨_, rfl, rfl, ⟨F, _, nc, nt, tg, hm.o 0 (nI 0) _ _ _ _ _ _ _, ⟨rfl, by decide, fun i hi => absurd hi (Nat.not_lt_zero _), fun c hc => by cases hc⟩, hs⟩, mK0 gKP.rf (by decide)⟩
theorem c_Mod_instances (hst : K.1.stackTraces = false) (hh : gMo h Y cd tx td k c w A CS) : Ct K r_Mod_instances M_Mod_instances [.ref (Y 0)] h (gRx fun o h' => (∃ al : List Nat, al.Nodup ∧ al.length ≤ 324 ∧ (∀ e, e ∈ al ↔ ∃ u, u < k ∧ CS u e) ∧ o = some (.int (nI al.length))) ∧ gMo h' Y 0 tx td k c w A CS ∧ gKP h h' (gOf Y 17)) := by
  obtain ⟨F, ty, nc, nt, tg, hm, ht, hs⟩ := hh
  obtain ⟨L, hL⟩ := hs.2.2.1
  refine Ct.of hst (by decide) (Or.inl rfl) (Nat.le_of_ble_eq_true rfl) ?_
  refine g_aload_n d_Mod_instances_0 rfl ?_
  refine g_iconst (v := nI 0) d_Mod_instances_1 (by decide) ?_
  refine g_put (fs' := [_, _, _, _, _, _, _, _, _, _, _, _, _, _, _, _, _, _, _, _, _, _, _, _, _]) d_Mod_instances_2 f_Mod_63 (hm.2) rfl rfl (Nat.le_of_ble_eq_true rfl) rfl ?_
  refine g_aload_n d_Mod_instances_5 rfl ?_
  refine g_callX (c_Mod_allInstances hst (hm.o 0 _ _ _ _ _ _ _ _) hs.1.1 fun v hv => ⟨(hL v hv).1, (hL v hv).2.1⟩) gm_Mod_allInstances d_Mod_instances_6 (gInv_v (As := []) (rest := []) d_Mod_instances_6 gm_Mod_allInstances gv_Mod_146 (gup_s _ _ _) rfl) (Nat.le_of_ble_eq_true rfl) (Nat.le_of_ble_eq_true rfl) (Nat.le_of_ble_eq_true rfl) (Nat.le_of_ble_eq_true rfl) (Nat.le_of_ble_eq_true rfl) (fun v2 h2 hp => ?_)
  obtain ⟨rfl, al, a1, a2, a3, rfl⟩ := hp
  refine g_ret_i d_Mod_instances_9 rfl rfl ⟨_, rfl, ⟨al, a1, a2, fun e => ?_, rfl⟩, ⟨F, ty, nc, nt, tg, hm.o 0 _ _ _ _ _ _ _ _, ht, hs⟩, mK0 gKP.rf (by decide)⟩
  rw [a3]
  exact ⟨fun ⟨u, h1, h2⟩ => ⟨u, h1, ((hL u h1).2.2 e).mp h2⟩, fun ⟨u, h1, h2⟩ => ⟨u, h1, ((hL u h1).2.2 e).mpr h2⟩⟩
theorem c_Mod_instancesOf (hst : K.1.stackTraces = false) (hh : gMo h Y cd tx td k c w A CS) (x : Int32) : Ct K r_Mod_instancesOf M_Mod_instancesOf [.ref (Y 0), .int x] h (gRx fun o h' => ((¬ (¬ x < 0 ∧ x < nI k) ∧ o = some (.int (-1))) ∨ ∃ (u : Nat) (l : List Nat), x = nI u ∧ u < k ∧ l.Nodup ∧ l.length ≤ 27 ∧ (∀ e, e ∈ l ↔ CS u e) ∧ o = some (.int (nI l.length))) ∧ gMo h' Y 0 tx td k c w A CS ∧ gKP h h' (gOf Y 17)) := by
  obtain ⟨F, ty, nc, nt, tg, hm, ht, hs⟩ := hh
  obtain ⟨L, hL⟩ := hs.2.2.1
  have hm1 := hm.o 0 ty td nc nt (bI (decide (¬ k = 0))) (nI k) tg (nI A)
  refine Ct.of hst (by decide) (Or.inl rfl) (Nat.le_of_ble_eq_true rfl) ?_
  refine g_aload_n d_Mod_instancesOf_0 rfl ?_
  refine g_iconst (v := nI 0) d_Mod_instancesOf_1 (by decide) ?_
  refine g_put (fs' := [_, _, _, _, _, _, _, _, _, _, _, _, _, _, _, _, _, _, _, _, _, _, _, _, _]) d_Mod_instancesOf_2 f_Mod_63 (hm.2) rfl rfl (Nat.le_of_ble_eq_true rfl) rfl ?_
  refine g_aload_n d_Mod_instancesOf_5 rfl ?_
  refine g_iload_n d_Mod_instancesOf_6 rfl ?_
  refine g_callR (c_Mod_isClause hst hm1 x) gm_Mod_isClause d_Mod_instancesOf_7 (gInv_v (As := [.int x]) (rest := []) d_Mod_instancesOf_7 gm_Mod_isClause gv_Mod_149 (hm1.2) rfl) (Nat.le_of_ble_eq_true rfl) (Nat.le_of_ble_eq_true rfl) (Nat.le_of_ble_eq_true rfl) (Nat.le_of_ble_eq_true rfl) (Nat.le_of_ble_eq_true rfl) ?_
  refine g_if_eq (tgt := 22) d_Mod_instancesOf_10 (by decide) (fun q => ?_) (fun q => ?_)
  · refine g_iconst (v := -1) d_Mod_instancesOf_22 (by decide) ?_
    exact g_ret_i d_Mod_instancesOf_23 rfl rfl ⟨_, rfl, Or.inl ⟨of_decide_eq_false ((bI_z _).mp q), rfl⟩, ⟨F, ty, nc, nt, tg, hm1, ht, hs⟩, mK0 gKP.rf (by decide)⟩
  · have hx : ¬ x < 0 ∧ x < nI k := Classical.byContradiction fun z => q ((bI_z _).mpr (decide_eq_false z))
    have k12 := hs.1.1
    obtain ⟨u, hu, rfl⟩ := nI_of3 hx.1 hx.2 (by omega)
    obtain ⟨⟨l1, l2, -⟩, l5, l6⟩ := hL u hu
    refine g_aload_n d_Mod_instancesOf_13 rfl ?_
    refine g_get d_Mod_instancesOf_14 f_Mod_57 (hm1.2) rfl ?_
    refine g_iload_n d_Mod_instancesOf_17 rfl ?_
    refine g_iald d_Mod_instancesOf_18 (hm1.1.a15) (rfl) (by omega) (by decide) ?_
    refine g_goto (tgt := 23) d_Mod_instancesOf_19 (by decide) ?_
    rw [l1]
    exact g_ret_i d_Mod_instancesOf_23 rfl rfl ⟨_, rfl, Or.inr ⟨u, L u, rfl, hu, l5, l2, l6, rfl⟩, ⟨F, ty, nc, nt, tg, hm1, ht, hs⟩, mK0 gKP.rf (by decide)⟩
/-- how many tables: some or none -/
theorem cnB_pos {p : Nat → Bool} : ∀ {N : Nat}, 0 < cnB p N ↔ ∃ t, t < N ∧ p t = true := by
  intro N
  induction N with
  | zero => exact ⟨fun z => absurd z (Nat.lt_irrefl _), fun ⟨t, ht, _⟩ => absurd ht (Nat.not_lt_zero _)⟩
  | succ N ih =>
    rw [cnB_s]
    by_cases hp : p N = true
    · rw [if_pos hp]
      exact ⟨fun _ => ⟨N, by omega, hp⟩, fun _ => by omega⟩
    · rw [if_neg hp, Nat.add_zero, ih]
      constructor
      · rintro ⟨t, h1, h2⟩
        exact ⟨t, by omega, h2⟩
      · rintro ⟨t, h1, h2⟩
        by_cases e : t = N
        · subst e
          exact absurd h2 hp
        · exact ⟨t, by omega, h2⟩
theorem rv_ex {P : Nat → Prop} : (∃ t, t < 2 ^ A ∧ P (rvp A t A)) ↔ ∃ n, n < 2 ^ A ∧ P n := by
  constructor
  · rintro ⟨t, h1, h2⟩
    exact ⟨_, rvp_lt A t A, h2⟩
  · rintro ⟨n, h1, h2⟩
    exact ⟨rvp A n A, rvp_lt A n A, by rw [rvp_inv h1]; exact h2⟩
theorem cn_ex {F : Nat → Nat → Int32} (hd : mhd F k A CS) {s : Nat} : 0 < cnB (fun t => hin F s t k) (2 ^ A) ↔ ∃ n, n < 2 ^ A ∧ hat A k CS s n := by
  rw [cnB_pos, ← rv_ex (P := hat A k CS s)]
  exact ⟨fun ⟨t, h1, h2⟩ => ⟨t, h1, (hin_hat hd h1).mp h2⟩, fun ⟨t, h1, h2⟩ => ⟨t, h1, (hin_hat hd h1).mpr h2⟩⟩
theorem cn_lt {p : Nat → Bool} (hA : A ≤ 12) : cnB p (2 ^ A) < 2 ^ 31 := Nat.lt_of_le_of_lt (Nat.le_trans (cnB_le _ _) (pwA hA)) (by decide)
theorem nI_gt {n : Nat} (hn : n < 2 ^ 31) : nI n ≤ 0 ↔ ¬ 0 < n := by
  have := nI_leI (a := n) (b := 0) hn (by decide)
  rw [nI_0] at this
  rw [this]
  omega
theorem c_Mod_holds (hst : K.1.stackTraces = false) (hh : gMo h Y cd tx td k c w A CS) : Ct K r_Mod_holds M_Mod_holds [.ref (Y 0)] h (gRx fun o h' => (∃ b : Bool, o = some (.int (bI b)) ∧ (b = true ↔ k = 0 ∨ ∃ n, n < 2 ^ A ∧ hat A k CS (2 ^ k - 1) n)) ∧ gMo h' Y 0 tx td k c w A CS ∧ gKP h h' (gOf Y 17)) := by
  obtain ⟨F, ty, nc, nt, tg, hm, ht, hs⟩ := hh
  have hm1 := hm.o 0 ty td nc nt (bI (decide (¬ k = 0))) (nI k) tg (nI A)
  refine Ct.of hst (by decide) (Or.inl rfl) (Nat.le_of_ble_eq_true rfl) ?_
  refine g_aload_n d_Mod_holds_0 rfl ?_
  refine g_iconst (v := nI 0) d_Mod_holds_1 (by decide) ?_
  refine g_put (fs' := [_, _, _, _, _, _, _, _, _, _, _, _, _, _, _, _, _, _, _, _, _, _, _, _, _]) d_Mod_holds_2 f_Mod_63 (hm.2) rfl rfl (Nat.le_of_ble_eq_true rfl) rfl ?_
  refine g_aload_n d_Mod_holds_5 rfl ?_
  refine g_get d_Mod_holds_6 f_Mod_101 (gup_s _ _ _) rfl ?_
  refine g_if_eq (tgt := 23) d_Mod_holds_9 (by decide) (fun q => ?_) (fun q => ?_)
  · have q0 : k = 0 := Classical.byContradiction fun z => by
      rw [decide_eq_true z] at q
      exact absurd q (by decide)
    refine g_iconst (v := nI 1) d_Mod_holds_23 (by decide) ?_
    refine g_goto (tgt := 28) d_Mod_holds_24 (by decide) ?_
    exact g_ret_i d_Mod_holds_28 rfl rfl ⟨_, rfl, ⟨true, rfl, fun _ => Or.inl q0, fun _ => rfl⟩, ⟨F, ty, nc, nt, tg, hm1, ht, hs⟩, mK0 gKP.rf (by decide)⟩
  · have q0 : ¬ k = 0 := of_decide_eq_true (Classical.byContradiction fun z => q (by rw [ts_nt z]; rfl))
    refine g_aload_n d_Mod_holds_12 rfl ?_
    refine g_aload_n d_Mod_holds_13 rfl ?_
    refine g_callR (c_Mod_every hst hm1 hs.1.1) gm_Mod_every d_Mod_holds_14 (gInv_v (As := []) (rest := [.ref (Y 0)]) d_Mod_holds_14 gm_Mod_every gv_Mod_155 (hm1.2) rfl) (Nat.le_of_ble_eq_true rfl) (Nat.le_of_ble_eq_true rfl) (Nat.le_of_ble_eq_true rfl) (Nat.le_of_ble_eq_true rfl) (Nat.le_of_ble_eq_true rfl) ?_
    refine g_callR (c_Mod_count hst hm1 hs.1.1 (pw31 hs.1.1) hs.1.2) gm_Mod_count d_Mod_holds_17 (gInv_v (As := [.int (nI (2 ^ k - 1))]) (rest := []) d_Mod_holds_17 gm_Mod_count gv_Mod_158 (hm1.2) rfl) (Nat.le_of_ble_eq_true rfl) (Nat.le_of_ble_eq_true rfl) (Nat.le_of_ble_eq_true rfl) (Nat.le_of_ble_eq_true rfl) (Nat.le_of_ble_eq_true rfl) ?_
    refine g_if_le (tgt := 27) d_Mod_holds_20 (by decide) (fun q => ?_) (fun q => ?_)
    · have q1 := (nI_gt (cn_lt hs.1.2)).mp q
      refine g_iconst (v := nI 0) d_Mod_holds_27 (by decide) ?_
      refine g_ret_i d_Mod_holds_28 rfl rfl ⟨_, rfl, ⟨false, rfl, fun z => (by cases z), fun z => ?_⟩, ⟨F, ty, nc, nt, tg, hm1, ht, hs⟩, mK0 gKP.rf (by decide)⟩
      exact absurd (z.elim (fun y => absurd y q0) (cn_ex hs.2.2.2).mpr) q1
    · have q1 : 0 < cnB (fun t => hin F (2 ^ k - 1) t k) (2 ^ A) := Classical.byContradiction fun z => q ((nI_gt (cn_lt hs.1.2)).mpr z)
      refine g_iconst (v := nI 1) d_Mod_holds_23 (by decide) ?_
      refine g_goto (tgt := 28) d_Mod_holds_24 (by decide) ?_
      exact g_ret_i d_Mod_holds_28 rfl rfl ⟨_, rfl, ⟨true, rfl, fun _ => Or.inr ((cn_ex hs.2.2.2).mp q1), fun _ => rfl⟩, ⟨F, ty, nc, nt, tg, hm1, ht, hs⟩, mK0 gKP.rf (by decide)⟩
/-- the form of what can fail: the code that is told, the answer -/
def mAn (h : gH) (Y : Nat → Nat) (tx : List Nat) (td : Int32) (k c : Nat) (w : Nat → Int32) (A : Nat) (CS : Nat → Nat → Prop) (P : Int32 → Int32 → Prop) : Outcome → gH → Prop := gRx fun o h' => ∃ cd x, o = some (.int x) ∧ gMo h' Y cd tx td k c w A CS ∧ gKP h h' (gOf Y 17) ∧ P cd x
theorem c_Mod_tables (hst : K.1.stackTraces = false) (hh : gMo h Y cd tx td k c w A CS) : Ct K r_Mod_tables M_Mod_tables [.ref (Y 0)] h (mAn h Y tx td k c w A CS fun cd x => (k = 0 ∧ cd = nI 1) ∨ (¬ k = 0 ∧ cd = nI 0 ∧ ∃ p : Nat → Bool, (∀ t, t < 2 ^ A → (p t = true ↔ hat A k CS (2 ^ k - 1) (rvp A t A))) ∧ x = nI (cnB p (2 ^ A)))) := by
  obtain ⟨F, ty, nc, nt, tg, hm, ht, hs⟩ := hh
  refine Ct.of hst (by decide) (Or.inl rfl) (Nat.le_of_ble_eq_true rfl) ?_
  refine g_aload_n d_Mod_tables_0 rfl ?_
  refine g_aload_n d_Mod_tables_1 rfl ?_
  refine g_get d_Mod_tables_2 f_Mod_101 (hm.2) rfl ?_
  refine g_if_eq (tgt := 12) d_Mod_tables_5 (by decide) (fun q => ?_) (fun q => ?_)
  · have q0 : k = 0 := Classical.byContradiction fun z => by
      rw [decide_eq_true z] at q
      exact absurd q (by decide)
    refine g_iconst (v := nI 1) d_Mod_tables_12 (by decide) ?_
    refine g_put (fs' := [_, _, _, _, _, _, _, _, _, _, _, _, _, _, _, _, _, _, _, _, _, _, _, _, _]) d_Mod_tables_13 f_Mod_63 (hm.2) rfl rfl (Nat.le_of_ble_eq_true rfl) rfl ?_
    refine g_aload_n d_Mod_tables_16 rfl ?_
    refine g_get d_Mod_tables_17 f_Mod_63 (gup_s _ _ _) rfl ?_
    refine g_if_le (tgt := 27) d_Mod_tables_20 (by decide) (fun q => ?_) (fun q => ?_)
    · exact absurd q (by decide)
    · refine g_iconst (v := nI 0) d_Mod_tables_23 (by decide) ?_
      refine g_goto (tgt := 35) d_Mod_tables_24 (by decide) ?_
      exact g_ret_i d_Mod_tables_35 rfl rfl ⟨_, rfl, _, _, rfl, ⟨F, ty, nc, nt, tg, hm.o (nI 1) ty td nc nt (bI (decide (¬ k = 0))) (nI k) tg (nI A), ht, hs⟩, mK0 gKP.rf (by decide), Or.inl ⟨q0, rfl⟩⟩
  · have q0 : ¬ k = 0 := of_decide_eq_true (Classical.byContradiction fun z => q (by rw [ts_nt z]; rfl))
    have hm1 := hm.o (nI 0) ty td nc nt (bI (decide (¬ k = 0))) (nI k) tg (nI A)
    refine g_iconst (v := nI 0) d_Mod_tables_8 (by decide) ?_
    refine g_goto (tgt := 13) d_Mod_tables_9 (by decide) ?_
    refine g_put (fs' := [_, _, _, _, _, _, _, _, _, _, _, _, _, _, _, _, _, _, _, _, _, _, _, _, _]) d_Mod_tables_13 f_Mod_63 (hm.2) rfl rfl (Nat.le_of_ble_eq_true rfl) rfl ?_
    refine g_aload_n d_Mod_tables_16 rfl ?_
    refine g_get d_Mod_tables_17 f_Mod_63 (gup_s _ _ _) rfl ?_
    refine g_if_le (tgt := 27) d_Mod_tables_20 (by decide) (fun q => ?_) (fun q => ?_)
    · refine g_aload_n d_Mod_tables_27 rfl ?_
      refine g_aload_n d_Mod_tables_28 rfl ?_
      refine g_callR (c_Mod_every hst hm1 hs.1.1) gm_Mod_every d_Mod_tables_29 (gInv_v (As := []) (rest := [.ref (Y 0)]) d_Mod_tables_29 gm_Mod_every gv_Mod_155 (hm1.2) rfl) (Nat.le_of_ble_eq_true rfl) (Nat.le_of_ble_eq_true rfl) (Nat.le_of_ble_eq_true rfl) (Nat.le_of_ble_eq_true rfl) (Nat.le_of_ble_eq_true rfl) ?_
      refine g_callR (c_Mod_count hst hm1 hs.1.1 (pw31 hs.1.1) hs.1.2) gm_Mod_count d_Mod_tables_32 (gInv_v (As := [.int (nI (2 ^ k - 1))]) (rest := []) d_Mod_tables_32 gm_Mod_count gv_Mod_158 (hm1.2) rfl) (Nat.le_of_ble_eq_true rfl) (Nat.le_of_ble_eq_true rfl) (Nat.le_of_ble_eq_true rfl) (Nat.le_of_ble_eq_true rfl) (Nat.le_of_ble_eq_true rfl) ?_
      exact g_ret_i d_Mod_tables_35 rfl rfl ⟨_, rfl, _, _, rfl, ⟨F, ty, nc, nt, tg, hm1, ht, hs⟩, mK0 gKP.rf (by decide), Or.inr ⟨q0, rfl, _, fun t h1 => hin_hat hs.2.2.2 h1, rfl⟩⟩
    · exact absurd (by decide : nI 0 ≤ 0) q
end MODEL5
