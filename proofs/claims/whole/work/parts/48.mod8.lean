section MODEL8
variable {K : gK} {h : gH} {Y : Nat → Nat} {cd : Int32} {tx : List Nat} {td : Int32} {k c : Nat} {w : Nat → Int32} {A : Nat} {CS : Nat → Nat → Prop}
/-- what without tells -/
def mwP (k A : Nat) (CS : Nat → Nat → Prop) (a : Int32) (cd x : Int32) : Prop := (k = 0 ∧ cd = nI 1 ∧ ∃ b, x = bI b) ∨ (¬ k = 0 ∧ ¬ (¬ a < 0 ∧ a < nI k) ∧ cd = nI 2 ∧ ∃ b, x = bI b) ∨ (¬ k = 0 ∧ cd = nI 0 ∧ ∃ u, u < k ∧ a = nI u ∧ ∃ b : Bool, (b = true ↔ ∃ n, n < 2 ^ A ∧ hat A k CS (2 ^ k - 1 - 2 ^ u) n) ∧ x = bI b)
theorem c_Mod_without (hst : K.1.stackTraces = false) (hh : gMo h Y cd tx td k c w A CS) (x : Int32) : Ct K r_Mod_without M_Mod_without [.ref (Y 0), .int x] h (mAn h Y tx td k c w A CS (mwP k A CS x)) := by
  obtain ⟨F, ty, nc, nt, tg, hm, ht, hs⟩ := hh
  have bad : ∀ n, 0 < n → n < 4 → (∀ b, mwP k A CS x (nI n) (bI b)) → Go K M_Mod_without r_Mod_without 25 [(0, .ref (Y 0)), (1, .int x)] [.int (nI n), .ref (Y 0)] h 0 0 (mAn h Y tx td k c w A CS (mwP k A CS x)) := by
    intro n n0 n4 hb
    refine g_put (fs' := [_, _, _, _, _, _, _, _, _, _, _, _, _, _, _, _, _, _, _, _, _, _, _, _, _]) d_Mod_without_25 f_Mod_63 (hm.2) rfl rfl (Nat.le_of_ble_eq_true rfl) rfl ?_
    refine g_aload_n d_Mod_without_28 rfl ?_
    refine g_get d_Mod_without_29 f_Mod_63 (gup_s _ _ _) rfl ?_
    refine g_if_ne (tgt := 56) d_Mod_without_32 (by decide) (fun q => ?_) (fun q => ?_)
    · refine g_iconst (v := nI 0) d_Mod_without_56 (by decide) ?_
      exact g_ret_i d_Mod_without_57 rfl rfl ⟨_, rfl, _, _, rfl, ⟨F, ty, nc, nt, tg, hm.o (nI n) ty td nc nt _ _ tg _, ht, hs⟩, mK0 gKP.rf (by decide), hb false⟩
    · exact absurd ((nI_z (by omega)).mp q) (by omega)
  refine Ct.of hst (by decide) (Or.inl rfl) (Nat.le_of_ble_eq_true rfl) ?_
  refine g_aload_n d_Mod_without_0 rfl ?_
  refine g_aload_n d_Mod_without_1 rfl ?_
  refine g_get d_Mod_without_2 f_Mod_101 (hm.2) rfl ?_
  refine g_if_ne (tgt := 12) d_Mod_without_5 (by decide) (fun q => ?_) (fun q => ?_)
  · have q0 : ¬ k = 0 := of_decide_eq_true (bI_t q)
    have hm1 := hm.o (nI 0) ty td nc nt (bI (decide (¬ k = 0))) (nI k) tg (nI A)
    have k12 := hs.1.1
    refine g_aload_n d_Mod_without_12 rfl ?_
    refine g_iload_n d_Mod_without_13 rfl ?_
    refine g_callR (c_Mod_isClause hst hm x) gm_Mod_isClause d_Mod_without_14 (gInv_v (As := [.int x]) (rest := [.ref (Y 0)]) d_Mod_without_14 gm_Mod_isClause gv_Mod_149 (hm.2) rfl) (Nat.le_of_ble_eq_true rfl) (Nat.le_of_ble_eq_true rfl) (Nat.le_of_ble_eq_true rfl) (Nat.le_of_ble_eq_true rfl) (Nat.le_of_ble_eq_true rfl) ?_
    refine g_if_eq (tgt := 24) d_Mod_without_17 (by decide) (fun q => ?_) (fun q => ?_)
    · refine g_iconst (v := nI 2) d_Mod_without_24 (by decide) ?_
      exact bad 2 (by decide) (by decide) fun b => Or.inr (Or.inl ⟨q0, of_decide_eq_false ((bI_z _).mp q), rfl, b, rfl⟩)
    · have hx := of_decide_eq_true (bI_t q)
      obtain ⟨u, hu, rfl⟩ := nI_of3 hx.1 hx.2 (by omega)
      refine g_iconst (v := nI 0) d_Mod_without_20 (by decide) ?_
      refine g_goto (tgt := 25) d_Mod_without_21 (by decide) ?_
      refine g_put (fs' := [_, _, _, _, _, _, _, _, _, _, _, _, _, _, _, _, _, _, _, _, _, _, _, _, _]) d_Mod_without_25 f_Mod_63 (hm.2) rfl rfl (Nat.le_of_ble_eq_true rfl) rfl ?_
      refine g_aload_n d_Mod_without_28 rfl ?_
      refine g_get d_Mod_without_29 f_Mod_63 (hm1.2) rfl ?_
      refine g_if_ne (tgt := 56) d_Mod_without_32 (by decide) (fun q => ?_) (fun q => ?_)
      · exact absurd nI_0 q
      · refine g_aload_n d_Mod_without_35 rfl ?_
        refine g_aload_n d_Mod_without_36 rfl ?_
        refine g_callR (c_Mod_every hst hm1 hs.1.1) gm_Mod_every d_Mod_without_37 (gInv_v (As := []) (rest := [.ref (Y 0)]) d_Mod_without_37 gm_Mod_every gv_Mod_155 (hm1.2) rfl) (Nat.le_of_ble_eq_true rfl) (Nat.le_of_ble_eq_true rfl) (Nat.le_of_ble_eq_true rfl) (Nat.le_of_ble_eq_true rfl) (Nat.le_of_ble_eq_true rfl) ?_
        refine g_iconst (v := nI 1) d_Mod_without_40 (by decide) ?_
        refine g_iload_n d_Mod_without_41 rfl ?_
        refine g_ishl d_Mod_without_42 ?_
        refine g_iconst (v := -1) d_Mod_without_43 (by decide) ?_
        refine g_ixor d_Mod_without_44 ?_
        refine g_iand d_Mod_without_45 ?_
        have e1 := mOff (K := K) hst (s := 2 ^ k - 1) (by have := Nat.one_le_two_pow (n := k); omega) k12 hu (all_bit hu)
        have e2 := g_h (K := K) (M := M_Mod_without) (R := r_Mod_without) (pc := 46) (lv := lv_args 0 [.ref (Y 0), .int (nI u)]) (st := [.int (nI (2 ^ k - 1) &&& (nI 1 <<< (nI u &&& 31) ^^^ (-1))), .ref (Y 0)]) (kc := 0) (ks := 0) (Q := mAn h Y tx td k c w A CS (mwP k A CS (nI u))) (h := gup h (Y 0) (mob Y (nI 0) ty td nc nt (bI (decide (¬ k = 0))) (nI k) tg (nI A))) rfl
        refine e2 ?_
        rw [e1]
        refine g_callR (c_Mod_count hst hm1 hs.1.1 (s := 2 ^ k - 1 - 2 ^ u) (Nat.lt_of_le_of_lt (Nat.sub_le _ _) (pw31 k12)) hs.1.2) gm_Mod_count d_Mod_without_46 (gInv_v (As := [.int (nI (2 ^ k - 1 - 2 ^ u))]) (rest := []) d_Mod_without_46 gm_Mod_count gv_Mod_158 (hm1.2) rfl) (Nat.le_of_ble_eq_true rfl) (Nat.le_of_ble_eq_true rfl) (Nat.le_of_ble_eq_true rfl) (Nat.le_of_ble_eq_true rfl) (Nat.le_of_ble_eq_true rfl) ?_
        refine g_if_le (tgt := 56) d_Mod_without_49 (by decide) (fun q => ?_) (fun q => ?_)
        · have q1 := (nI_gt (cn_lt hs.1.2)).mp q
          refine g_iconst (v := nI 0) d_Mod_without_56 (by decide) ?_
          exact g_ret_i d_Mod_without_57 rfl rfl ⟨_, rfl, _, _, rfl, ⟨F, ty, nc, nt, tg, hm1, ht, hs⟩, mK0 gKP.rf (by decide), Or.inr (Or.inr ⟨q0, rfl, u, hu, rfl, false, ⟨fun z => (by cases z), fun z => absurd ((cn_ex hs.2.2.2).mpr z) q1⟩, rfl⟩)⟩
        · have q1 : 0 < cnB (fun t => hin F (2 ^ k - 1 - 2 ^ u) t k) (2 ^ A) := Classical.byContradiction fun z => q ((nI_gt (cn_lt hs.1.2)).mpr z)
          refine g_iconst (v := nI 1) d_Mod_without_52 (by decide) ?_
          refine g_goto (tgt := 57) d_Mod_without_53 (by decide) ?_
          exact g_ret_i d_Mod_without_57 rfl rfl ⟨_, rfl, _, _, rfl, ⟨F, ty, nc, nt, tg, hm1, ht, hs⟩, mK0 gKP.rf (by decide), Or.inr (Or.inr ⟨q0, rfl, u, hu, rfl, true, ⟨fun _ => (cn_ex hs.2.2.2).mp q1, fun _ => rfl⟩, rfl⟩)⟩
  · have q0 : k = 0 := Classical.byContradiction fun z => by
      rw [decide_eq_true z] at q
      exact absurd q (by decide)
    refine g_iconst (v := nI 1) d_Mod_without_8 (by decide) ?_
    refine g_goto (tgt := 25) d_Mod_without_9 (by decide) ?_
    exact bad 1 (by decide) (by decide) fun b => Or.inl ⟨q0, rfl, b, rfl⟩
/-- what core tells -/
def mcP (k A : Nat) (CS : Nat → Nat → Prop) (a : Int32) (cd x : Int32) : Prop := (k = 0 ∧ cd = nI 1 ∧ ∃ b, x = bI b) ∨ (¬ k = 0 ∧ ¬ (¬ a < 0 ∧ a ≤ nI (2 ^ k - 1)) ∧ cd = nI 2 ∧ ∃ b, x = bI b) ∨ (¬ k = 0 ∧ cd = nI 0 ∧ ∃ s, s < 2 ^ k ∧ a = nI s ∧ ∃ b : Bool, (b = true ↔ (¬ ∃ n, n < 2 ^ A ∧ hat A k CS s n) ∧ ∀ u, u < k → s / 2 ^ u % 2 = 1 → ∃ n, n < 2 ^ A ∧ hat A k CS (s - 2 ^ u) n) ∧ x = bI b)
theorem l_Mod_core (hst : K.1.stackTraces = false) {F : Nat → Nat → Int32} {ty nc nt tg : Int32} {s : Nat} (hs2 : s < 2 ^ k) (hm : gMb h Y F (nI 0) ty td nc nt (bI (decide (¬ k = 0))) (nI k) tg (nI A)) (hs : gMs F tg k c w A CS) {Q : Outcome → gH → Prop}
    (kq : ∀ b : Bool, (b = true ↔ ∀ u, u < k → s / 2 ^ u % 2 = 1 → ∃ n, n < 2 ^ A ∧ hat A k CS (s - 2 ^ u) n) → Q (.returned (some (.int (bI b)))) h) : ∀ (r u : Nat) (b : Bool), u + r = k → (b = true ↔ ∀ v, v < u → s / 2 ^ v % 2 = 1 → ∃ n, n < 2 ^ A ∧ hat A k CS (s - 2 ^ v) n) → Go K M_Mod_core r_Mod_core 53 [(0, .ref (Y 0)), (1, .int (nI s)), (2, .int (bI b)), (3, .int (nI u))] [] h 0 0 Q := by
  have k12 := hs.1.1
  have h12 := pwA k12
  intro r
  induction r with
  | zero =>
    intro u b hu hb
    have e : u = k := by omega
    subst e
    refine g_iload_n d_Mod_core_53 rfl ?_
    refine g_aload_n d_Mod_core_54 rfl ?_
    refine g_get d_Mod_core_55 f_Mod_105 (hm.2) rfl ?_
    refine g_icmpN_ge (tgt := 99) d_Mod_core_58 (by decide) (rfl) (rfl) (by omega) (by omega) (fun q => ?_) (fun q => ?_)
    · refine g_iload_n d_Mod_core_99 rfl ?_
      exact g_ret_i d_Mod_core_100 rfl (bI_n _) (kq b hb)
    · omega
  | succ r ih =>
    intro u b hu hb
    have fin : ∀ b' : Bool, (b' = true ↔ b = true ∧ (s / 2 ^ u % 2 = 1 → ∃ n, n < 2 ^ A ∧ hat A k CS (s - 2 ^ u) n)) → Go K M_Mod_core r_Mod_core 92 [(0, .ref (Y 0)), (1, .int (nI s)), (2, .int (bI b)), (3, .int (nI u))] [.int (bI b')] h 0 0 Q := by
      intro b' hb'
      refine g_istore_n d_Mod_core_92 rfl (Nat.le_of_ble_eq_true rfl) rfl ?_
      refine g_iinc d_Mod_core_93 rfl (nI_inc _) (Nat.le_of_ble_eq_true rfl) rfl ?_
      refine g_goto (tgt := 53) d_Mod_core_96 (by decide) ?_
      refine ih (u + 1) b' (by omega) (hb'.trans ?_)
      rw [hb]
      constructor
      · rintro ⟨h1, h2⟩ v hv
        by_cases e : v = u
        · subst e
          exact h2
        · exact h1 v (by omega)
      · intro h1
        exact ⟨fun v hv => h1 v (by omega), h1 u (by omega)⟩
    refine g_iload_n d_Mod_core_53 rfl ?_
    refine g_aload_n d_Mod_core_54 rfl ?_
    refine g_get d_Mod_core_55 f_Mod_105 (hm.2) rfl ?_
    refine g_icmpN_ge (tgt := 99) d_Mod_core_58 (by decide) (rfl) (rfl) (by omega) (by omega) (fun q => ?_) (fun q => ?_)
    · omega
    · refine g_iload_n d_Mod_core_61 rfl ?_
      refine g_if_eq (tgt := 91) d_Mod_core_62 (by decide) (fun q => ?_) (fun q => ?_)
      · refine g_iconst (v := nI 0) d_Mod_core_91 (by decide) ?_
        exact fin false ⟨fun z => (by cases z), fun z => (by rw [(bI_z _).mp q] at z; exact z.1)⟩
      · have qb := bI_t q
        refine g_iload_n d_Mod_core_65 rfl ?_
        refine g_iload_n d_Mod_core_66 rfl ?_
        refine g_ishr d_Mod_core_67 ?_
        refine g_iconst (v := nI 1) d_Mod_core_68 (by decide) ?_
        refine g_iand d_Mod_core_69 ?_
        rw [nI_bit (by omega) (by omega)]
        have h2 : s / 2 ^ u % 2 < 2 := Nat.mod_lt _ (by decide)
        refine g_if_eq (tgt := 87) d_Mod_core_70 (by decide) (fun q => ?_) (fun q => ?_)
        · have q1 := (nI_z (by omega)).mp q
          refine g_iconst (v := nI 1) d_Mod_core_87 (by decide) ?_
          refine g_goto (tgt := 92) d_Mod_core_88 (by decide) ?_
          exact fin true ⟨fun _ => ⟨qb, fun z => by omega⟩, fun _ => rfl⟩
        · have q1 : s / 2 ^ u % 2 = 1 := by
            have : ¬ s / 2 ^ u % 2 = 0 := fun z => q (by rw [z]; rfl)
            omega
          refine g_aload_n d_Mod_core_73 rfl ?_
          refine g_iload_n d_Mod_core_74 rfl ?_
          refine g_iconst (v := nI 1) d_Mod_core_75 (by decide) ?_
          refine g_iload_n d_Mod_core_76 rfl ?_
          refine g_ishl d_Mod_core_77 ?_
          refine g_iconst (v := -1) d_Mod_core_78 (by decide) ?_
          refine g_ixor d_Mod_core_79 ?_
          refine g_iand d_Mod_core_80 ?_
          have e1 := mOff (K := K) hst hs2 k12 (by omega) q1
          refine g_h (K := K) (M := M_Mod_core) (R := r_Mod_core) (pc := 81) (st := [.int (nI s &&& (nI 1 <<< (nI u &&& 31) ^^^ (-1))), .ref (Y 0)]) (h := h) rfl ?_
          rw [e1]
          refine g_callR (c_Mod_count hst hm hs.1.1 (s := s - 2 ^ u) (Nat.lt_of_le_of_lt (Nat.sub_le _ _) (show s < 2 ^ 31 by omega)) hs.1.2) gm_Mod_count d_Mod_core_81 (gInv_v (As := [.int (nI (s - 2 ^ u))]) (rest := []) d_Mod_core_81 gm_Mod_count gv_Mod_158 (hm.2) rfl) (Nat.le_of_ble_eq_true rfl) (Nat.le_of_ble_eq_true rfl) (Nat.le_of_ble_eq_true rfl) (Nat.le_of_ble_eq_true rfl) (Nat.le_of_ble_eq_true rfl) ?_
          refine g_if_le (tgt := 91) d_Mod_core_84 (by decide) (fun q => ?_) (fun q => ?_)
          · have q2 := (nI_gt (cn_lt hs.1.2)).mp q
            refine g_iconst (v := nI 0) d_Mod_core_91 (by decide) ?_
            exact fin false ⟨fun z => (by cases z), fun z => absurd ((cn_ex hs.2.2.2).mpr (z.2 q1)) q2⟩
          · have q2 : 0 < cnB (fun t => hin F (s - 2 ^ u) t k) (2 ^ A) := Classical.byContradiction fun z => q ((nI_gt (cn_lt hs.1.2)).mpr z)
            refine g_iconst (v := nI 1) d_Mod_core_87 (by decide) ?_
            refine g_goto (tgt := 92) d_Mod_core_88 (by decide) ?_
            exact fin true ⟨fun _ => ⟨qb, fun _ => (cn_ex hs.2.2.2).mp q2⟩, fun _ => rfl⟩
theorem c_Mod_core (hst : K.1.stackTraces = false) (hh : gMo h Y cd tx td k c w A CS) (x : Int32) : Ct K r_Mod_core M_Mod_core [.ref (Y 0), .int x] h (mAn h Y tx td k c w A CS (mcP k A CS x)) := by
  obtain ⟨F, ty, nc, nt, tg, hm, ht, hs⟩ := hh
  have k12 := hs.1.1
  have h12 := pwA k12
  have h1 := Nat.one_le_two_pow (n := k)
  have bad : ∀ n, 0 < n → n < 4 → (∀ b, mcP k A CS x (nI n) (bI b)) → Go K M_Mod_core r_Mod_core 29 [(0, .ref (Y 0)), (1, .int x)] [.int (nI n), .ref (Y 0)] h 0 0 (mAn h Y tx td k c w A CS (mcP k A CS x)) := by
    intro n n0 n4 hb
    refine g_put (fs' := [_, _, _, _, _, _, _, _, _, _, _, _, _, _, _, _, _, _, _, _, _, _, _, _, _]) d_Mod_core_29 f_Mod_63 (hm.2) rfl rfl (Nat.le_of_ble_eq_true rfl) rfl ?_
    refine g_aload_n d_Mod_core_32 rfl ?_
    refine g_get d_Mod_core_33 f_Mod_63 (gup_s _ _ _) rfl ?_
    refine g_if_gt (tgt := 47) d_Mod_core_36 (by decide) (fun q => ?_) (fun q => ?_)
    · refine g_iconst (v := nI 0) d_Mod_core_47 (by decide) ?_
      exact g_ret_i d_Mod_core_48 rfl rfl ⟨_, rfl, _, _, rfl, ⟨F, ty, nc, nt, tg, hm.o (nI n) ty td nc nt _ _ tg _, ht, hs⟩, mK0 gKP.rf (by decide), hb false⟩
    · exact absurd n0 ((nI_gt (by omega)).mp (Int32.not_lt.mp q))
  refine Ct.of hst (by decide) (Or.inl rfl) (Nat.le_of_ble_eq_true rfl) ?_
  refine g_aload_n d_Mod_core_0 rfl ?_
  refine g_aload_n d_Mod_core_1 rfl ?_
  refine g_get d_Mod_core_2 f_Mod_101 (hm.2) rfl ?_
  refine g_if_ne (tgt := 12) d_Mod_core_5 (by decide) (fun q => ?_) (fun q => ?_)
  · have q0 : ¬ k = 0 := of_decide_eq_true (bI_t q)
    have out : ¬ (¬ x < 0 ∧ x ≤ nI (2 ^ k - 1)) → Go K M_Mod_core r_Mod_core 24 [(0, .ref (Y 0)), (1, .int x)] [.ref (Y 0)] h 0 0 (mAn h Y tx td k c w A CS (mcP k A CS x)) := by
      intro hx
      refine g_iconst (v := nI 2) d_Mod_core_24 (by decide) ?_
      refine g_goto (tgt := 29) d_Mod_core_25 (by decide) ?_
      exact bad 2 (by decide) (by decide) fun b => Or.inr (Or.inl ⟨q0, hx, rfl, b, rfl⟩)
    refine g_iload_n d_Mod_core_12 rfl ?_
    refine g_if_lt (tgt := 24) d_Mod_core_13 (by decide) (fun q => ?_) (fun q => ?_)
    · exact out fun z => z.1 q
    · have qx := q
      refine g_iload_n d_Mod_core_16 rfl ?_
      refine g_aload_n d_Mod_core_17 rfl ?_
      refine g_callR (c_Mod_every hst hm hs.1.1) gm_Mod_every d_Mod_core_18 (gInv_v (As := []) (rest := [.int x, .ref (Y 0)]) d_Mod_core_18 gm_Mod_every gv_Mod_155 (hm.2) rfl) (Nat.le_of_ble_eq_true rfl) (Nat.le_of_ble_eq_true rfl) (Nat.le_of_ble_eq_true rfl) (Nat.le_of_ble_eq_true rfl) (Nat.le_of_ble_eq_true rfl) ?_
      refine g_icmp_le (tgt := 28) d_Mod_core_21 (by decide) (fun q => ?_) (fun q => ?_)
      · obtain ⟨s, hs2, rfl⟩ := nI_of3 qx (le_lt (n := 2 ^ k) (by omega) h1 q) (by omega)
        have hm1 := hm.o (nI 0) ty td nc nt (bI (decide (¬ k = 0))) (nI k) tg (nI A)
        refine g_iconst (v := nI 0) d_Mod_core_28 (by decide) ?_
        refine g_put (fs' := [_, _, _, _, _, _, _, _, _, _, _, _, _, _, _, _, _, _, _, _, _, _, _, _, _]) d_Mod_core_29 f_Mod_63 (hm.2) rfl rfl (Nat.le_of_ble_eq_true rfl) rfl ?_
        refine g_aload_n d_Mod_core_32 rfl ?_
        refine g_get d_Mod_core_33 f_Mod_63 (hm1.2) rfl ?_
        refine g_if_gt (tgt := 47) d_Mod_core_36 (by decide) (fun q => ?_) (fun q => ?_)
        · exact absurd q (by decide)
        · refine g_aload_n d_Mod_core_39 rfl ?_
          refine g_iload_n d_Mod_core_40 rfl ?_
          refine g_callR (c_Mod_count hst hm1 hs.1.1 (s := s) (by omega) hs.1.2) gm_Mod_count d_Mod_core_41 (gInv_v (As := [.int (nI s)]) (rest := []) d_Mod_core_41 gm_Mod_count gv_Mod_158 (hm1.2) rfl) (Nat.le_of_ble_eq_true rfl) (Nat.le_of_ble_eq_true rfl) (Nat.le_of_ble_eq_true rfl) (Nat.le_of_ble_eq_true rfl) (Nat.le_of_ble_eq_true rfl) ?_
          refine g_if_le (tgt := 49) d_Mod_core_44 (by decide) (fun q => ?_) (fun q => ?_)
          · have q1 := (nI_gt (cn_lt hs.1.2)).mp q
            refine g_iconst (v := nI 1) d_Mod_core_49 (by decide) ?_
            refine g_istore_n d_Mod_core_50 rfl (Nat.le_of_ble_eq_true rfl) rfl ?_
            refine g_iconst (v := nI 0) d_Mod_core_51 (by decide) ?_
            refine g_istore_n d_Mod_core_52 rfl (Nat.le_of_ble_eq_true rfl) rfl ?_
            refine l_Mod_core hst hs2 hm1 hs (fun b hb => ⟨_, rfl, _, _, rfl, ⟨F, ty, nc, nt, tg, hm1, ht, hs⟩, mK0 gKP.rf (by decide), Or.inr (Or.inr ⟨q0, rfl, s, hs2, rfl, b, hb.trans ⟨fun z => ⟨fun y => q1 ((cn_ex hs.2.2.2).mpr y), z⟩, fun z => z.2⟩, rfl⟩)⟩) k 0 true (by omega) ⟨fun _ v hv => absurd hv (Nat.not_lt_zero _), fun _ => rfl⟩
          · have q1 : 0 < cnB (fun t => hin F s t k) (2 ^ A) := Classical.byContradiction fun z => q ((nI_gt (cn_lt hs.1.2)).mpr z)
            refine g_iconst (v := nI 0) d_Mod_core_47 (by decide) ?_
            exact g_ret_i d_Mod_core_48 rfl rfl ⟨_, rfl, _, _, rfl, ⟨F, ty, nc, nt, tg, hm1, ht, hs⟩, mK0 gKP.rf (by decide), Or.inr (Or.inr ⟨q0, rfl, s, hs2, rfl, false, ⟨fun z => (by cases z), fun z => absurd ((cn_ex hs.2.2.2).mp q1) z.1⟩, rfl⟩)⟩
      · exact out fun z => q z.2
  · have q0 : k = 0 := Classical.byContradiction fun z => by
      rw [decide_eq_true z] at q
      exact absurd q (by decide)
    refine g_iconst (v := nI 1) d_Mod_core_8 (by decide) ?_
    refine g_goto (tgt := 29) d_Mod_core_9 (by decide) ?_
    exact bad 1 (by decide) (by decide) fun b => Or.inl ⟨q0, rfl, b, rfl⟩
end MODEL8
