theorem and_off {s u : Nat} (hs : s < 4096) (hu : u < 12) (hb : s / 2 ^ u % 2 = 1) : s &&& (4095 - 2 ^ u) = s - 2 ^ u := by
  have hp : 2 ^ u < 4096 := Nat.pow_lt_pow_right (a := 2) (n := 12) (by decide) hu
  have hm : ∀ i, (4095 - 2 ^ u).testBit i = (decide (i < 12) && !(2 ^ u).testBit i) := fun i => by
    have := Nat.testBit_two_pow_sub_succ (n := 12) hp i
    rw [show 2 ^ 12 - (2 ^ u + 1) = 4095 - 2 ^ u by omega] at this
    exact this
  have hsb : ∀ i, 12 ≤ i → s.testBit i = false := fun i hi => Nat.testBit_lt_two_pow (Nat.lt_of_lt_of_le hs (Nat.pow_le_pow_right (n := 2) (by decide) hi))
  have hsu : s.testBit u = true := by
    rw [Nat.testBit_eq_decide_div_mod_eq, hb]
    rfl
  have ho : (s &&& (4095 - 2 ^ u)) ||| 2 ^ u = s := by
    refine Nat.eq_of_testBit_eq fun i => ?_
    rw [Nat.testBit_or, Nat.testBit_and, hm, Nat.testBit_two_pow]
    by_cases e : u = i
    · subst e
      simp [hsu]
    · by_cases h12 : i < 12
      · simp [h12, e]
      · simp [e, hsb i (by omega)]
  have ha : (s &&& (4095 - 2 ^ u)) &&& 2 ^ u = 0 := by
    refine Nat.eq_of_testBit_eq fun i => ?_
    rw [Nat.testBit_and, Nat.testBit_and, hm, Nat.testBit_two_pow, Nat.zero_testBit]
    by_cases e : u = i
    · simp [e]
    · simp [e]
  have hl : s &&& (4095 - 2 ^ u) < 4096 := Nat.lt_of_le_of_lt Nat.and_le_left hs
  have hv := BitVec.add_eq_or_of_and_eq_zero (BitVec.ofNat 16 (s &&& (4095 - 2 ^ u))) (BitVec.ofNat 16 (2 ^ u)) (by rw [← BitVec.ofNat_and, ha])
  rw [← BitVec.ofNat_or, ho, ← BitVec.ofNat_add] at hv
  have h2 := congrArg BitVec.toNat hv
  rw [BitVec.toNat_ofNat, BitVec.toNat_ofNat, Nat.mod_eq_of_lt (by omega), Nat.mod_eq_of_lt (by omega)] at h2
  omega
section MODEL6
variable {K : gK} {h : gH} {Y : Nat → Nat} {cd : Int32} {tx : List Nat} {td : Int32} {k c : Nat} {w : Nat → Int32} {A : Nat} {CS : Nat → Nat → Prop}
theorem mOff (hst : K.1.stackTraces = false) {s u : Nat} (hs : s < 2 ^ k) (hk : k ≤ 12) (hu : u < k) (hb : s / 2 ^ u % 2 = 1) : nI s &&& (nI 1 <<< (nI u &&& 31) ^^^ (-1)) = nI (s - 2 ^ u) := by
  have h12 := pwA hk
  have hp : 2 ^ u < 4096 := Nat.lt_of_lt_of_le (Nat.pow_lt_pow_right (by decide) hu) h12
  rw [nI_shl1 (by omega), nI_not hp (by omega), and_off (by omega) (by omega) hb]
/-- what least and greatest tell -/
def mbP (k A : Nat) (CS : Nat → Nat → Prop) (B : Nat → Prop) (cd x : Int32) : Prop := (k = 0 ∧ cd = nI 1) ∨ (¬ k = 0 ∧ (¬ ∃ n, n < 2 ^ A ∧ hat A k CS (2 ^ k - 1) n) ∧ cd = nI 2) ∨ (¬ k = 0 ∧ cd = nI 0 ∧ ∃ n, n < 2 ^ A ∧ hat A k CS (2 ^ k - 1) n ∧ B n ∧ x = nI (rvp A n A))
theorem l_Mod_least (hst : K.1.stackTraces = false) {h0 : gH} {F : Nat → Nat → Int32} {ty nc nt tg : Int32} (hk0 : ¬ k = 0) (hm : gMb h Y F (nI 0) ty td nc nt (bI (decide (¬ k = 0))) (nI k) tg (nI A)) (ht : mtx F ty tx) (hs : gMs F tg k c w A CS) (hK : gKP h0 h (gOf Y 17)) : ∀ (r n : Nat), n + r = 2 ^ A → (∀ m, m < n → ¬ hat A k CS (2 ^ k - 1) m) → Go K M_Mod_least r_Mod_least 18 [(0, .ref (Y 0)), (1, .int (nI n))] [] h 0 0 (mAn h0 Y tx td k c w A CS (mbP k A CS fun n => ∀ m, m < n → ¬ hat A k CS (2 ^ k - 1) m)) := by
  have h12 := pwA hs.1.2
  have hA := hs.1.2
  intro r
  induction r with
  | zero =>
    intro n hn hno
    refine g_iload_n d_Mod_least_18 rfl ?_
    refine g_iconst (v := nI 1) d_Mod_least_19 (by decide) ?_
    refine g_aload_n d_Mod_least_20 rfl ?_
    refine g_get d_Mod_least_21 f_Mod_108 (hm.2) rfl ?_
    refine g_ishl d_Mod_least_24 ?_
    rw [nI_shl1 (by omega)]
    refine g_icmpN_ge (tgt := 63) d_Mod_least_25 (by decide) (rfl) (rfl) (by omega) (by omega) (fun q => ?_) (fun q => ?_)
    · refine g_aload_n d_Mod_least_63 rfl ?_
      refine g_aload_n d_Mod_least_64 rfl ?_
      refine g_get d_Mod_least_65 f_Mod_63 (hm.2) rfl ?_
      refine g_if_le (tgt := 78) d_Mod_least_68 (by decide) (fun q => ?_) (fun q => ?_)
      · refine g_iconst (v := nI 2) d_Mod_least_78 (by decide) ?_
        refine g_put (fs' := [_, _, _, _, _, _, _, _, _, _, _, _, _, _, _, _, _, _, _, _, _, _, _, _, _]) d_Mod_least_79 f_Mod_63 (hm.2) rfl rfl (Nat.le_of_ble_eq_true rfl) rfl ?_
        refine g_iconst (v := nI 0) d_Mod_least_82 (by decide) ?_
        refine g_ret_i d_Mod_least_83 rfl rfl ⟨_, rfl, _, _, rfl, ⟨F, ty, nc, nt, tg, hm.o (nI 2) _ _ _ _ _ _ _ _, ht, hs⟩, mK0 hK (by decide), Or.inr (Or.inl ⟨hk0, ?_, rfl⟩)⟩
        rintro ⟨m, m1, m2⟩
        exact hno m (by omega) m2
      · exact absurd (by decide : nI 0 ≤ 0) q
    · omega
  | succ r ih =>
    intro n hn hno
    refine g_iload_n d_Mod_least_18 rfl ?_
    refine g_iconst (v := nI 1) d_Mod_least_19 (by decide) ?_
    refine g_aload_n d_Mod_least_20 rfl ?_
    refine g_get d_Mod_least_21 f_Mod_108 (hm.2) rfl ?_
    refine g_ishl d_Mod_least_24 ?_
    rw [nI_shl1 (by omega)]
    refine g_icmpN_ge (tgt := 63) d_Mod_least_25 (by decide) (rfl) (rfl) (by omega) (by omega) (fun q => ?_) (fun q => ?_)
    · omega
    · have qn := q
      refine g_aload_n d_Mod_least_28 rfl ?_
      refine g_get d_Mod_least_29 f_Mod_63 (hm.2) rfl ?_
      refine g_if_ne (tgt := 63) d_Mod_least_32 (by decide) (fun q => ?_) (fun q => ?_)
      · exact absurd nI_0 q
      · refine g_aload_n d_Mod_least_35 rfl ?_
        refine g_aload_n d_Mod_least_36 rfl ?_
        refine g_callR (c_Mod_every hst hm hs.1.1) gm_Mod_every d_Mod_least_37 (gInv_v (As := []) (rest := [.ref (Y 0)]) d_Mod_least_37 gm_Mod_every gv_Mod_155 (hm.2) rfl) (Nat.le_of_ble_eq_true rfl) (Nat.le_of_ble_eq_true rfl) (Nat.le_of_ble_eq_true rfl) (Nat.le_of_ble_eq_true rfl) (Nat.le_of_ble_eq_true rfl) ?_
        refine g_aload_n d_Mod_least_40 rfl ?_
        refine g_iload_n d_Mod_least_41 rfl ?_
        refine g_callR (c_Mod_tableOf hst hm (by omega) hA) gm_Mod_tableOf d_Mod_least_42 (gInv_v (As := [.int (nI n)]) (rest := [.int (nI (2 ^ k - 1)), .ref (Y 0)]) d_Mod_least_42 gm_Mod_tableOf gv_Mod_161 (hm.2) rfl) (Nat.le_of_ble_eq_true rfl) (Nat.le_of_ble_eq_true rfl) (Nat.le_of_ble_eq_true rfl) (Nat.le_of_ble_eq_true rfl) (Nat.le_of_ble_eq_true rfl) ?_
        refine g_callR (c_Mod_holdsIn hst hm hs.1.1 (pw31 hs.1.1) (Nat.lt_of_lt_of_le (rvp_lt A n A) h12)) gm_Mod_holdsIn d_Mod_least_45 (gInv_v (As := [.int (nI (2 ^ k - 1)), .int (nI (rvp A n A))]) (rest := []) d_Mod_least_45 gm_Mod_holdsIn gv_Mod_152 (hm.2) rfl) (Nat.le_of_ble_eq_true rfl) (Nat.le_of_ble_eq_true rfl) (Nat.le_of_ble_eq_true rfl) (Nat.le_of_ble_eq_true rfl) (Nat.le_of_ble_eq_true rfl) ?_
        have hx := hin_hat hs.2.2.2 (s := 2 ^ k - 1) (rvp_lt A n A)
        rw [rvp_inv qn] at hx
        refine g_if_eq (tgt := 57) d_Mod_least_48 (by decide) (fun q => ?_) (fun q => ?_)
        · refine g_iinc d_Mod_least_57 rfl (nI_inc _) (Nat.le_of_ble_eq_true rfl) rfl ?_
          refine g_goto (tgt := 18) d_Mod_least_60 (by decide) ?_
          refine ih (n + 1) (by omega) fun m hmn => ?_
          by_cases e : m = n
          · subst e
            intro z
            rw [hx.mpr z] at q
            exact absurd q (by decide)
          · exact hno m (by omega)
        · refine g_aload_n d_Mod_least_51 rfl ?_
          refine g_iload_n d_Mod_least_52 rfl ?_
          refine g_callR (c_Mod_tableOf hst hm (by omega) hA) gm_Mod_tableOf d_Mod_least_53 (gInv_v (As := [.int (nI n)]) (rest := []) d_Mod_least_53 gm_Mod_tableOf gv_Mod_161 (hm.2) rfl) (Nat.le_of_ble_eq_true rfl) (Nat.le_of_ble_eq_true rfl) (Nat.le_of_ble_eq_true rfl) (Nat.le_of_ble_eq_true rfl) (Nat.le_of_ble_eq_true rfl) ?_
          refine g_ret_i d_Mod_least_56 rfl rfl ⟨_, rfl, _, _, rfl, ⟨F, ty, nc, nt, tg, hm, ht, hs⟩, hK, Or.inr (Or.inr ⟨hk0, rfl, n, qn, hx.mp ?_, hno, rfl⟩)⟩
          exact ts_nf fun z => q ((bI_z _).mpr z)
theorem c_Mod_least (hst : K.1.stackTraces = false) (hh : gMo h Y cd tx td k c w A CS) : Ct K r_Mod_least M_Mod_least [.ref (Y 0)] h (mAn h Y tx td k c w A CS (mbP k A CS fun n => ∀ m, m < n → ¬ hat A k CS (2 ^ k - 1) m)) := by
  obtain ⟨F, ty, nc, nt, tg, hm, ht, hs⟩ := hh
  have h12 := pwA hs.1.2
  have hA := hs.1.2
  have h1 := Nat.one_le_two_pow (n := A)
  refine Ct.of hst (by decide) (Or.inl rfl) (Nat.le_of_ble_eq_true rfl) ?_
  refine g_aload_n d_Mod_least_0 rfl ?_
  refine g_aload_n d_Mod_least_1 rfl ?_
  refine g_get d_Mod_least_2 f_Mod_101 (hm.2) rfl ?_
  refine g_if_eq (tgt := 12) d_Mod_least_5 (by decide) (fun q => ?_) (fun q => ?_)
  · have q0 : k = 0 := Classical.byContradiction fun z => by
      rw [decide_eq_true z] at q
      exact absurd q (by decide)
    have hm1 := hm.o (nI 1) ty td nc nt (bI (decide (¬ k = 0))) (nI k) tg (nI A)
    refine g_iconst (v := nI 1) d_Mod_least_12 (by decide) ?_
    refine g_put (fs' := [_, _, _, _, _, _, _, _, _, _, _, _, _, _, _, _, _, _, _, _, _, _, _, _, _]) d_Mod_least_13 f_Mod_63 (hm.2) rfl rfl (Nat.le_of_ble_eq_true rfl) rfl ?_
    refine g_iconst (v := nI 0) d_Mod_least_16 (by decide) ?_
    refine g_istore_n d_Mod_least_17 rfl (Nat.le_of_ble_eq_true rfl) rfl ?_
    refine g_iload_n d_Mod_least_18 rfl ?_
    refine g_iconst (v := nI 1) d_Mod_least_19 (by decide) ?_
    refine g_aload_n d_Mod_least_20 rfl ?_
    refine g_get d_Mod_least_21 f_Mod_108 (hm1.2) rfl ?_
    refine g_ishl d_Mod_least_24 ?_
    rw [nI_shl1 (by omega)]
    refine g_icmpN_ge (tgt := 63) d_Mod_least_25 (by decide) (rfl) (rfl) (by decide) (by omega) (fun q => ?_) (fun q => ?_)
    · omega
    · refine g_aload_n d_Mod_least_28 rfl ?_
      refine g_get d_Mod_least_29 f_Mod_63 (hm1.2) rfl ?_
      refine g_if_ne (tgt := 63) d_Mod_least_32 (by decide) (fun q => ?_) (fun q => ?_)
      · refine g_aload_n d_Mod_least_63 rfl ?_
        refine g_aload_n d_Mod_least_64 rfl ?_
        refine g_get d_Mod_least_65 f_Mod_63 (hm1.2) rfl ?_
        refine g_if_le (tgt := 78) d_Mod_least_68 (by decide) (fun q => ?_) (fun q => ?_)
        · exact absurd q (by decide)
        · refine g_aload_n d_Mod_least_71 rfl ?_
          refine g_get d_Mod_least_72 f_Mod_63 (hm1.2) rfl ?_
          refine g_goto (tgt := 79) d_Mod_least_75 (by decide) ?_
          refine g_put (fs' := [_, _, _, _, _, _, _, _, _, _, _, _, _, _, _, _, _, _, _, _, _, _, _, _, _]) d_Mod_least_79 f_Mod_63 (hm1.2) rfl rfl (Nat.le_of_ble_eq_true rfl) rfl ?_
          refine g_iconst (v := nI 0) d_Mod_least_82 (by decide) ?_
          exact g_ret_i d_Mod_least_83 rfl rfl ⟨_, rfl, _, _, rfl, ⟨F, ty, nc, nt, tg, hm1.o (nI 1) _ _ _ _ _ _ _ _, ht, hs⟩, mK0 (mK0 gKP.rf (by decide)) (by decide), Or.inl ⟨q0, rfl⟩⟩
      · exact absurd q (by decide)
  · have q0 : ¬ k = 0 := of_decide_eq_true (Classical.byContradiction fun z => q (by rw [ts_nt z]; rfl))
    refine g_iconst (v := nI 0) d_Mod_least_8 (by decide) ?_
    refine g_goto (tgt := 13) d_Mod_least_9 (by decide) ?_
    refine g_put (fs' := [_, _, _, _, _, _, _, _, _, _, _, _, _, _, _, _, _, _, _, _, _, _, _, _, _]) d_Mod_least_13 f_Mod_63 (hm.2) rfl rfl (Nat.le_of_ble_eq_true rfl) rfl ?_
    refine g_iconst (v := nI 0) d_Mod_least_16 (by decide) ?_
    refine g_istore_n d_Mod_least_17 rfl (Nat.le_of_ble_eq_true rfl) rfl ?_
    exact l_Mod_least hst q0 (hm.o (nI 0) ty td nc nt (bI (decide (¬ k = 0))) (nI k) tg (nI A)) ht hs (mK0 gKP.rf (by decide)) (2 ^ A) 0 (by omega) fun m hm => absurd hm (Nat.not_lt_zero _)
theorem l_Mod_greatest (hst : K.1.stackTraces = false) {h0 : gH} {F : Nat → Nat → Int32} {ty nc nt tg : Int32} (hk0 : ¬ k = 0) (hm : gMb h Y F (nI 0) ty td nc nt (bI (decide (¬ k = 0))) (nI k) tg (nI A)) (ht : mtx F ty tx) (hs : gMs F tg k c w A CS) (hK : gKP h0 h (gOf Y 17)) : ∀ (n : Nat), n ≤ 2 ^ A → (∀ m, n ≤ m → m < 2 ^ A → ¬ hat A k CS (2 ^ k - 1) m) → ∀ x : Int32, x + Int32.ofInt 1 = nI n → Go K M_Mod_greatest r_Mod_greatest 25 [(0, .ref (Y 0)), (1, .int x)] [] h 0 0 (mAn h0 Y tx td k c w A CS (mbP k A CS fun n => ∀ m, n < m → m < 2 ^ A → ¬ hat A k CS (2 ^ k - 1) m)) := by
  have h12 := pwA hs.1.2
  have hA := hs.1.2
  intro n
  induction n with
  | zero =>
    intro hn hno x hx
    have ex : x = -1 := by
      have h2 : x = (x + Int32.ofInt 1) - Int32.ofInt 1 := (Int32.add_sub_cancel x _).symm
      rw [h2, hx]
      decide
    subst ex
    refine g_iload_n d_Mod_greatest_25 rfl ?_
    refine g_if_lt (tgt := 64) d_Mod_greatest_26 (by decide) (fun q => ?_) (fun q => ?_)
    · refine g_aload_n d_Mod_greatest_64 rfl ?_
      refine g_aload_n d_Mod_greatest_65 rfl ?_
      refine g_get d_Mod_greatest_66 f_Mod_63 (hm.2) rfl ?_
      refine g_if_le (tgt := 79) d_Mod_greatest_69 (by decide) (fun q => ?_) (fun q => ?_)
      · refine g_iconst (v := nI 2) d_Mod_greatest_79 (by decide) ?_
        refine g_put (fs' := [_, _, _, _, _, _, _, _, _, _, _, _, _, _, _, _, _, _, _, _, _, _, _, _, _]) d_Mod_greatest_80 f_Mod_63 (hm.2) rfl rfl (Nat.le_of_ble_eq_true rfl) rfl ?_
        refine g_iconst (v := nI 0) d_Mod_greatest_83 (by decide) ?_
        refine g_ret_i d_Mod_greatest_84 rfl rfl ⟨_, rfl, _, _, rfl, ⟨F, ty, nc, nt, tg, hm.o (nI 2) _ _ _ _ _ _ _ _, ht, hs⟩, mK0 hK (by decide), Or.inr (Or.inl ⟨hk0, ?_, rfl⟩)⟩
        rintro ⟨m, m1, m2⟩
        exact hno m (Nat.zero_le _) m1 m2
      · exact absurd (by decide : nI 0 ≤ 0) q
    · exact absurd (by decide) q
  | succ n ih =>
    intro hn hno x hx
    have ex : x = nI n := by
      have h2 : x = (x + Int32.ofInt 1) - Int32.ofInt 1 := (Int32.add_sub_cancel x _).symm
      rw [h2, hx, ← nI_inc]
      exact Int32.add_sub_cancel _ _
    subst ex
    refine g_iload_n d_Mod_greatest_25 rfl ?_
    refine g_if_lt (tgt := 64) d_Mod_greatest_26 (by decide) (fun q => ?_) (fun q => ?_)
    · exact absurd q (nI_pos (by omega))
    · refine g_aload_n d_Mod_greatest_29 rfl ?_
      refine g_get d_Mod_greatest_30 f_Mod_63 (hm.2) rfl ?_
      refine g_if_ne (tgt := 64) d_Mod_greatest_33 (by decide) (fun q => ?_) (fun q => ?_)
      · exact absurd nI_0 q
      · refine g_aload_n d_Mod_greatest_36 rfl ?_
        refine g_aload_n d_Mod_greatest_37 rfl ?_
        refine g_callR (c_Mod_every hst hm hs.1.1) gm_Mod_every d_Mod_greatest_38 (gInv_v (As := []) (rest := [.ref (Y 0)]) d_Mod_greatest_38 gm_Mod_every gv_Mod_155 (hm.2) rfl) (Nat.le_of_ble_eq_true rfl) (Nat.le_of_ble_eq_true rfl) (Nat.le_of_ble_eq_true rfl) (Nat.le_of_ble_eq_true rfl) (Nat.le_of_ble_eq_true rfl) ?_
        refine g_aload_n d_Mod_greatest_41 rfl ?_
        refine g_iload_n d_Mod_greatest_42 rfl ?_
        refine g_callR (c_Mod_tableOf hst hm (by omega) hA) gm_Mod_tableOf d_Mod_greatest_43 (gInv_v (As := [.int (nI n)]) (rest := [.int (nI (2 ^ k - 1)), .ref (Y 0)]) d_Mod_greatest_43 gm_Mod_tableOf gv_Mod_161 (hm.2) rfl) (Nat.le_of_ble_eq_true rfl) (Nat.le_of_ble_eq_true rfl) (Nat.le_of_ble_eq_true rfl) (Nat.le_of_ble_eq_true rfl) (Nat.le_of_ble_eq_true rfl) ?_
        refine g_callR (c_Mod_holdsIn hst hm hs.1.1 (pw31 hs.1.1) (Nat.lt_of_lt_of_le (rvp_lt A n A) h12)) gm_Mod_holdsIn d_Mod_greatest_46 (gInv_v (As := [.int (nI (2 ^ k - 1)), .int (nI (rvp A n A))]) (rest := []) d_Mod_greatest_46 gm_Mod_holdsIn gv_Mod_152 (hm.2) rfl) (Nat.le_of_ble_eq_true rfl) (Nat.le_of_ble_eq_true rfl) (Nat.le_of_ble_eq_true rfl) (Nat.le_of_ble_eq_true rfl) (Nat.le_of_ble_eq_true rfl) ?_
        have hx := hin_hat hs.2.2.2 (s := 2 ^ k - 1) (rvp_lt A n A)
        rw [rvp_inv (by omega)] at hx
        refine g_if_eq (tgt := 58) d_Mod_greatest_49 (by decide) (fun q => ?_) (fun q => ?_)
        · refine g_iinc (v := nI n + Int32.ofInt (-1)) d_Mod_greatest_58 rfl rfl (Nat.le_of_ble_eq_true rfl) rfl ?_
          refine g_goto (tgt := 25) d_Mod_greatest_61 (by decide) ?_
          refine ih (by omega) (fun m hmn h2 => ?_) _ (by rw [Int32.add_assoc]; exact Int32.add_zero _)
          by_cases e : m = n
          · subst e
            intro z
            rw [hx.mpr z] at q
            exact absurd q (by decide)
          · exact hno m (by omega) h2
        · refine g_aload_n d_Mod_greatest_52 rfl ?_
          refine g_iload_n d_Mod_greatest_53 rfl ?_
          refine g_callR (c_Mod_tableOf hst hm (by omega) hA) gm_Mod_tableOf d_Mod_greatest_54 (gInv_v (As := [.int (nI n)]) (rest := []) d_Mod_greatest_54 gm_Mod_tableOf gv_Mod_161 (hm.2) rfl) (Nat.le_of_ble_eq_true rfl) (Nat.le_of_ble_eq_true rfl) (Nat.le_of_ble_eq_true rfl) (Nat.le_of_ble_eq_true rfl) (Nat.le_of_ble_eq_true rfl) ?_
          refine g_ret_i d_Mod_greatest_57 rfl rfl ⟨_, rfl, _, _, rfl, ⟨F, ty, nc, nt, tg, hm, ht, hs⟩, hK, Or.inr (Or.inr ⟨hk0, rfl, n, by omega, hx.mp ?_, fun m h1 h2 => hno m (by omega) h2, rfl⟩)⟩
          exact ts_nf fun z => q ((bI_z _).mpr z)
theorem c_Mod_greatest (hst : K.1.stackTraces = false) (hh : gMo h Y cd tx td k c w A CS) : Ct K r_Mod_greatest M_Mod_greatest [.ref (Y 0)] h (mAn h Y tx td k c w A CS (mbP k A CS fun n => ∀ m, n < m → m < 2 ^ A → ¬ hat A k CS (2 ^ k - 1) m)) := by
  obtain ⟨F, ty, nc, nt, tg, hm, ht, hs⟩ := hh
  have h12 := pwA hs.1.2
  have hA := hs.1.2
  have h1 := Nat.one_le_two_pow (n := A)
  refine Ct.of hst (by decide) (Or.inl rfl) (Nat.le_of_ble_eq_true rfl) ?_
  refine g_aload_n d_Mod_greatest_0 rfl ?_
  refine g_aload_n d_Mod_greatest_1 rfl ?_
  refine g_get d_Mod_greatest_2 f_Mod_101 (hm.2) rfl ?_
  refine g_if_eq (tgt := 12) d_Mod_greatest_5 (by decide) (fun q => ?_) (fun q => ?_)
  · have q0 : k = 0 := Classical.byContradiction fun z => by
      rw [decide_eq_true z] at q
      exact absurd q (by decide)
    have hm1 := hm.o (nI 1) ty td nc nt (bI (decide (¬ k = 0))) (nI k) tg (nI A)
    refine g_iconst (v := nI 1) d_Mod_greatest_12 (by decide) ?_
    refine g_put (fs' := [_, _, _, _, _, _, _, _, _, _, _, _, _, _, _, _, _, _, _, _, _, _, _, _, _]) d_Mod_greatest_13 f_Mod_63 (hm.2) rfl rfl (Nat.le_of_ble_eq_true rfl) rfl ?_
    refine g_iconst (v := nI 1) d_Mod_greatest_16 (by decide) ?_
    refine g_aload_n d_Mod_greatest_17 rfl ?_
    refine g_get d_Mod_greatest_18 f_Mod_108 (hm1.2) rfl ?_
    refine g_ishl d_Mod_greatest_21 ?_
    refine g_iconst (v := nI 1) d_Mod_greatest_22 (by decide) ?_
    refine g_isub d_Mod_greatest_23 ?_
    rw [nI_shl1 (by omega), pk_sub h1]
    refine g_istore_n d_Mod_greatest_24 rfl (Nat.le_of_ble_eq_true rfl) rfl ?_
    refine g_iload_n d_Mod_greatest_25 rfl ?_
    have end1 : Go K M_Mod_greatest r_Mod_greatest 64 [(0, .ref (Y 0)), (1, .int (nI (2 ^ A - 1)))] [] (gup h (Y 0) (mob Y (nI 1) ty td nc nt (bI (decide (¬ k = 0))) (nI k) tg (nI A))) 0 0 (mAn h Y tx td k c w A CS (mbP k A CS fun n => ∀ m, n < m → m < 2 ^ A → ¬ hat A k CS (2 ^ k - 1) m)) := by
      refine g_aload_n d_Mod_greatest_64 rfl ?_
      refine g_aload_n d_Mod_greatest_65 rfl ?_
      refine g_get d_Mod_greatest_66 f_Mod_63 (hm1.2) rfl ?_
      refine g_if_le (tgt := 79) d_Mod_greatest_69 (by decide) (fun q => ?_) (fun q => ?_)
      · exact absurd q (by decide)
      · refine g_aload_n d_Mod_greatest_72 rfl ?_
        refine g_get d_Mod_greatest_73 f_Mod_63 (hm1.2) rfl ?_
        refine g_goto (tgt := 80) d_Mod_greatest_76 (by decide) ?_
        refine g_put (fs' := [_, _, _, _, _, _, _, _, _, _, _, _, _, _, _, _, _, _, _, _, _, _, _, _, _]) d_Mod_greatest_80 f_Mod_63 (hm1.2) rfl rfl (Nat.le_of_ble_eq_true rfl) rfl ?_
        refine g_iconst (v := nI 0) d_Mod_greatest_83 (by decide) ?_
        exact g_ret_i d_Mod_greatest_84 rfl rfl ⟨_, rfl, _, _, rfl, ⟨F, ty, nc, nt, tg, hm1.o (nI 1) _ _ _ _ _ _ _ _, ht, hs⟩, mK0 (mK0 gKP.rf (by decide)) (by decide), Or.inl ⟨q0, rfl⟩⟩
    refine g_if_lt (tgt := 64) d_Mod_greatest_26 (by decide) (fun q => ?_) (fun q => ?_)
    · exact end1
    · refine g_aload_n d_Mod_greatest_29 rfl ?_
      refine g_get d_Mod_greatest_30 f_Mod_63 (hm1.2) rfl ?_
      refine g_if_ne (tgt := 64) d_Mod_greatest_33 (by decide) (fun q => ?_) (fun q => ?_)
      · exact end1
      · exact absurd q (by decide)
  · have q0 : ¬ k = 0 := of_decide_eq_true (Classical.byContradiction fun z => q (by rw [ts_nt z]; rfl))
    have hm1 := hm.o (nI 0) ty td nc nt (bI (decide (¬ k = 0))) (nI k) tg (nI A)
    refine g_iconst (v := nI 0) d_Mod_greatest_8 (by decide) ?_
    refine g_goto (tgt := 13) d_Mod_greatest_9 (by decide) ?_
    refine g_put (fs' := [_, _, _, _, _, _, _, _, _, _, _, _, _, _, _, _, _, _, _, _, _, _, _, _, _]) d_Mod_greatest_13 f_Mod_63 (hm.2) rfl rfl (Nat.le_of_ble_eq_true rfl) rfl ?_
    refine g_iconst (v := nI 1) d_Mod_greatest_16 (by decide) ?_
    refine g_aload_n d_Mod_greatest_17 rfl ?_
    refine g_get d_Mod_greatest_18 f_Mod_108 (hm1.2) rfl ?_
    refine g_ishl d_Mod_greatest_21 ?_
    refine g_iconst (v := nI 1) d_Mod_greatest_22 (by decide) ?_
    refine g_isub d_Mod_greatest_23 ?_
    rw [nI_shl1 (by omega), pk_sub h1]
    refine g_istore_n d_Mod_greatest_24 rfl (Nat.le_of_ble_eq_true rfl) rfl ?_
    exact l_Mod_greatest hst q0 hm1 ht hs (mK0 gKP.rf (by decide)) (2 ^ A) (Nat.le_refl _) (fun m h1 h2 => by omega) _ (by rw [nI_inc, Nat.sub_add_cancel h1])
end MODEL6
