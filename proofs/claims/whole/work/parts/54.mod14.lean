/-! ===== the reference takes what it has read ===== -/
def mlT (F : Nat → Nat → Int32) (j : Nat) (z : gLD) : Prop := F 9 j = nI z.2.1 ∧ F 10 j = bI z.1 ∧ (0 < z.2.2.1 → F 11 j = nI z.2.2.2.1) ∧ (1 < z.2.2.1 → F 12 j = nI z.2.2.2.2)
section MODEL14
variable {K : gK} {Y : Nat → Nat} {cd ty td nc nt th kk tg AA : Int32}
theorem l_Mod_take1 {h0 : gH} {F0 : Nat → Nat → Int32} {Q : Outcome → gH → Prop} (kq : ∀ (h : gH) (F : Nat → Nat → Int32), gMb h Y F cd ty td nc nt th kk tg AA → gKP h0 h (gOf Y 17) → (∀ m, m ≠ 13 → F m = F0 m) → (∀ j, j < 4 → F 13 j = F0 7 j) → Go K M_Mod_take r_Mod_take 57 [(0, .ref (Y 0)), (1, .int (nI 4))] [] h 0 0 Q) : ∀ (r i : Nat) (h : gH) (F : Nat → Nat → Int32), i + r = 4 → gMb h Y F cd ty td nc nt th kk tg AA → gKP h0 h (gOf Y 17) → (∀ m, m ≠ 13 → F m = F0 m) → (∀ j, j < i → F 13 j = F0 7 j) → Go K M_Mod_take r_Mod_take 34 [(0, .ref (Y 0)), (1, .int (nI i))] [] h 0 0 Q := by
  intro r
  induction r with
  | zero =>
    intro i h F hi hm hK hF h7
    have e : i = 4 := by omega
    subst e
    refine g_iload_n d_Mod_take_34 rfl ?_
    refine g_iconst (v := nI 4) d_Mod_take_35 (by decide) ?_
    refine g_icmpN_ge (tgt := 57) d_Mod_take_36 (by decide) (rfl) (rfl) (by decide) (by decide) (fun q => ?_) (fun q => ?_)
    · exact kq h F hm hK hF h7
    · omega
  | succ r ih =>
    intro i h F hi hm hK hF h7
    refine g_iload_n d_Mod_take_34 rfl ?_
    refine g_iconst (v := nI 4) d_Mod_take_35 (by decide) ?_
    refine g_icmpN_ge (tgt := 57) d_Mod_take_36 (by decide) (rfl) (rfl) (by omega) (by decide) (fun q => ?_) (fun q => ?_)
    · omega
    · refine g_aload_n d_Mod_take_39 rfl ?_
      refine g_get d_Mod_take_40 f_Mod_51 (hm.2) rfl ?_
      refine g_iload_n d_Mod_take_43 rfl ?_
      refine g_aload_n d_Mod_take_44 rfl ?_
      refine g_get d_Mod_take_45 f_Mod_33 (hm.2) rfl ?_
      refine g_iload_n d_Mod_take_48 rfl ?_
      refine g_iald d_Mod_take_49 (hm.1.a7) (rfl) (q) (by decide) ?_
      refine g_iast d_Mod_take_50 (hm.1.a13) (rfl) (q) (by decide) ?_
      refine g_iinc d_Mod_take_51 rfl (nI_inc _) (Nat.le_of_ble_eq_true rfl) rfl ?_
      refine g_goto (tgt := 34) d_Mod_take_54 (by decide) ?_
      refine ih (i + 1) _ (va_up F 13 (va_up (F 13) i (F 7 i))) (by omega) (hm.up (i := 13) (by decide) (by decide) _) (mK0 hK (by decide)) (fun j hj => ?_) fun j hj => ?_
      · show (if j = 13 then _ else F j) = _
        rw [if_neg hj]
        exact hF j hj
      · show (if j = i then _ else F 13 j) = _
        by_cases e : j = i
        · rw [if_pos e, e, hF 7 (by decide)]
        · rw [if_neg e]
          exact h7 j (by omega)
theorem l_Mod_take2 {h0 : gH} {F0 : Nat → Nat → Int32} {Q : Outcome → gH → Prop} (kq : ∀ (h : gH) (F : Nat → Nat → Int32), gMb h Y F cd ty td nc nt th kk tg AA → gKP h0 h (gOf Y 17) → (∀ m, m ≠ 8 → F m = F0 m) → (∀ j, j < 12 → F 8 j = F0 2 j) → Go K M_Mod_take r_Mod_take 83 [(0, .ref (Y 0)), (1, .int (nI 12))] [] h 0 0 Q) : ∀ (r i : Nat) (h : gH) (F : Nat → Nat → Int32), i + r = 12 → gMb h Y F cd ty td nc nt th kk tg AA → gKP h0 h (gOf Y 17) → (∀ m, m ≠ 8 → F m = F0 m) → (∀ j, j < i → F 8 j = F0 2 j) → Go K M_Mod_take r_Mod_take 59 [(0, .ref (Y 0)), (1, .int (nI i))] [] h 0 0 Q := by
  intro r
  induction r with
  | zero =>
    intro i h F hi hm hK hF h7
    have e : i = 12 := by omega
    subst e
    refine g_iload_n d_Mod_take_59 rfl ?_
    refine g_bipush (v := nI 12) d_Mod_take_60 (by decide) ?_
    refine g_icmpN_ge (tgt := 83) d_Mod_take_62 (by decide) (rfl) (rfl) (by decide) (by decide) (fun q => ?_) (fun q => ?_)
    · exact kq h F hm hK hF h7
    · omega
  | succ r ih =>
    intro i h F hi hm hK hF h7
    refine g_iload_n d_Mod_take_59 rfl ?_
    refine g_bipush (v := nI 12) d_Mod_take_60 (by decide) ?_
    refine g_icmpN_ge (tgt := 83) d_Mod_take_62 (by decide) (rfl) (rfl) (by omega) (by decide) (fun q => ?_) (fun q => ?_)
    · omega
    · refine g_aload_n d_Mod_take_65 rfl ?_
      refine g_get d_Mod_take_66 f_Mod_36 (hm.2) rfl ?_
      refine g_iload_n d_Mod_take_69 rfl ?_
      refine g_aload_n d_Mod_take_70 rfl ?_
      refine g_get d_Mod_take_71 f_Mod_17 (hm.2) rfl ?_
      refine g_iload_n d_Mod_take_74 rfl ?_
      refine g_iald d_Mod_take_75 (hm.1.a2) (rfl) (q) (by decide) ?_
      refine g_iast d_Mod_take_76 (hm.1.a8) (rfl) (q) (by decide) ?_
      refine g_iinc d_Mod_take_77 rfl (nI_inc _) (Nat.le_of_ble_eq_true rfl) rfl ?_
      refine g_goto (tgt := 59) d_Mod_take_80 (by decide) ?_
      refine ih (i + 1) _ (va_up F 8 (va_up (F 8) i (F 2 i))) (by omega) (hm.up (i := 8) (by decide) (by decide) _) (mK0 hK (by decide)) (fun j hj => ?_) fun j hj => ?_
      · show (if j = 8 then _ else F j) = _
        rw [if_neg hj]
        exact hF j hj
      · show (if j = i then _ else F 8 j) = _
        by_cases e : j = i
        · rw [if_pos e, e, hF 2 (by decide)]
        · rw [if_neg e]
          exact h7 j (by omega)
def tkI (F0 F : Nat → Nat → Int32) (i : Nat) : Prop := (∀ m, m < 9 ∨ 12 < m → F m = F0 m) ∧ ∀ j, j < i → F 9 j = F0 3 j ∧ F 10 j = F0 4 j ∧ F 11 j = F0 5 j ∧ F 12 j = F0 6 j
theorem nb_01 {x : Int32} (h : x = 0 ∨ x = 1) : narrow .boolean (.int x) = .int x := by
  rcases h with e | e <;> subst e <;> rfl
theorem l_Mod_take3 {h0 : gH} {F0 : Nat → Nat → Int32} {Q : Outcome → gH → Prop} (kq : ∀ (h : gH) (F : Nat → Nat → Int32), gMb h Y F cd ty td nc nt th kk tg AA → gKP h0 h (gOf Y 17) → tkI F0 F 48 → Go K M_Mod_take r_Mod_take 145 [(0, .ref (Y 0)), (1, .int (nI 48))] [] h 0 0 Q) : ∀ (r i : Nat) (h : gH) (F : Nat → Nat → Int32), i + r = 48 → gMb h Y F cd ty td nc nt th kk tg AA → gKP h0 h (gOf Y 17) → tkI F0 F i → Go K M_Mod_take r_Mod_take 85 [(0, .ref (Y 0)), (1, .int (nI i))] [] h 0 0 Q := by
  intro r
  induction r with
  | zero =>
    intro i h F hi hm hK hF
    have e : i = 48 := by omega
    subst e
    refine g_iload_n d_Mod_take_85 rfl ?_
    refine g_bipush (v := nI 48) d_Mod_take_86 (by decide) ?_
    refine g_icmpN_ge (tgt := 145) d_Mod_take_88 (by decide) (rfl) (rfl) (by decide) (by decide) (fun q => ?_) (fun q => ?_)
    · exact kq h F hm hK hF
    · omega
  | succ r ih =>
    intro i h F hi hm hK hF
    refine g_iload_n d_Mod_take_85 rfl ?_
    refine g_bipush (v := nI 48) d_Mod_take_86 (by decide) ?_
    refine g_icmpN_ge (tgt := 145) d_Mod_take_88 (by decide) (rfl) (rfl) (by omega) (by decide) (fun q => ?_) (fun q => ?_)
    · omega
    · have hm1 := hm.up (i := 9) (by decide) (by decide) (va_up (F 9) i (F 3 i))
      have hm2 := hm1.up (i := 10) (by decide) (by decide) (va_up (F 10) i (F 4 i))
      have hm3 := hm2.up (i := 11) (by decide) (by decide) (va_up (F 11) i (F 5 i))
      have hm4 := hm3.up (i := 12) (by decide) (by decide) (va_up (F 12) i (F 6 i))
      refine g_aload_n d_Mod_take_91 rfl ?_
      refine g_get d_Mod_take_92 f_Mod_39 (hm.2) rfl ?_
      refine g_iload_n d_Mod_take_95 rfl ?_
      refine g_aload_n d_Mod_take_96 rfl ?_
      refine g_get d_Mod_take_97 f_Mod_20 (hm.2) rfl ?_
      refine g_iload_n d_Mod_take_100 rfl ?_
      refine g_iald d_Mod_take_101 (hm.1.a3) (rfl) (q) (by decide) ?_
      refine g_iast d_Mod_take_102 (hm.1.a9) (rfl) (q) (by decide) ?_
      refine g_aload_n d_Mod_take_103 rfl ?_
      refine g_get d_Mod_take_104 f_Mod_42 (hm1.2) rfl ?_
      refine g_iload_n d_Mod_take_107 rfl ?_
      refine g_aload_n d_Mod_take_108 rfl ?_
      refine g_get d_Mod_take_109 f_Mod_23 (hm1.2) rfl ?_
      refine g_iload_n d_Mod_take_112 rfl ?_
      refine g_zald d_Mod_take_113 (hm1.1.a4) (rfl) (q) (by decide) ?_
      refine g_zast d_Mod_take_114 (hm1.1.a10) (rfl) (q) (by decide) (nb_01 (hm.1.1.2 i)) ?_
      refine g_aload_n d_Mod_take_115 rfl ?_
      refine g_get d_Mod_take_116 f_Mod_45 (hm2.2) rfl ?_
      refine g_iload_n d_Mod_take_119 rfl ?_
      refine g_aload_n d_Mod_take_120 rfl ?_
      refine g_get d_Mod_take_121 f_Mod_27 (hm2.2) rfl ?_
      refine g_iload_n d_Mod_take_124 rfl ?_
      refine g_iald d_Mod_take_125 (hm2.1.a5) (rfl) (q) (by decide) ?_
      refine g_iast d_Mod_take_126 (hm2.1.a11) (rfl) (q) (by decide) ?_
      refine g_aload_n d_Mod_take_127 rfl ?_
      refine g_get d_Mod_take_128 f_Mod_48 (hm3.2) rfl ?_
      refine g_iload_n d_Mod_take_131 rfl ?_
      refine g_aload_n d_Mod_take_132 rfl ?_
      refine g_get d_Mod_take_133 f_Mod_30 (hm3.2) rfl ?_
      refine g_iload_n d_Mod_take_136 rfl ?_
      refine g_iald d_Mod_take_137 (hm3.1.a6) (rfl) (q) (by decide) ?_
      refine g_iast d_Mod_take_138 (hm3.1.a12) (rfl) (q) (by decide) ?_
      refine g_iinc d_Mod_take_139 rfl (nI_inc _) (Nat.le_of_ble_eq_true rfl) rfl ?_
      refine g_goto (tgt := 85) d_Mod_take_142 (by decide) ?_
      refine ih (i + 1) _ (va_up (va_up (va_up (va_up F 9 (va_up (F 9) i (F 3 i))) 10 (va_up (F 10) i (F 4 i))) 11 (va_up (F 11) i (F 5 i))) 12 (va_up (F 12) i (F 6 i))) (by omega) hm4 (mK0 (mK0 (mK0 (mK0 hK (by decide)) (by decide)) (by decide)) (by decide)) ⟨fun m hmm => ?_, fun j hj => ?_⟩
      · show (if m = 12 then _ else if m = 11 then _ else if m = 10 then _ else if m = 9 then _ else F m) = _
        rw [if_neg (by omega), if_neg (by omega), if_neg (by omega), if_neg (by omega)]
        exact hF.1 m hmm
      · show (if j = i then F 3 i else F 9 j) = _ ∧ (if j = i then F 4 i else F 10 j) = _ ∧ (if j = i then F 5 i else F 11 j) = _ ∧ (if j = i then F 6 i else F 12 j) = _
        by_cases e : j = i
        · rw [if_pos e, if_pos e, if_pos e, if_pos e, e, hF.1 3 (by decide), hF.1 4 (by decide), hF.1 5 (by decide), hF.1 6 (by decide)]
          exact ⟨rfl, rfl, rfl, rfl⟩
        · rw [if_neg e, if_neg e, if_neg e, if_neg e]
          exact hF.2 j (by omega)
/-- what was taken: k clauses, constants c, widths w, sizes sz, literals lt -/
def mtk (F : Nat → Nat → Int32) (k : Nat) (w : Nat → Int32) (sz : Nat → Nat) (lt : Nat → gLD) : Prop := (∀ q, q < 4 → F 13 q = w q) ∧ (∀ u, u < k → F 8 u = nI (sz u)) ∧ ∀ u, u < k → ∀ i, i < sz u → mlT F (4 * u + i) (lt (4 * u + i))
theorem c_Mod_take (hst : K.1.stackTraces = false) {h : gH} {F : Nat → Nat → Int32} {k c : Nat} {w : Nat → Int32} {sz : Nat → Nat} {lt : Nat → gLD} (hm : gMb h Y F cd ty td (nI k) (nI c) th kk tg AA) (hk : k ≤ 12) (hc : c < 8) (hw : wok w) (hs4 : ∀ u, sz u ≤ 4) (hI : rtI F k c w sz lt) : Ct K r_Mod_take M_Mod_take [.ref (Y 0)] h (gRx fun o h' => o = none ∧ ∃ F', gMb h' Y F' cd ty td (nI k) (nI c) (nI 1) (nI k) (nI (thg c)) (nI (atc w c)) ∧ gKP h h' (gOf Y 17) ∧ F' 1 = F 1 ∧ mtk F' k w sz lt) := by
  refine Ct.of hst (by decide) (Or.inl rfl) (Nat.le_of_ble_eq_true rfl) ?_
  have hm1 := hm.o cd ty td (nI k) (nI c) (nI 1) kk tg AA
  have hm2 := hm1.o cd ty td (nI k) (nI c) (nI 1) (nI k) tg AA
  have hm3 := hm2.o cd ty td (nI k) (nI c) (nI 1) (nI k) (nI (thg c)) AA
  have hatc : atc w (thg c) = atc w c := by
    unfold atc
    rw [(pc3_tcn c hc).2.2.2]
  have go : ∀ v, v = thg c → Go K M_Mod_take r_Mod_take 29 [(0, .ref (Y 0))] [.int (nI v), .ref (Y 0)] (gup (gup h (Y 0) (mob Y cd ty td (nI k) (nI c) (nI 1) kk tg AA)) (Y 0) (mob Y cd ty td (nI k) (nI c) (nI 1) (nI k) tg AA)) 0 0 (gRx fun o h' => o = none ∧ ∃ F', gMb h' Y F' cd ty td (nI k) (nI c) (nI 1) (nI k) (nI (thg c)) (nI (atc w c)) ∧ gKP h h' (gOf Y 17) ∧ F' 1 = F 1 ∧ mtk F' k w sz lt) := by
    rintro v rfl
    refine g_put (fs' := [_, _, _, _, _, _, _, _, _, _, _, _, _, _, _, _, _, _, _, _, _, _, _, _, _]) d_Mod_take_29 f_Mod_98 (hm2.2) rfl rfl (Nat.le_of_ble_eq_true rfl) rfl ?_
    refine g_iconst (v := nI 0) d_Mod_take_32 (by decide) ?_
    refine g_istore_n d_Mod_take_33 rfl (Nat.le_of_ble_eq_true rfl) rfl ?_
    refine l_Mod_take1 (F0 := F) (h0 := h) (fun h4 F4 hm4 hK4 e4 e4b => ?_) 4 0 _ F rfl hm3 (mK0 (mK0 (mK0 gKP.rf (by decide)) (by decide)) (by decide)) (fun _ _ => rfl) fun j hj => absurd hj (Nat.not_lt_zero _)
    refine g_iconst (v := nI 0) d_Mod_take_57 (by decide) ?_
    refine g_istore_n d_Mod_take_58 rfl (Nat.le_of_ble_eq_true rfl) rfl ?_
    refine l_Mod_take2 (F0 := F4) (h0 := h) (fun h5 F5 hm5 hK5 e5 e5b => ?_) 12 0 _ F4 rfl hm4 hK4 (fun _ _ => rfl) fun j hj => absurd hj (Nat.not_lt_zero _)
    refine g_iconst (v := nI 0) d_Mod_take_83 (by decide) ?_
    refine g_istore_n d_Mod_take_84 rfl (Nat.le_of_ble_eq_true rfl) rfl ?_
    refine l_Mod_take3 (F0 := F5) (h0 := h) (fun h6 F6 hm6 hK6 e6 => ?_) 48 0 _ F5 rfl hm5 hK5 ⟨fun _ _ => rfl, fun j hj => absurd hj (Nat.not_lt_zero _)⟩
    have w13 : ∀ q, q < 4 → F6 13 q = w q := fun q hq => by
      rw [e6.1 13 (by decide), e5 13 (by decide), e4b q hq]
      exact hI.1 q hq
    refine g_aload_n d_Mod_take_145 rfl ?_
    refine g_aload_n d_Mod_take_146 rfl ?_
    refine g_get d_Mod_take_147 f_Mod_51 (hm6.2) rfl ?_
    refine g_aload_n d_Mod_take_150 rfl ?_
    refine g_get d_Mod_take_151 f_Mod_98 (hm6.2) rfl ?_
    refine g_callR (c_Mod_atomsOf hst hw w13 hm6.1.a13 (thg_lt hc)) gm_Mod_atomsOf d_Mod_take_154 (gInv_s (As := [.ref (Y 13), .int (nI (thg c))]) (rest := [.ref (Y 0)]) d_Mod_take_154 gm_Mod_atomsOf gs_Mod_87) (Nat.le_of_ble_eq_true rfl) (Nat.le_of_ble_eq_true rfl) (Nat.le_of_ble_eq_true rfl) (Nat.le_of_ble_eq_true rfl) (Nat.le_of_ble_eq_true rfl) ?_
    rw [hatc]
    refine g_put (fs' := [_, _, _, _, _, _, _, _, _, _, _, _, _, _, _, _, _, _, _, _, _, _, _, _, _]) d_Mod_take_157 f_Mod_108 (hm6.2) rfl rfl (Nat.le_of_ble_eq_true rfl) rfl ?_
    refine g_ret_v d_Mod_take_160 rfl ⟨_, rfl, rfl, F6, hm6.o cd ty td (nI k) (nI c) (nI 1) (nI k) (nI (thg c)) (nI (atc w c)), mK0 hK6 (by decide), ?_, w13, fun u hu => ?_, fun u hu i hi => ?_⟩
    · rw [e6.1 1 (by decide), e5 1 (by decide), e4 1 (by decide)]
    · rw [e6.1 8 (by decide), e5b u (by omega), e4 2 (by decide)]
      exact hI.2.1 u hu
    · have h4 := hs4 u
      obtain ⟨x1, x2, x3, x4⟩ := e6.2 (4 * u + i) (by omega)
      obtain ⟨y1, y2, y3, y4⟩ := hI.2.2 u hu i hi
      rw [e5 3 (by decide), e4 3 (by decide)] at x1
      rw [e5 4 (by decide), e4 4 (by decide)] at x2
      rw [e5 5 (by decide), e4 5 (by decide)] at x3
      rw [e5 6 (by decide), e4 6 (by decide)] at x4
      exact ⟨x1.trans y1, x2.trans y2, fun z => x3.trans (y3 z), fun z => x4.trans (y4 z)⟩
  refine g_aload_n d_Mod_take_0 rfl ?_
  refine g_iconst (v := nI 1) d_Mod_take_1 (by decide) ?_
  refine g_put (fs' := [_, _, _, _, _, _, _, _, _, _, _, _, _, _, _, _, _, _, _, _, _, _, _, _, _]) d_Mod_take_2 f_Mod_101 (hm.2) rfl rfl (Nat.le_of_ble_eq_true rfl) rfl ?_
  refine g_aload_n d_Mod_take_5 rfl ?_
  refine g_aload_n d_Mod_take_6 rfl ?_
  refine g_get d_Mod_take_7 f_Mod_91 (hm1.2) rfl ?_
  refine g_put (fs' := [_, _, _, _, _, _, _, _, _, _, _, _, _, _, _, _, _, _, _, _, _, _, _, _, _]) d_Mod_take_10 f_Mod_105 (hm1.2) rfl rfl (Nat.le_of_ble_eq_true rfl) rfl ?_
  refine g_aload_n d_Mod_take_13 rfl ?_
  refine g_aload_n d_Mod_take_14 rfl ?_
  refine g_get d_Mod_take_15 f_Mod_84 (hm2.2) rfl ?_
  refine g_if_ne (tgt := 25) d_Mod_take_18 (by decide) (fun q => ?_) (fun q => ?_)
  · refine g_aload_n d_Mod_take_25 rfl ?_
    refine g_get d_Mod_take_26 f_Mod_84 (hm2.2) rfl ?_
    exact go c (if_neg fun z => q (by rw [z]; rfl)).symm
  · refine g_iconst (v := nI 1) d_Mod_take_21 (by decide) ?_
    refine g_goto (tgt := 29) d_Mod_take_22 (by decide) ?_
    exact go 1 (if_pos ((nI_z (by omega)).mp q)).symm
end MODEL14
