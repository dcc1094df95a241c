/-- some t below N is so -/
def fyn (p : Nat → Bool) : Nat → Bool
  | 0 => false
  | t + 1 => fyn p t || p t
theorem fyn_iff {p : Nat → Bool} : ∀ {N : Nat}, fyn p N = true ↔ ∃ t, t < N ∧ p t = true := by
  intro N
  induction N with
  | zero => exact ⟨fun z => (by cases z), fun ⟨t, ht, _⟩ => absurd ht (Nat.not_lt_zero _)⟩
  | succ N ih =>
    show (fyn p N || p N) = true ↔ _
    rw [Bool.or_eq_true, ih]
    constructor
    · rintro (⟨t, h1, h2⟩ | h1)
      · exact ⟨t, by omega, h2⟩
      · exact ⟨N, by omega, h1⟩
    · rintro ⟨t, h1, h2⟩
      by_cases e : t = N
      · subst e
        exact Or.inr h2
      · exact Or.inl ⟨t, by omega, h2⟩
section MODEL7
variable {K : gK} {h : gH} {Y : Nat → Nat} {cd : Int32} {tx : List Nat} {td : Int32} {k c : Nat} {w : Nat → Int32} {A : Nat} {CS : Nat → Nat → Prop}
theorem bI_t {b : Bool} (q : ¬ bI b = 0) : b = true := ts_nf fun z => q ((bI_z _).mpr z)
def fP (F : Nat → Nat → Int32) (k a : Nat) (b : Bool) (t : Nat) : Bool := hin F (2 ^ k - 1) t k && (t.testBit a == b)
/-- what forced tells -/
def mfP (k A : Nat) (CS : Nat → Nat → Prop) (a : Int32) (cd x : Int32) : Prop := (k = 0 ∧ cd = nI 1) ∨ (¬ k = 0 ∧ ¬ (¬ a < 0 ∧ a < nI A) ∧ cd = nI 2) ∨ (¬ k = 0 ∧ (¬ a < 0 ∧ a < nI A) ∧ (¬ ∃ n, n < 2 ^ A ∧ hat A k CS (2 ^ k - 1) n) ∧ cd = nI 3) ∨ (¬ k = 0 ∧ cd = nI 0 ∧ ∃ j, j < A ∧ a = nI j ∧ (∃ n, n < 2 ^ A ∧ hat A k CS (2 ^ k - 1) n) ∧ ∃ y z : Bool, (y = true ↔ ∃ n, n < 2 ^ A ∧ hat A k CS (2 ^ k - 1) n ∧ n.testBit (A - 1 - j) = true) ∧ (z = true ↔ ∃ n, n < 2 ^ A ∧ hat A k CS (2 ^ k - 1) n ∧ n.testBit (A - 1 - j) = false) ∧ x = (if y = true ∧ z = true then nI 2 else if y = true then nI 1 else nI 0))
theorem fyn_hat {F : Nat → Nat → Int32} (hd : mhd F k A CS) {a : Nat} (ha : a < A) {b : Bool} : fyn (fP F k a b) (2 ^ A) = true ↔ ∃ n, n < 2 ^ A ∧ hat A k CS (2 ^ k - 1) n ∧ n.testBit (A - 1 - a) = b := by
  rw [fyn_iff, ← rv_ex (P := fun n => hat A k CS (2 ^ k - 1) n ∧ n.testBit (A - 1 - a) = b)]
  refine exists_congr fun t => and_congr_right fun ht => ?_
  unfold fP
  rw [Bool.and_eq_true, beq_iff_eq, hin_hat hd ht, rvp_bit, decide_eq_true (show A - 1 - a < A by omega), Bool.true_and, show A - 1 - (A - 1 - a) = a by omega]
theorem l_Mod_forced (hst : K.1.stackTraces = false) {F : Nat → Nat → Int32} {ty nc nt tg : Int32} {a : Nat} (ha : a < A) (hm : gMb h Y F (nI 0) ty td nc nt (bI (decide (¬ k = 0))) (nI k) tg (nI A)) (hs : gMs F tg k c w A CS) {Q : Outcome → gH → Prop}
    (kq : Go K M_Mod_forced r_Mod_forced 141 [(0, .ref (Y 0)), (1, .int (nI a)), (2, .int (bI (fyn (fP F k a true) (2 ^ A)))), (3, .int (bI (fyn (fP F k a false) (2 ^ A)))), (4, .int (nI (2 ^ A)))] [] h 0 0 Q) : ∀ (r t : Nat), t + r = 2 ^ A → Go K M_Mod_forced r_Mod_forced 63 [(0, .ref (Y 0)), (1, .int (nI a)), (2, .int (bI (fyn (fP F k a true) t))), (3, .int (bI (fyn (fP F k a false) t))), (4, .int (nI t))] [] h 0 0 Q := by
  have h12 := pwA hs.1.2
  have hA := hs.1.2
  intro r
  induction r with
  | zero =>
    intro t ht
    have et : t = 2 ^ A := by omega
    subst et
    refine g_iload d_Mod_forced_63 rfl ?_
    refine g_iconst (v := nI 1) d_Mod_forced_65 (by decide) ?_
    refine g_aload_n d_Mod_forced_66 rfl ?_
    refine g_get d_Mod_forced_67 f_Mod_108 (hm.2) rfl ?_
    refine g_ishl d_Mod_forced_70 ?_
    rw [nI_shl1 (by omega)]
    refine g_icmpN_ge (tgt := 141) d_Mod_forced_71 (by decide) (rfl) (rfl) (by omega) (by omega) (fun q => ?_) (fun q => ?_)
    · exact kq
    · omega
  | succ r ih =>
    intro t ht
    have hb : t / 2 ^ a % 2 < 2 := Nat.mod_lt _ (by decide)
    have etb : t.testBit a = decide (t / 2 ^ a % 2 = 1) := Nat.testBit_eq_decide_div_mod_eq
    have fin2 : ∀ (b1 b2 : Bool), b1 = (fyn (fP F k a true) t || fP F k a true t) → b2 = (fyn (fP F k a false) t || fP F k a false t) → ∀ z, Go K M_Mod_forced r_Mod_forced 134 [(0, .ref (Y 0)), (1, .int (nI a)), (2, .int (bI b1)), (3, .int (bI (fyn (fP F k a false) t))), (4, .int (nI t)), (5, .int z)] [.int (bI b2)] h 0 0 Q := by
      rintro b1 b2 rfl rfl z
      refine g_istore_n d_Mod_forced_134 rfl (Nat.le_of_ble_eq_true rfl) rfl ?_
      refine g_iinc d_Mod_forced_135 rfl (nI_inc _) (Nat.le_of_ble_eq_true rfl) rfl ?_
      refine g_goto (tgt := 63) d_Mod_forced_138 (by decide) ?_
      exact g_drop [(0, .ref (Y 0)), (1, .int (nI a)), (2, .int (bI (fyn (fP F k a true) (t + 1)))), (3, .int (bI (fyn (fP F k a false) (t + 1)))), (4, .int (nI (t + 1)))] ⟨rfl, rfl, rfl, rfl, rfl, trivial⟩ (ih (t + 1) (by omega))
    have fin1 : ∀ (b1 : Bool), b1 = (fyn (fP F k a true) t || fP F k a true t) → Go K M_Mod_forced r_Mod_forced 110 [(0, .ref (Y 0)), (1, .int (nI a)), (2, .int (bI (fyn (fP F k a true) t))), (3, .int (bI (fyn (fP F k a false) t))), (4, .int (nI t)), (5, .int (bI (hin F (2 ^ k - 1) t k)))] [.int (bI b1)] h 0 0 Q := by
      intro b1 hb1
      refine g_istore_n d_Mod_forced_110 rfl (Nat.le_of_ble_eq_true rfl) rfl ?_
      refine g_iload_n d_Mod_forced_111 rfl ?_
      refine g_if_ne (tgt := 129) d_Mod_forced_112 (by decide) (fun q => ?_) (fun q => ?_)
      · refine g_iconst (v := nI 1) d_Mod_forced_129 (by decide) ?_
        refine g_goto (tgt := 134) d_Mod_forced_130 (by decide) ?_
        exact fin2 b1 true hb1 (by rw [bI_t q, Bool.true_or]) _
      · have q0 := (bI_z _).mp q
        refine g_iload d_Mod_forced_115 rfl ?_
        refine g_if_eq (tgt := 133) d_Mod_forced_117 (by decide) (fun q => ?_) (fun q => ?_)
        · refine g_iconst (v := nI 0) d_Mod_forced_133 (by decide) ?_
          refine fin2 b1 false hb1 ?_ _
          unfold fP at q0 ⊢
          rw [q0, (bI_z _).mp q]
          rfl
        · have q1 := bI_t q
          refine g_iload d_Mod_forced_120 rfl ?_
          refine g_iload_n d_Mod_forced_122 rfl ?_
          refine g_ishr d_Mod_forced_123 ?_
          refine g_iconst (v := nI 1) d_Mod_forced_124 (by decide) ?_
          refine g_iand d_Mod_forced_125 ?_
          rw [nI_bit (by omega) (by omega)]
          refine g_if_ne (tgt := 133) d_Mod_forced_126 (by decide) (fun q => ?_) (fun q => ?_)
          · refine g_iconst (v := nI 0) d_Mod_forced_133 (by decide) ?_
            refine fin2 b1 false hb1 ?_ _
            unfold fP at q0 ⊢
            rw [q0, q1, etb, decide_eq_true (show t / 2 ^ a % 2 = 1 by
              have : ¬ t / 2 ^ a % 2 = 0 := fun z => q (by rw [z]; rfl)
              omega)]
            rfl
          · refine g_iconst (v := nI 1) d_Mod_forced_129 (by decide) ?_
            refine g_goto (tgt := 134) d_Mod_forced_130 (by decide) ?_
            refine fin2 b1 true hb1 ?_ _
            unfold fP
            rw [q1, etb, decide_eq_false (show ¬ t / 2 ^ a % 2 = 1 by
              have := (nI_z (by omega)).mp q
              omega)]
            exact (Bool.or_true _).symm
    refine g_iload d_Mod_forced_63 rfl ?_
    refine g_iconst (v := nI 1) d_Mod_forced_65 (by decide) ?_
    refine g_aload_n d_Mod_forced_66 rfl ?_
    refine g_get d_Mod_forced_67 f_Mod_108 (hm.2) rfl ?_
    refine g_ishl d_Mod_forced_70 ?_
    rw [nI_shl1 (by omega)]
    refine g_icmpN_ge (tgt := 141) d_Mod_forced_71 (by decide) (rfl) (rfl) (by omega) (by omega) (fun q => ?_) (fun q => ?_)
    · omega
    · refine g_aload_n d_Mod_forced_74 rfl ?_
      refine g_aload_n d_Mod_forced_75 rfl ?_
      refine g_callR (c_Mod_every hst hm hs.1.1) gm_Mod_every d_Mod_forced_76 (gInv_v (As := []) (rest := [.ref (Y 0)]) d_Mod_forced_76 gm_Mod_every gv_Mod_155 (hm.2) rfl) (Nat.le_of_ble_eq_true rfl) (Nat.le_of_ble_eq_true rfl) (Nat.le_of_ble_eq_true rfl) (Nat.le_of_ble_eq_true rfl) (Nat.le_of_ble_eq_true rfl) ?_
      refine g_iload d_Mod_forced_79 rfl ?_
      refine g_callR (c_Mod_holdsIn hst hm hs.1.1 (pw31 hs.1.1) (by omega)) gm_Mod_holdsIn d_Mod_forced_81 (gInv_v (As := [.int (nI (2 ^ k - 1)), .int (nI t)]) (rest := []) d_Mod_forced_81 gm_Mod_holdsIn gv_Mod_152 (hm.2) rfl) (Nat.le_of_ble_eq_true rfl) (Nat.le_of_ble_eq_true rfl) (Nat.le_of_ble_eq_true rfl) (Nat.le_of_ble_eq_true rfl) (Nat.le_of_ble_eq_true rfl) ?_
      refine g_istore d_Mod_forced_84 (Nat.le_of_ble_eq_true rfl) rfl ?_
      refine g_iload_n d_Mod_forced_86 rfl ?_
      refine g_if_ne (tgt := 105) d_Mod_forced_87 (by decide) (fun q => ?_) (fun q => ?_)
      · refine g_iconst (v := nI 1) d_Mod_forced_105 (by decide) ?_
        refine g_goto (tgt := 110) d_Mod_forced_106 (by decide) ?_
        exact fin1 true (by rw [bI_t q, Bool.true_or])
      · have q0 := (bI_z _).mp q
        refine g_iload d_Mod_forced_90 rfl ?_
        refine g_if_eq (tgt := 109) d_Mod_forced_92 (by decide) (fun q => ?_) (fun q => ?_)
        · refine g_iconst (v := nI 0) d_Mod_forced_109 (by decide) ?_
          refine fin1 false ?_
          unfold fP at q0 ⊢
          rw [q0, (bI_z _).mp q]
          rfl
        · have q1 := bI_t q
          refine g_iload d_Mod_forced_95 rfl ?_
          refine g_iload_n d_Mod_forced_97 rfl ?_
          refine g_ishr d_Mod_forced_98 ?_
          refine g_iconst (v := nI 1) d_Mod_forced_99 (by decide) ?_
          refine g_iand d_Mod_forced_100 ?_
          refine g_iconst (v := nI 1) d_Mod_forced_101 (by decide) ?_
          rw [nI_bit (by omega) (by omega)]
          refine g_icmpN_ne (tgt := 109) d_Mod_forced_102 (by decide) (rfl) (rfl) (by omega) (by decide) (fun q => ?_) (fun q => ?_)
          · refine g_iconst (v := nI 0) d_Mod_forced_109 (by decide) ?_
            refine fin1 false ?_
            unfold fP at q0 ⊢
            rw [q0, q1, etb, decide_eq_false q]
            rfl
          · refine g_iconst (v := nI 1) d_Mod_forced_105 (by decide) ?_
            refine g_goto (tgt := 110) d_Mod_forced_106 (by decide) ?_
            refine fin1 true ?_
            unfold fP
            rw [q1, etb, decide_eq_true q]
            exact (Bool.or_true _).symm
theorem c_Mod_forced (hst : K.1.stackTraces = false) (hh : gMo h Y cd tx td k c w A CS) (x : Int32) : Ct K r_Mod_forced M_Mod_forced [.ref (Y 0), .int x] h (mAn h Y tx td k c w A CS (mfP k A CS x)) := by
  obtain ⟨F, ty, nc, nt, tg, hm, ht, hs⟩ := hh
  have h12 := pwA hs.1.2
  have hA := hs.1.2
  have bad : ∀ n, 0 < n → n < 4 → (∀ x', mfP k A CS x (nI n) x') → Go K M_Mod_forced r_Mod_forced 44 [(0, .ref (Y 0)), (1, .int x)] [.int (nI n), .ref (Y 0)] h 0 0 (mAn h Y tx td k c w A CS (mfP k A CS x)) := by
    intro n n0 n4 hb
    refine g_put (fs' := [_, _, _, _, _, _, _, _, _, _, _, _, _, _, _, _, _, _, _, _, _, _, _, _, _]) d_Mod_forced_44 f_Mod_63 (hm.2) rfl rfl (Nat.le_of_ble_eq_true rfl) rfl ?_
    refine g_aload_n d_Mod_forced_47 rfl ?_
    refine g_get d_Mod_forced_48 f_Mod_63 (gup_s _ _ _) rfl ?_
    refine g_if_le (tgt := 56) d_Mod_forced_51 (by decide) (fun q => ?_) (fun q => ?_)
    · exact absurd n0 ((nI_gt (by omega)).mp q)
    · refine g_iconst (v := nI 0) d_Mod_forced_54 (by decide) ?_
      exact g_ret_i d_Mod_forced_55 rfl rfl ⟨_, rfl, _, _, rfl, ⟨F, ty, nc, nt, tg, hm.o (nI n) ty td nc nt _ _ tg _, ht, hs⟩, mK0 gKP.rf (by decide), hb _⟩
  refine Ct.of hst (by decide) (Or.inl rfl) (Nat.le_of_ble_eq_true rfl) ?_
  refine g_aload_n d_Mod_forced_0 rfl ?_
  refine g_aload_n d_Mod_forced_1 rfl ?_
  refine g_get d_Mod_forced_2 f_Mod_101 (hm.2) rfl ?_
  refine g_if_ne (tgt := 12) d_Mod_forced_5 (by decide) (fun q => ?_) (fun q => ?_)
  · have q0 : ¬ k = 0 := of_decide_eq_true (bI_t q)
    have out : ¬ (¬ x < 0 ∧ x < nI A) → Go K M_Mod_forced r_Mod_forced 24 [(0, .ref (Y 0)), (1, .int x)] [.ref (Y 0)] h 0 0 (mAn h Y tx td k c w A CS (mfP k A CS x)) := by
      intro hx
      refine g_iconst (v := nI 2) d_Mod_forced_24 (by decide) ?_
      refine g_goto (tgt := 44) d_Mod_forced_25 (by decide) ?_
      exact bad 2 (by decide) (by decide) fun _ => Or.inr (Or.inl ⟨q0, hx, rfl⟩)
    refine g_iload_n d_Mod_forced_12 rfl ?_
    refine g_if_lt (tgt := 24) d_Mod_forced_13 (by decide) (fun q => ?_) (fun q => ?_)
    · exact out fun z => z.1 q
    · have qx := q
      refine g_iload_n d_Mod_forced_16 rfl ?_
      refine g_aload_n d_Mod_forced_17 rfl ?_
      refine g_get d_Mod_forced_18 f_Mod_108 (hm.2) rfl ?_
      refine g_icmp_lt (tgt := 28) d_Mod_forced_21 (by decide) (fun q => ?_) (fun q => ?_)
      · obtain ⟨a, ha, rfl⟩ := nI_of3 qx q (by omega)
        refine g_aload_n d_Mod_forced_28 rfl ?_
        refine g_aload_n d_Mod_forced_29 rfl ?_
        refine g_callR (c_Mod_every hst hm hs.1.1) gm_Mod_every d_Mod_forced_30 (gInv_v (As := []) (rest := [.ref (Y 0), .ref (Y 0)]) d_Mod_forced_30 gm_Mod_every gv_Mod_155 (hm.2) rfl) (Nat.le_of_ble_eq_true rfl) (Nat.le_of_ble_eq_true rfl) (Nat.le_of_ble_eq_true rfl) (Nat.le_of_ble_eq_true rfl) (Nat.le_of_ble_eq_true rfl) ?_
        refine g_callR (c_Mod_count hst hm hs.1.1 (pw31 hs.1.1) hs.1.2) gm_Mod_count d_Mod_forced_33 (gInv_v (As := [.int (nI (2 ^ k - 1))]) (rest := [.ref (Y 0)]) d_Mod_forced_33 gm_Mod_count gv_Mod_158 (hm.2) rfl) (Nat.le_of_ble_eq_true rfl) (Nat.le_of_ble_eq_true rfl) (Nat.le_of_ble_eq_true rfl) (Nat.le_of_ble_eq_true rfl) (Nat.le_of_ble_eq_true rfl) ?_
        refine g_if_ne (tgt := 43) d_Mod_forced_36 (by decide) (fun q => ?_) (fun q => ?_)
        · have q1 : ∃ n, n < 2 ^ A ∧ hat A k CS (2 ^ k - 1) n := (cn_ex hs.2.2.2).mp (Nat.pos_of_ne_zero fun z => q (by rw [z]; rfl))
          have hm1 := hm.o (nI 0) ty td nc nt (bI (decide (¬ k = 0))) (nI k) tg (nI A)
          refine g_iconst (v := nI 0) d_Mod_forced_43 (by decide) ?_
          refine g_put (fs' := [_, _, _, _, _, _, _, _, _, _, _, _, _, _, _, _, _, _, _, _, _, _, _, _, _]) d_Mod_forced_44 f_Mod_63 (hm.2) rfl rfl (Nat.le_of_ble_eq_true rfl) rfl ?_
          refine g_aload_n d_Mod_forced_47 rfl ?_
          refine g_get d_Mod_forced_48 f_Mod_63 (hm1.2) rfl ?_
          refine g_if_le (tgt := 56) d_Mod_forced_51 (by decide) (fun q => ?_) (fun q => ?_)
          · refine g_iconst (v := nI 0) d_Mod_forced_56 (by decide) ?_
            refine g_istore_n d_Mod_forced_57 rfl (Nat.le_of_ble_eq_true rfl) rfl ?_
            refine g_iconst (v := nI 0) d_Mod_forced_58 (by decide) ?_
            refine g_istore_n d_Mod_forced_59 rfl (Nat.le_of_ble_eq_true rfl) rfl ?_
            refine g_iconst (v := nI 0) d_Mod_forced_60 (by decide) ?_
            refine g_istore d_Mod_forced_61 (Nat.le_of_ble_eq_true rfl) rfl ?_
            have fin : Go K M_Mod_forced r_Mod_forced 141 [(0, .ref (Y 0)), (1, .int (nI a)), (2, .int (bI (fyn (fP F k a true) (2 ^ A)))), (3, .int (bI (fyn (fP F k a false) (2 ^ A)))), (4, .int (nI (2 ^ A)))] [] (gup h (Y 0) (mob Y (nI 0) ty td nc nt (bI (decide (¬ k = 0))) (nI k) tg (nI A))) 0 0 (mAn h Y tx td k c w A CS (mfP k A CS (nI a))) := by
              have ret : ∀ v, v = (if fyn (fP F k a true) (2 ^ A) = true ∧ fyn (fP F k a false) (2 ^ A) = true then nI 2 else if fyn (fP F k a true) (2 ^ A) = true then nI 1 else nI 0) → mAn h Y tx td k c w A CS (mfP k A CS (nI a)) (.returned (some (.int v))) (gup h (Y 0) (mob Y (nI 0) ty td nc nt (bI (decide (¬ k = 0))) (nI k) tg (nI A))) := fun v hv =>
                ⟨_, rfl, _, _, rfl, ⟨F, ty, nc, nt, tg, hm1, ht, hs⟩, mK0 gKP.rf (by decide), Or.inr (Or.inr (Or.inr ⟨q0, rfl, a, ha, rfl, q1, _, _, fyn_hat hs.2.2.2 ha, fyn_hat hs.2.2.2 ha, hv⟩))⟩
              refine g_iload_n d_Mod_forced_141 rfl ?_
              refine g_if_eq (tgt := 153) d_Mod_forced_142 (by decide) (fun q => ?_) (fun q => ?_)
              · have qa := q
                refine g_iload_n d_Mod_forced_153 rfl ?_
                refine g_if_eq (tgt := 161) d_Mod_forced_154 (by decide) (fun q => ?_) (fun q => ?_)
                · refine g_iconst (v := nI 0) d_Mod_forced_161 (by decide) ?_
                  refine g_ret_i d_Mod_forced_162 rfl rfl (ret _ ?_)
                  rw [(bI_z _).mp q]
                  rfl
                · exact absurd qa q
              · have y1 := bI_t q
                refine g_iload_n d_Mod_forced_145 rfl ?_
                refine g_if_eq (tgt := 153) d_Mod_forced_146 (by decide) (fun q => ?_) (fun q => ?_)
                · have q9 := q
                  refine g_iload_n d_Mod_forced_153 rfl ?_
                  refine g_if_eq (tgt := 161) d_Mod_forced_154 (by decide) (fun q => ?_) (fun q => ?_)
                  · rw [y1] at q
                    exact absurd q (by decide)
                  · refine g_iconst (v := nI 1) d_Mod_forced_157 (by decide) ?_
                    refine g_goto (tgt := 162) d_Mod_forced_158 (by decide) ?_
                    refine g_ret_i d_Mod_forced_162 rfl rfl (ret _ ?_)
                    rw [y1, (bI_z _).mp q9]
                    rfl
                · refine g_iconst (v := nI 2) d_Mod_forced_149 (by decide) ?_
                  refine g_goto (tgt := 162) d_Mod_forced_150 (by decide) ?_
                  refine g_ret_i d_Mod_forced_162 rfl rfl (ret _ ?_)
                  rw [y1, bI_t q]
                  rfl
            exact l_Mod_forced hst ha hm1 hs fin (2 ^ A) 0 (by omega)
          · exact absurd (by decide : nI 0 ≤ 0) q
        · refine g_iconst (v := nI 3) d_Mod_forced_39 (by decide) ?_
          refine g_goto (tgt := 44) d_Mod_forced_40 (by decide) ?_
          refine bad 3 (by decide) (by decide) fun _ => Or.inr (Or.inr (Or.inl ⟨q0, ⟨qx, by assumption⟩, fun z => ?_, rfl⟩))
          have := (cn_ex hs.2.2.2).mpr z
          have := (nI_z (cn_lt hA)).mp q
          omega
      · exact out fun z => q z.2
  · have q0 : k = 0 := Classical.byContradiction fun z => by
      rw [decide_eq_true z] at q
      exact absurd q (by decide)
    refine g_iconst (v := nI 1) d_Mod_forced_8 (by decide) ?_
    refine g_goto (tgt := 44) d_Mod_forced_9 (by decide) ?_
    exact bad 1 (by decide) (by decide) fun _ => Or.inl ⟨q0, rfl⟩
end MODEL7
