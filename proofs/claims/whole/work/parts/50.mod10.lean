theorem rc_s (row : Int64) {k : Nat} (hk : k < 8) : (row >>> ((nI 8 * nI k).toInt64 &&& 63)) &&& 255 = lN (rc row k) := by
  rw [pk_mul, wb_c (8 * k) (by omega)]
  refine Int64.toBitVec_inj.mp ?_
  rw [Int64.toBitVec_and, Int64.toBitVec_shiftRight, wb_tb, wb_tb, wb_sm _ (by omega)]
  refine BitVec.eq_of_getLsbD_eq fun i hi => ?_
  have h255 : ∀ i, i < 64 → (255 : Int64).toBitVec.getLsbD i = decide (i < 8) := by decide +kernel
  rw [BitVec.getLsbD_and, h255 i hi, BitVec.getLsbD_ofNat]
  show ((row.toBitVec.sshiftRight (BitVec.ofNat 64 (8 * k)).toNat).getLsbD i && decide (i < 8)) = _
  rw [BitVec.toNat_ofNat, Nat.mod_eq_of_lt (by omega), BitVec.getLsbD_sshiftRight]
  unfold rc
  by_cases h8 : i < 8
  · have e1 : (row.toBitVec.toNat / 2 ^ (8 * k) % 2 ^ 8).testBit i = row.toBitVec.toNat.testBit (8 * k + i) := by
      rw [Nat.testBit_mod_two_pow, decide_eq_true h8, Bool.true_and, Nat.testBit_div_two_pow, Nat.add_comm]
    rw [show (256 : Nat) = 2 ^ 8 from rfl, e1]
    simp only [h8, hi, decide_true, Bool.and_true, Bool.true_and]
    rw [if_pos (by omega), decide_eq_false (by omega)]
    simp
    rfl
  · have e1 : (row.toBitVec.toNat / 2 ^ (8 * k) % 2 ^ 8).testBit i = false := by
      rw [Nat.testBit_mod_two_pow, decide_eq_false h8, Bool.false_and]
    rw [show (256 : Nat) = 2 ^ 8 from rfl, e1]
    simp [h8]
theorem app_get {tx l : List Nat} {i : Nat} : (tx ++ l).getD i 0 = if i < tx.length then tx.getD i 0 else l.getD (i - tx.length) 0 := by
  rw [List.getD_eq_getElem?_getD, List.getElem?_append]
  split
  · rw [List.getD_eq_getElem?_getD]
  · rw [List.getD_eq_getElem?_getD]
theorem rcnt_ok {row : Int64} : ∀ {r i n : Nat}, rcnt row r i = some n → ∀ j, i ≤ j → j < n → 33 ≤ rc row j ∧ rc row j ≤ 126 := by
  intro r
  induction r with
  | zero =>
    intro i n h j h1 h2
    cases h
    omega
  | succ r ih =>
    intro i n h j h1 h2
    unfold rcnt at h
    split at h
    · cases h
      omega
    · split at h
      · cases h
      · by_cases e : j = i
        · subst e
          omega
        · exact ih h j (by omega) h2
section MODEL10
variable {K : gK} {h : gH} {Y : Nat → Nat} {cd : Int32} {tx : List Nat} {td : Int32} {k c : Nat} {w : Nat → Int32} {A : Nat} {CS : Nat → Nat → Prop}
theorem l_Mod_type1 {row : Int64} {Q : Outcome → gH → Prop} {a : Nat}
    (kq : ∀ (n : Nat) (b : Bool), n ≤ 8 → (b = true → rcnt row 8 0 = some n) → (b = false → rcnt row 8 0 = none) → Go K M_Mod_type r_Mod_type 77 [(0, .ref a), (1, .long row), (3, .int (nI n)), (4, .int (bI b))] [] h 0 0 Q) : ∀ (r i : Nat) (b : Bool), i + r = 8 → (b = true → rcnt row 8 0 = rcnt row r i) → (b = false → rcnt row 8 0 = none) → Go K M_Mod_type r_Mod_type 10 [(0, .ref a), (1, .long row), (3, .int (nI i)), (4, .int (bI b))] [] h 0 0 Q := by
  intro r
  induction r with
  | zero =>
    intro i b hi h1 h2
    refine g_iload_n d_Mod_type_10 rfl ?_
    refine g_bipush (v := nI 8) d_Mod_type_11 (by decide) ?_
    refine g_icmpN_ge (tgt := 77) d_Mod_type_13 (by decide) (rfl) (rfl) (by omega) (by decide) (fun q => ?_) (fun q => ?_)
    · exact kq i b (by omega) (fun z => (h1 z).trans rfl) h2
    · omega
  | succ r ih =>
    intro i b hi h1 h2
    have hl := rc_lt row i
    have e1 : rcnt row (r + 1) i = if rc row i = 0 then some i else if rc row i < 33 ∨ 126 < rc row i then none else rcnt row r (i + 1) := rfl
    rw [e1] at h1
    refine g_iload_n d_Mod_type_10 rfl ?_
    refine g_bipush (v := nI 8) d_Mod_type_11 (by decide) ?_
    refine g_icmpN_ge (tgt := 77) d_Mod_type_13 (by decide) (rfl) (rfl) (by omega) (by decide) (fun q => ?_) (fun q => ?_)
    · omega
    · have q8 := q
      refine g_lload_n d_Mod_type_16 rfl ?_
      refine g_bipush (v := nI 8) d_Mod_type_17 (by decide) ?_
      refine g_iload_n d_Mod_type_19 rfl ?_
      refine g_imul d_Mod_type_20 ?_
      refine g_lshr d_Mod_type_21 ?_
      refine g_ldc2 d_Mod_type_22 k_Mod_66 ?_
      refine g_land d_Mod_type_25 ?_
      rw [rc_s row q8]
      refine g_lconstV (v := 0) d_Mod_type_26 (by decide) ?_
      refine g_lcmp d_Mod_type_27 ?_
      refine g_if_eq (tgt := 77) d_Mod_type_28 (by decide) (fun q => ?_) (fun q => ?_)
      · have hz : rc row i = 0 := (lN_eq (by omega) (by decide)).mp ((lg_z _).mp q)
        rw [if_pos hz] at h1
        exact kq i b (by omega) h1 h2
      · have hz : ¬ rc row i = 0 := fun z => q ((lg_z _).mpr (by rw [z]; rfl))
        rw [if_neg hz] at h1
        refine g_lload_n d_Mod_type_31 rfl ?_
        refine g_bipush (v := nI 8) d_Mod_type_32 (by decide) ?_
        refine g_iload_n d_Mod_type_34 rfl ?_
        refine g_imul d_Mod_type_35 ?_
        refine g_lshr d_Mod_type_36 ?_
        refine g_ldc2 d_Mod_type_37 k_Mod_66 ?_
        refine g_land d_Mod_type_40 ?_
        rw [rc_s row q8]
        refine g_l2i d_Mod_type_41 ?_
        rw [lN_i]
        refine g_istore d_Mod_type_42 (Nat.le_of_ble_eq_true rfl) rfl ?_
        refine g_iload d_Mod_type_44 rfl ?_
        have fin : ∀ b' : Bool, (b' = true ↔ b = true ∧ ¬ (rc row i < 33 ∨ 126 < rc row i)) → Go K M_Mod_type r_Mod_type 68 [(0, .ref a), (1, .long row), (3, .int (nI i)), (4, .int (bI b)), (5, .int (nI (rc row i)))] [.int (bI b')] h 0 0 Q := by
          intro b' hb'
          refine g_istore d_Mod_type_68 (Nat.le_of_ble_eq_true rfl) rfl ?_
          refine g_iload_n d_Mod_type_70 rfl ?_
          refine g_iconst (v := nI 1) d_Mod_type_71 (by decide) ?_
          refine g_iadd d_Mod_type_72 ?_
          rw [nI_add]
          refine g_istore_n d_Mod_type_73 rfl (Nat.le_of_ble_eq_true rfl) rfl ?_
          refine g_goto (tgt := 10) d_Mod_type_74 (by decide) ?_
          refine g_drop [(0, .ref a), (1, .long row), (3, .int (nI (i + 1))), (4, .int (bI b'))] ⟨rfl, rfl, rfl, rfl, trivial⟩ (ih (i + 1) b' (by omega) (fun z => ?_) fun z => ?_)
          · have := hb'.mp z
            have h9 := h1 this.1
            rw [if_neg this.2] at h9
            exact h9
          · by_cases hb : b = true
            · by_cases hc : rc row i < 33 ∨ 126 < rc row i
              · have h9 := h1 hb
                rw [if_pos hc] at h9
                exact h9
              · rw [hb'.mpr ⟨hb, hc⟩] at z
                cases z
            · exact h2 (ts_nt hb)
        refine g_if_eq (tgt := 67) d_Mod_type_46 (by decide) (fun q => ?_) (fun q => ?_)
        · refine g_iconst (v := nI 0) d_Mod_type_67 (by decide) ?_
          exact fin false ⟨fun z => (by cases z), fun z => by rw [(bI_z _).mp q] at z; exact z.1⟩
        · have qb := bI_t q
          refine g_iload d_Mod_type_49 rfl ?_
          refine g_bipush (v := nI 32) d_Mod_type_51 (by decide) ?_
          refine g_icmpN_le (tgt := 67) d_Mod_type_53 (by decide) (rfl) (rfl) (by omega) (by decide) (fun q => ?_) (fun q => ?_)
          · refine g_iconst (v := nI 0) d_Mod_type_67 (by decide) ?_
            exact fin false ⟨fun z => (by cases z), fun z => absurd (Or.inl (by omega)) z.2⟩
          · refine g_iload d_Mod_type_56 rfl ?_
            refine g_bipush (v := nI 127) d_Mod_type_58 (by decide) ?_
            refine g_icmpN_ge (tgt := 67) d_Mod_type_60 (by decide) (rfl) (rfl) (by omega) (by decide) (fun q => ?_) (fun q => ?_)
            · refine g_iconst (v := nI 0) d_Mod_type_67 (by decide) ?_
              exact fin false ⟨fun z => (by cases z), fun z => absurd (Or.inr (by omega)) z.2⟩
            · refine g_iconst (v := nI 1) d_Mod_type_63 (by decide) ?_
              refine g_goto (tgt := 68) d_Mod_type_64 (by decide) ?_
              exact fin true ⟨fun _ => ⟨qb, by omega⟩, fun _ => rfl⟩
theorem gMs.cg {F F' : Nat → Nat → Int32} {tg : Int32} (hs : gMs F tg k c w A CS) (e13 : F' 13 = F 13) (e14 : F' 14 = F 14) (e15 : F' 15 = F 15) (e16 : F' 16 = F 16) : gMs F' tg k c w A CS := by
  obtain ⟨s1, s2, ⟨L, s3⟩, s4⟩ := hs
  refine ⟨s1, fun z => ?_, ⟨L, fun u hu => ?_⟩, fun u hu t ht => ?_⟩
  · rw [e13]
    exact s2 z
  · unfold mls at s3 ⊢
    rw [e14, e15]
    exact s3 u hu
  · unfold mhb
    rw [e16]
    exact s4 u hu t ht
def tyI (F0 F : Nat → Nat → Int32) (m : Nat) (row : Int64) (i : Nat) : Prop := (∀ j, j ≠ 1 → F j = F0 j) ∧ (∀ j, j < m → F 1 j = F0 1 j) ∧ ∀ j, j < i → F 1 (m + j) = nI (rc row j)
theorem l_Mod_type2 {row : Int64} {h0 : gH} {F0 : Nat → Nat → Int32} {m n : Nat} {nc nt th kk tg AA z4 : Int32} (hn : n ≤ 8) (h96 : m + n ≤ 96) {Q : Outcome → gH → Prop}
    (kq : ∀ (h : gH) (F : Nat → Nat → Int32), gMb h Y F 0 (nI m) td nc nt th kk tg AA → gKP h0 h (gOf Y 17) → tyI F0 F m row n → Go K M_Mod_type r_Mod_type 134 [(0, .ref (Y 0)), (1, .long row), (3, .int (nI n)), (4, .int z4), (5, .int (nI n))] [] h 0 0 Q) : ∀ (r i : Nat) (h : gH) (F : Nat → Nat → Int32), i + r = n → gMb h Y F 0 (nI m) td nc nt th kk tg AA → gKP h0 h (gOf Y 17) → tyI F0 F m row i → Go K M_Mod_type r_Mod_type 98 [(0, .ref (Y 0)), (1, .long row), (3, .int (nI n)), (4, .int z4), (5, .int (nI i))] [] h 0 0 Q := by
  intro r
  induction r with
  | zero =>
    intro i h F hi hm hk ht
    have e : i = n := by omega
    subst e
    refine g_iload d_Mod_type_98 rfl ?_
    refine g_iload_n d_Mod_type_100 rfl ?_
    refine g_icmpN_ge (tgt := 134) d_Mod_type_101 (by decide) (rfl) (rfl) (by omega) (by omega) (fun q => ?_) (fun q => ?_)
    · exact kq h F hm hk ht
    · omega
  | succ r ih =>
    intro i h F hi hm hk ht
    have hl := rc_lt row i
    refine g_iload d_Mod_type_98 rfl ?_
    refine g_iload_n d_Mod_type_100 rfl ?_
    refine g_icmpN_ge (tgt := 134) d_Mod_type_101 (by decide) (rfl) (rfl) (by omega) (by omega) (fun q => ?_) (fun q => ?_)
    · omega
    · refine g_aload_n d_Mod_type_104 rfl ?_
      refine g_get d_Mod_type_105 f_Mod_7 (hm.2) rfl ?_
      refine g_aload_n d_Mod_type_108 rfl ?_
      refine g_get d_Mod_type_109 f_Mod_68 (hm.2) rfl ?_
      refine g_iload d_Mod_type_112 rfl ?_
      refine g_iadd d_Mod_type_114 ?_
      refine g_lload_n d_Mod_type_115 rfl ?_
      refine g_bipush (v := nI 8) d_Mod_type_116 (by decide) ?_
      refine g_iload d_Mod_type_118 rfl ?_
      refine g_imul d_Mod_type_120 ?_
      refine g_lshr d_Mod_type_121 ?_
      refine g_ldc2 d_Mod_type_122 k_Mod_66 ?_
      refine g_land d_Mod_type_125 ?_
      rw [rc_s row (by omega)]
      refine g_l2i d_Mod_type_126 ?_
      rw [lN_i]
      refine g_iast d_Mod_type_127 (hm.1.a1) (nI_add m i) (by omega) (by decide) ?_
      refine g_iinc d_Mod_type_128 rfl (nI_inc _) (Nat.le_of_ble_eq_true rfl) rfl ?_
      refine g_goto (tgt := 98) d_Mod_type_131 (by decide) ?_
      refine ih (i + 1) _ (va_up F 1 (va_up (F 1) (m + i) (nI (rc row i)))) (by omega) (hm.up (i := 1) (by decide) (by decide) _) (mK0 hk (by decide)) ⟨fun j hj => ?_, fun j hj => ?_, fun j hj => ?_⟩
      · show (if j = 1 then _ else F j) = _
        rw [if_neg hj]
        exact ht.1 j hj
      · show (if j = m + i then _ else F 1 j) = _
        rw [if_neg (by omega)]
        exact ht.2.1 j hj
      · show (if m + j = m + i then _ else F 1 (m + j)) = _
        by_cases e : j = i
        · subst e
          rw [if_pos rfl]
        · rw [if_neg (by omega)]
          exact ht.2.2 j (by omega)
theorem c_Mod_type (hst : K.1.stackTraces = false) (hh : gMo h Y cd tx td k c w A CS) (row : Int64) : Ct K r_Mod_type M_Mod_type [.ref (Y 0), .long row] h (gRx fun o h' => o = some (.int (bI (tyOk row tx).isSome)) ∧ gMo h' Y 0 (tyN row tx) td k c w A CS ∧ gKP h h' (gOf Y 17)) := by
  obtain ⟨F, ty, nc, nt, tg, hm, ht, hs⟩ := hh
  obtain ⟨rfl, t2, t3, t4⟩ := id ht
  have hm1 := hm.o 0 (nI tx.length) td nc nt (bI (decide (¬ k = 0))) (nI k) tg (nI A)
  refine Ct.of hst (by decide) (Or.inl rfl) (Nat.le_of_ble_eq_true rfl) ?_
  refine g_aload_n d_Mod_type_0 rfl ?_
  refine g_iconst (v := nI 0) d_Mod_type_1 (by decide) ?_
  refine g_put (fs' := [_, _, _, _, _, _, _, _, _, _, _, _, _, _, _, _, _, _, _, _, _, _, _, _, _]) d_Mod_type_2 f_Mod_63 (hm.2) rfl rfl (Nat.le_of_ble_eq_true rfl) rfl ?_
  refine g_iconst (v := nI 0) d_Mod_type_5 (by decide) ?_
  refine g_istore_n d_Mod_type_6 rfl (Nat.le_of_ble_eq_true rfl) rfl ?_
  refine g_iconst (v := nI 1) d_Mod_type_7 (by decide) ?_
  refine g_istore d_Mod_type_8 (Nat.le_of_ble_eq_true rfl) rfl ?_
  refine l_Mod_type1 (fun n b hn h1 h2 => ?_) 8 0 true rfl (fun _ => rfl) (fun z => by cases z)
  have no : tyOk row tx = none → Go K M_Mod_type r_Mod_type 93 [(0, .ref (Y 0)), (1, .long row), (3, .int (nI n)), (4, .int (bI b))] [] (gup h (Y 0) (mob Y 0 (nI tx.length) td nc nt (bI (decide (¬ k = 0))) (nI k) tg (nI A))) 0 0 (gRx fun o h' => o = some (.int (bI (tyOk row tx).isSome)) ∧ gMo h' Y 0 (tyN row tx) td k c w A CS ∧ gKP h h' (gOf Y 17)) := by
    intro e
    refine g_iconst (v := nI 0) d_Mod_type_93 (by decide) ?_
    refine g_ret_i d_Mod_type_94 rfl rfl ⟨_, rfl, by rw [e]; rfl, ?_, mK0 gKP.rf (by decide)⟩
    unfold tyN
    rw [e]
    exact ⟨F, _, nc, nt, tg, hm1, ht, hs⟩
  refine g_iload d_Mod_type_77 rfl ?_
  refine g_if_eq (tgt := 93) d_Mod_type_79 (by decide) (fun q => ?_) (fun q => ?_)
  · refine no ?_
    unfold tyOk
    rw [h2 ((bI_z _).mp q)]
  · have e0 := h1 (bI_t q)
    have e1 : tyOk row tx = if 96 < tx.length + n then none else some n := by
      unfold tyOk
      rw [e0]
    refine g_aload_n d_Mod_type_82 rfl ?_
    refine g_get d_Mod_type_83 f_Mod_68 (hm1.2) rfl ?_
    refine g_iload_n d_Mod_type_86 rfl ?_
    refine g_iadd d_Mod_type_87 ?_
    rw [nI_add]
    refine g_bipush (v := nI 96) d_Mod_type_88 (by decide) ?_
    refine g_icmpN_le (tgt := 95) d_Mod_type_90 (by decide) (rfl) (rfl) (by omega) (by decide) (fun q => ?_) (fun q => ?_)
    · rw [if_neg (by omega)] at e1
      refine g_iconst (v := nI 0) d_Mod_type_95 (by decide) ?_
      refine g_istore d_Mod_type_96 (Nat.le_of_ble_eq_true rfl) rfl ?_
      refine l_Mod_type2 (F0 := F) (h0 := h) hn q (fun h' F' hm' hk' ht' => ?_) n 0 _ F (by omega) hm1 (mK0 gKP.rf (by decide)) ⟨fun _ _ => rfl, fun _ _ => rfl, fun j hj => absurd hj (Nat.not_lt_zero _)⟩
      refine g_aload_n d_Mod_type_134 rfl ?_
      refine g_aload_n d_Mod_type_135 rfl ?_
      refine g_get d_Mod_type_136 f_Mod_68 (hm'.2) rfl ?_
      refine g_iload_n d_Mod_type_139 rfl ?_
      refine g_iadd d_Mod_type_140 ?_
      rw [nI_add]
      refine g_put (fs' := [_, _, _, _, _, _, _, _, _, _, _, _, _, _, _, _, _, _, _, _, _, _, _, _, _]) d_Mod_type_141 f_Mod_68 (hm'.2) rfl rfl (Nat.le_of_ble_eq_true rfl) rfl ?_
      refine g_iconst (v := nI 1) d_Mod_type_144 (by decide) ?_
      have hlen : (tx ++ rchs row n 0).length = tx.length + n := by rw [List.length_append, rchs_len]
      refine g_ret_i d_Mod_type_145 rfl rfl ⟨_, rfl, by rw [e1]; rfl, ?_, mK0 hk' (by decide)⟩
      unfold tyN
      rw [e1]
      refine ⟨F', _, nc, nt, tg, hm'.o 0 (nI (tx.length + n)) _ _ _ _ _ _ _, ⟨by rw [hlen], by rw [hlen]; exact q, fun i hi => ?_, fun x hx => ?_⟩, hs.cg (ht'.1 13 (by decide)) (ht'.1 14 (by decide)) (ht'.1 15 (by decide)) (ht'.1 16 (by decide))⟩
      · rw [hlen] at hi
        rw [app_get]
        by_cases h9 : i < tx.length
        · rw [if_pos h9, ht'.2.1 i h9]
          exact t3 i h9
        · rw [if_neg h9, rchs_get row n 0 _ (by omega), ← ht'.2.2 (0 + (i - tx.length)) (by omega)]
          congr 1
          omega
      · rcases List.mem_append.mp hx with h9 | h9
        · exact t4 x h9
        · obtain ⟨j, hj, e⟩ := List.getElem_of_mem h9
          rw [rchs_len] at hj
          have e3 := rchs_get row n 0 j hj
          rw [List.getD_eq_getElem?_getD, List.getElem?_eq_getElem (by rw [rchs_len]; exact hj), Option.getD_some, e] at e3
          rw [e3]
          exact rcnt_ok e0 (0 + j) (by omega) (by omega)
    · refine no ?_
      rw [e1, if_pos q]
end MODEL10
