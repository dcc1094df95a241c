section MODEL9
variable {K : gK} {h : gH} {Y : Nat → Nat} {cd : Int32} {tx : List Nat} {td : Int32} {k c : Nat} {w : Nat → Int32} {A : Nat} {CS : Nat → Nat → Prop}
abbrev isTx (c : Nat) (x : Int32) : Prop := ¬ x < 0 ∧ x < nI 3 ∧ thg c / 2 ^ x.toNatClampNeg % 2 = 1
theorem fth_y {c : Nat} {x : Int32} (hx : isTx c x) : ∃ j, j < 3 ∧ x = nI j ∧ fth c x = nI (rnk c j) ∧ ¬ fth c x = -1 := by
  obtain ⟨h1, h2, h3⟩ := hx
  obtain ⟨j, hj, rfl⟩ := nI_of3 h1 h2
  have e : fth c (nI j) = nI (rnk c j) := by
    unfold fth
    rw [if_neg (by rintro (z | z); exact h1 z; exact absurd h2 (Int32.not_lt.mpr z)), if_pos h3, nI_clamp (by omega)]
  refine ⟨j, hj, rfl, e, ?_⟩
  rw [e]
  exact nI_neg1 (Nat.lt_of_le_of_lt (pc3_le _) (by decide))
theorem fth_n {c : Nat} {x : Int32} (hx : ¬ isTx c x) : fth c x = -1 := by
  unfold fth
  by_cases h1 : x < 0 ∨ nI 3 ≤ x
  · rw [if_pos h1]
  · rw [if_neg h1, if_neg fun z => hx ⟨fun y => h1 (Or.inl y), Int32.not_le.mp fun y => h1 (Or.inr y), z⟩]
theorem c_Mod_atom (hst : K.1.stackTraces = false) (hk0 : k = 0 → ∀ p, p < 4 → w p = -1) (hh : gMo h Y cd tx td k c w A CS) (p one two : Int32) : Ct K r_Mod_atom M_Mod_atom [.ref (Y 0), .int p, .int one, .int two] h (gRx fun o h' => o = some (.int (fatm c w p one two)) ∧ gMo h' Y 0 tx td k c w A CS ∧ gKP h h' (gOf Y 17)) := by
  obtain ⟨F, ty, nc, nt, tg, hm, ht, hs⟩ := hh
  have hm1 := hm.o 0 ty td nc nt (bI (decide (¬ k = 0))) (nI k) tg (nI A)
  have fin : ∀ v, v = fatm c w p one two → (gRx fun o h' => o = some (.int (fatm c w p one two)) ∧ gMo h' Y 0 tx td k c w A CS ∧ gKP h h' (gOf Y 17)) (.returned (some (.int v))) (gup h (Y 0) (mob Y 0 ty td nc nt (bI (decide (¬ k = 0))) (nI k) tg (nI A))) := by
    rintro v rfl
    exact ⟨_, rfl, rfl, ⟨F, ty, nc, nt, tg, hm1, ht, hs⟩, mK0 gKP.rf (by decide)⟩
  refine Ct.of hst (by decide) (Or.inl rfl) (Nat.le_of_ble_eq_true rfl) ?_
  have no : fatm c w p one two = -1 → Go K M_Mod_atom r_Mod_atom 30 (lv_args 0 [.ref (Y 0), .int p, .int one, .int two]) [] (gup h (Y 0) (mob Y 0 ty td nc nt (bI (decide (¬ k = 0))) (nI k) tg (nI A))) 0 0 (gRx fun o h' => o = some (.int (fatm c w p one two)) ∧ gMo h' Y 0 tx td k c w A CS ∧ gKP h h' (gOf Y 17)) := by
    intro e
    refine g_iconst (v := -1) d_Mod_atom_30 (by decide) ?_
    exact g_ret_i d_Mod_atom_31 rfl rfl (fin _ e.symm)
  refine g_aload_n d_Mod_atom_0 rfl ?_
  refine g_iconst (v := nI 0) d_Mod_atom_1 (by decide) ?_
  refine g_put (fs' := [_, _, _, _, _, _, _, _, _, _, _, _, _, _, _, _, _, _, _, _, _, _, _, _, _]) d_Mod_atom_2 f_Mod_63 (hm.2) rfl rfl (Nat.le_of_ble_eq_true rfl) rfl ?_
  refine g_aload_n d_Mod_atom_5 rfl ?_
  refine g_get d_Mod_atom_6 f_Mod_101 (gup_s _ _ _) rfl ?_
  refine g_if_eq (tgt := 30) d_Mod_atom_9 (by decide) (fun q => ?_) (fun q => ?_)
  · have q0 : k = 0 := Classical.byContradiction fun z => by
      rw [decide_eq_true z] at q
      exact absurd q (by decide)
    refine no ?_
    unfold fatm
    by_cases h1 : p < 0 ∨ nI 4 ≤ p
    · rw [if_pos h1]
    · obtain ⟨j, hj, rfl⟩ := nI_of3 (fun z => h1 (Or.inl z)) (Int32.not_le.mp fun z => h1 (Or.inr z))
      rw [if_neg h1, if_pos (by rw [nI_clamp (by omega)]; exact hk0 q0 j hj)]
  · have q0 : ¬ k = 0 := of_decide_eq_true (bI_t q)
    obtain ⟨rfl, hc8, hw, hw13⟩ := hs.2.1 q0
    refine g_iload_n d_Mod_atom_12 rfl ?_
    refine g_if_lt (tgt := 30) d_Mod_atom_13 (by decide) (fun q => ?_) (fun q => ?_)
    · refine no ?_
      unfold fatm
      rw [if_pos (Or.inl q)]
    · have q1 := q
      refine g_iload_n d_Mod_atom_16 rfl ?_
      refine g_iconst (v := nI 3) d_Mod_atom_17 (by decide) ?_
      refine g_icmp_gt (tgt := 30) d_Mod_atom_18 (by decide) (fun q => ?_) (fun q => ?_)
      · refine no ?_
        unfold fatm
        have hz : nI 4 ≤ p := by
          rw [Int32.le_iff_toInt_le]
          rw [Int32.lt_iff_toInt_lt, nI_toInt (by decide)] at q
          rw [nI_toInt (by decide)]
          omega
        rw [if_pos (Or.inr hz)]
      · have hp4 : p < nI 4 := by
          rw [Int32.lt_iff_toInt_lt, nI_toInt (by decide)]
          rw [Int32.lt_iff_toInt_lt, nI_toInt (by decide)] at q
          omega
        obtain ⟨j, hj, rfl⟩ := nI_of3 q1 hp4
        have hA1 : ¬ (nI j < 0 ∨ nI 4 ≤ nI j) := by
          rintro (z | z)
          · exact q1 z
          · exact absurd hp4 (Int32.not_lt.mpr z)
        have efat : fatm c w (nI j) one two = if w j = -1 then -1 else if (¬ w j = 0 ∧ fth c one = -1) ∨ (w j = 2 ∧ fth c two = -1) then -1 else atn (tcn c) w j (fth c one) (fth c two) := by
          unfold fatm
          rw [if_neg hA1, nI_clamp (by omega)]
        refine g_aload_n d_Mod_atom_21 rfl ?_
        refine g_get d_Mod_atom_22 f_Mod_51 (hm1.2) rfl ?_
        refine g_iload_n d_Mod_atom_25 rfl ?_
        refine g_iald d_Mod_atom_26 (hm1.1.a13) (rfl) (hj) (by decide) ?_
        rw [hw13 j hj]
        refine g_if_ge (tgt := 32) d_Mod_atom_27 (by decide) (fun q => ?_) (fun q => ?_)
        · have bad : ∀ b1 b2 : Bool, (b1 = false ∨ b2 = false) → fatm c w (nI j) one two = -1 → Go K M_Mod_atom r_Mod_atom 82 [(0, .ref (Y 0)), (1, .int (nI j)), (2, .int one), (3, .int two), (4, .int (bI b1)), (5, .int (bI b2))] [] (gup h (Y 0) (mob Y 0 ty td nc nt (bI (decide (¬ k = 0))) (nI k) (nI (thg c)) (nI A))) 0 0 (gRx fun o h' => o = some (.int (fatm c w (nI j) one two)) ∧ gMo h' Y 0 tx td k c w A CS ∧ gKP h h' (gOf Y 17)) := by
            intro b1 b2 hb e
            refine g_iload d_Mod_atom_82 rfl ?_
            refine g_if_eq (tgt := 130) d_Mod_atom_84 (by decide) (fun q => ?_) (fun q => ?_)
            · refine g_iconst (v := -1) d_Mod_atom_130 (by decide) ?_
              exact g_ret_i d_Mod_atom_131 rfl rfl (fin _ e.symm)
            · have y1 := bI_t q
              refine g_iload d_Mod_atom_87 rfl ?_
              refine g_if_eq (tgt := 130) d_Mod_atom_89 (by decide) (fun q => ?_) (fun q => ?_)
              · refine g_iconst (v := -1) d_Mod_atom_130 (by decide) ?_
                exact g_ret_i d_Mod_atom_131 rfl rfl (fin _ e.symm)
              · have y2 := bI_t q
                rw [y1, y2] at hb
                rcases hb with z | z <;> cases z
          have hwj : w j = 0 ∨ w j = 1 ∨ w j = 2 := by
            rcases hw j hj with e | e | e | e
            · rw [e] at q
              exact absurd q (by decide)
            · exact Or.inl e
            · exact Or.inr (Or.inl e)
            · exact Or.inr (Or.inr e)
          have hne : ¬ w j = -1 := fun z => by
            rw [z] at q
            exact absurd q (by decide)
          rw [if_neg hne] at efat
          refine g_aload_n d_Mod_atom_32 rfl ?_
          refine g_get d_Mod_atom_33 f_Mod_51 (hm1.2) rfl ?_
          refine g_iload_n d_Mod_atom_36 rfl ?_
          refine g_iald d_Mod_atom_37 (hm1.1.a13) (rfl) (hj) (by decide) ?_
          refine g_iconst (v := nI 1) d_Mod_atom_38 (by decide) ?_
          rw [hw13 j hj]
          rcases hwj with ew | ew | ew
          · rw [ew] at efat ⊢
            refine g_icmp_lt (tgt := 50) d_Mod_atom_39 (by decide) (fun q => ?_) (fun q => ?_)
            · refine g_iconst (v := nI 1) d_Mod_atom_50 (by decide) ?_
              refine g_goto (tgt := 55) d_Mod_atom_51 (by decide) ?_
              refine g_istore d_Mod_atom_55 (Nat.le_of_ble_eq_true rfl) rfl ?_
              refine g_aload_n d_Mod_atom_57 rfl ?_
              refine g_get d_Mod_atom_58 f_Mod_51 (hm1.2) rfl ?_
              refine g_iload_n d_Mod_atom_61 rfl ?_
              refine g_iald d_Mod_atom_62 (hm1.1.a13) (rfl) (hj) (by decide) ?_
              refine g_iconst (v := nI 2) d_Mod_atom_63 (by decide) ?_
              rw [hw13 j hj, ew]
              refine g_icmp_lt (tgt := 75) d_Mod_atom_64 (by decide) (fun q => ?_) (fun q => ?_)
              · refine g_iconst (v := nI 1) d_Mod_atom_75 (by decide) ?_
                refine g_goto (tgt := 80) d_Mod_atom_76 (by decide) ?_
                refine g_istore d_Mod_atom_80 (Nat.le_of_ble_eq_true rfl) rfl ?_
                refine g_iload d_Mod_atom_82 rfl ?_
                refine g_if_eq (tgt := 130) d_Mod_atom_84 (by decide) (fun q => ?_) (fun q => ?_)
                · exact absurd q (by decide)
                · refine g_iload d_Mod_atom_87 rfl ?_
                  refine g_if_eq (tgt := 130) d_Mod_atom_89 (by decide) (fun q => ?_) (fun q => ?_)
                  · exact absurd q (by decide)
                  · refine g_aload_n d_Mod_atom_92 rfl ?_
                    refine g_iload_n d_Mod_atom_93 rfl ?_
                    refine g_aload_n d_Mod_atom_94 rfl ?_
                    refine g_get d_Mod_atom_95 f_Mod_51 (hm1.2) rfl ?_
                    refine g_iload_n d_Mod_atom_98 rfl ?_
                    refine g_iald d_Mod_atom_99 (hm1.1.a13) (rfl) (hj) (by decide) ?_
                    refine g_iconst (v := nI 1) d_Mod_atom_100 (by decide) ?_
                    rw [hw13 j hj, ew]
                    refine g_icmp_ge (tgt := 108) d_Mod_atom_101 (by decide) (fun q => ?_) (fun q => ?_)
                    · exact absurd q (by decide)
                    · refine g_iconst (v := nI 0) d_Mod_atom_104 (by decide) ?_
                      refine g_goto (tgt := 109) d_Mod_atom_105 (by decide) ?_
                      refine g_aload_n d_Mod_atom_109 rfl ?_
                      refine g_get d_Mod_atom_110 f_Mod_51 (hm1.2) rfl ?_
                      refine g_iload_n d_Mod_atom_113 rfl ?_
                      refine g_iald d_Mod_atom_114 (hm1.1.a13) (rfl) (hj) (by decide) ?_
                      refine g_iconst (v := nI 2) d_Mod_atom_115 (by decide) ?_
                      rw [hw13 j hj, ew]
                      refine g_icmp_ge (tgt := 123) d_Mod_atom_116 (by decide) (fun q => ?_) (fun q => ?_)
                      · exact absurd q (by decide)
                      · refine g_iconst (v := nI 0) d_Mod_atom_119 (by decide) ?_
                        refine g_goto (tgt := 124) d_Mod_atom_120 (by decide) ?_
                        refine g_callR (c_Mod_atomOf hst (x := 0) (y := 0) hm1 hc8 hw hw13 hj (by decide) (by decide)) gm_Mod_atomOf d_Mod_atom_124 (gInv_v (As := [.int (nI j), .int (nI 0), .int (nI 0)]) (rest := []) d_Mod_atom_124 gm_Mod_atomOf gv_Mod_114 (hm1.2) rfl) (Nat.le_of_ble_eq_true rfl) (Nat.le_of_ble_eq_true rfl) (Nat.le_of_ble_eq_true rfl) (Nat.le_of_ble_eq_true rfl) (Nat.le_of_ble_eq_true rfl) ?_
                        refine g_goto (tgt := 131) d_Mod_atom_127 (by decide) ?_
                        refine g_ret_i d_Mod_atom_131 rfl rfl (fin _ ?_)
                        rw [efat, if_neg (by rintro (⟨z, -⟩ | ⟨z, -⟩); exact z rfl; exact absurd z (by decide))]
                        unfold mat atn
                        rw [ew]
                        rfl
              · exact absurd (by decide) q
            · exact absurd (by decide) q
          · rw [ew] at efat ⊢
            refine g_icmp_lt (tgt := 50) d_Mod_atom_39 (by decide) (fun q => ?_) (fun q => ?_)
            · exact absurd q (by decide)
            · refine g_aload_n d_Mod_atom_42 rfl ?_
              refine g_iload_n d_Mod_atom_43 rfl ?_
              refine g_callR (c_Mod_isThing hst hm1 (thg_lt hc8) one) gm_Mod_isThing d_Mod_atom_44 (gInv_v (As := [.int one]) (rest := []) d_Mod_atom_44 gm_Mod_isThing gv_Mod_118 (hm1.2) rfl) (Nat.le_of_ble_eq_true rfl) (Nat.le_of_ble_eq_true rfl) (Nat.le_of_ble_eq_true rfl) (Nat.le_of_ble_eq_true rfl) (Nat.le_of_ble_eq_true rfl) ?_
              have two1 : ∀ b1 : Bool, b1 = decide (isTx c one) → Go K M_Mod_atom r_Mod_atom 55 (lv_args 0 [.ref (Y 0), .int (nI j), .int one, .int two]) [.int (bI b1)] (gup h (Y 0) (mob Y 0 ty td nc nt (bI (decide (¬ k = 0))) (nI k) (nI (thg c)) (nI A))) 0 0 (gRx fun o h' => o = some (.int (fatm c w (nI j) one two)) ∧ gMo h' Y 0 tx td k c w A CS ∧ gKP h h' (gOf Y 17)) := by
                intro b1 hb1
                refine g_istore d_Mod_atom_55 (Nat.le_of_ble_eq_true rfl) rfl ?_
                refine g_aload_n d_Mod_atom_57 rfl ?_
                refine g_get d_Mod_atom_58 f_Mod_51 (hm1.2) rfl ?_
                refine g_iload_n d_Mod_atom_61 rfl ?_
                refine g_iald d_Mod_atom_62 (hm1.1.a13) (rfl) (hj) (by decide) ?_
                refine g_iconst (v := nI 2) d_Mod_atom_63 (by decide) ?_
                rw [hw13 j hj, ew]
                refine g_icmp_lt (tgt := 75) d_Mod_atom_64 (by decide) (fun q => ?_) (fun q => ?_)
                · refine g_iconst (v := nI 1) d_Mod_atom_75 (by decide) ?_
                  refine g_goto (tgt := 80) d_Mod_atom_76 (by decide) ?_
                  refine g_istore d_Mod_atom_80 (Nat.le_of_ble_eq_true rfl) rfl ?_
                  cases b1 with
                  | false =>
                    refine bad false true (Or.inl rfl) ?_
                    rw [efat, if_pos (Or.inl ⟨by decide, fth_n (of_decide_eq_false hb1.symm)⟩)]
                  | true =>
                    obtain ⟨a, ha, rfl, e1, e2⟩ := fth_y (of_decide_eq_true hb1.symm)
                    refine g_iload d_Mod_atom_82 rfl ?_
                    refine g_if_eq (tgt := 130) d_Mod_atom_84 (by decide) (fun q => ?_) (fun q => ?_)
                    · exact absurd q (by decide)
                    · refine g_iload d_Mod_atom_87 rfl ?_
                      refine g_if_eq (tgt := 130) d_Mod_atom_89 (by decide) (fun q => ?_) (fun q => ?_)
                      · exact absurd q (by decide)
                      · refine g_aload_n d_Mod_atom_92 rfl ?_
                        refine g_iload_n d_Mod_atom_93 rfl ?_
                        refine g_aload_n d_Mod_atom_94 rfl ?_
                        refine g_get d_Mod_atom_95 f_Mod_51 (hm1.2) rfl ?_
                        refine g_iload_n d_Mod_atom_98 rfl ?_
                        refine g_iald d_Mod_atom_99 (hm1.1.a13) (rfl) (hj) (by decide) ?_
                        refine g_iconst (v := nI 1) d_Mod_atom_100 (by decide) ?_
                        rw [hw13 j hj, ew]
                        refine g_icmp_ge (tgt := 108) d_Mod_atom_101 (by decide) (fun q => ?_) (fun q => ?_)
                        · refine g_iload_n d_Mod_atom_108 rfl ?_
                          refine g_aload_n d_Mod_atom_109 rfl ?_
                          refine g_get d_Mod_atom_110 f_Mod_51 (hm1.2) rfl ?_
                          refine g_iload_n d_Mod_atom_113 rfl ?_
                          refine g_iald d_Mod_atom_114 (hm1.1.a13) (rfl) (hj) (by decide) ?_
                          refine g_iconst (v := nI 2) d_Mod_atom_115 (by decide) ?_
                          rw [hw13 j hj, ew]
                          refine g_icmp_ge (tgt := 123) d_Mod_atom_116 (by decide) (fun q => ?_) (fun q => ?_)
                          · exact absurd q (by decide)
                          · refine g_iconst (v := nI 0) d_Mod_atom_119 (by decide) ?_
                            refine g_goto (tgt := 124) d_Mod_atom_120 (by decide) ?_
                            refine g_callR (c_Mod_atomOf hst (x := a) (y := 0) hm1 hc8 hw hw13 hj ha (by decide)) gm_Mod_atomOf d_Mod_atom_124 (gInv_v (As := [.int (nI j), .int (nI a), .int (nI 0)]) (rest := []) d_Mod_atom_124 gm_Mod_atomOf gv_Mod_114 (hm1.2) rfl) (Nat.le_of_ble_eq_true rfl) (Nat.le_of_ble_eq_true rfl) (Nat.le_of_ble_eq_true rfl) (Nat.le_of_ble_eq_true rfl) (Nat.le_of_ble_eq_true rfl) ?_
                            refine g_goto (tgt := 131) d_Mod_atom_127 (by decide) ?_
                            refine g_ret_i d_Mod_atom_131 rfl rfl (fin _ ?_)
                            rw [efat, if_neg (by rintro (⟨-, z⟩ | ⟨z, -⟩); exact e2 z; exact absurd z (by decide)), e1]
                            unfold mat atn
                            rw [ew]
                            exact (nI_add _ _).symm
                        · exact absurd (by decide) q
                · exact absurd (by decide) q
              refine g_if_eq (tgt := 54) d_Mod_atom_47 (by decide) (fun q => ?_) (fun q => ?_)
              · refine g_iconst (v := nI 0) d_Mod_atom_54 (by decide) ?_
                exact two1 false ((bI_z _).mp q).symm
              · refine g_iconst (v := nI 1) d_Mod_atom_50 (by decide) ?_
                refine g_goto (tgt := 55) d_Mod_atom_51 (by decide) ?_
                exact two1 true (bI_t q).symm
          · rw [ew] at efat ⊢
            refine g_icmp_lt (tgt := 50) d_Mod_atom_39 (by decide) (fun q => ?_) (fun q => ?_)
            · exact absurd q (by decide)
            · refine g_aload_n d_Mod_atom_42 rfl ?_
              refine g_iload_n d_Mod_atom_43 rfl ?_
              refine g_callR (c_Mod_isThing hst hm1 (thg_lt hc8) one) gm_Mod_isThing d_Mod_atom_44 (gInv_v (As := [.int one]) (rest := []) d_Mod_atom_44 gm_Mod_isThing gv_Mod_118 (hm1.2) rfl) (Nat.le_of_ble_eq_true rfl) (Nat.le_of_ble_eq_true rfl) (Nat.le_of_ble_eq_true rfl) (Nat.le_of_ble_eq_true rfl) (Nat.le_of_ble_eq_true rfl) ?_
              have two2 : ∀ b1 b2 : Bool, b1 = decide (isTx c one) → b2 = decide (isTx c two) → Go K M_Mod_atom r_Mod_atom 80 [(0, .ref (Y 0)), (1, .int (nI j)), (2, .int one), (3, .int two), (4, .int (bI b1))] [.int (bI b2)] (gup h (Y 0) (mob Y 0 ty td nc nt (bI (decide (¬ k = 0))) (nI k) (nI (thg c)) (nI A))) 0 0 (gRx fun o h' => o = some (.int (fatm c w (nI j) one two)) ∧ gMo h' Y 0 tx td k c w A CS ∧ gKP h h' (gOf Y 17)) := by
                intro b1 b2 hb1 hb2
                refine g_istore d_Mod_atom_80 (Nat.le_of_ble_eq_true rfl) rfl ?_
                cases b1 with
                | false =>
                  refine bad false b2 (Or.inl rfl) ?_
                  rw [efat, if_pos (Or.inl ⟨by decide, fth_n (of_decide_eq_false hb1.symm)⟩)]
                | true =>
                  cases b2 with
                  | false =>
                    refine bad true false (Or.inr rfl) ?_
                    rw [efat, if_pos (Or.inr ⟨rfl, fth_n (of_decide_eq_false hb2.symm)⟩)]
                  | true =>
                    obtain ⟨a, ha, rfl, e1, e2⟩ := fth_y (of_decide_eq_true hb1.symm)
                    obtain ⟨b, hb, rfl, e3, e4⟩ := fth_y (of_decide_eq_true hb2.symm)
                    refine g_iload d_Mod_atom_82 rfl ?_
                    refine g_if_eq (tgt := 130) d_Mod_atom_84 (by decide) (fun q => ?_) (fun q => ?_)
                    · exact absurd q (by decide)
                    · refine g_iload d_Mod_atom_87 rfl ?_
                      refine g_if_eq (tgt := 130) d_Mod_atom_89 (by decide) (fun q => ?_) (fun q => ?_)
                      · exact absurd q (by decide)
                      · refine g_aload_n d_Mod_atom_92 rfl ?_
                        refine g_iload_n d_Mod_atom_93 rfl ?_
                        refine g_aload_n d_Mod_atom_94 rfl ?_
                        refine g_get d_Mod_atom_95 f_Mod_51 (hm1.2) rfl ?_
                        refine g_iload_n d_Mod_atom_98 rfl ?_
                        refine g_iald d_Mod_atom_99 (hm1.1.a13) (rfl) (hj) (by decide) ?_
                        refine g_iconst (v := nI 1) d_Mod_atom_100 (by decide) ?_
                        rw [hw13 j hj, ew]
                        refine g_icmp_ge (tgt := 108) d_Mod_atom_101 (by decide) (fun q => ?_) (fun q => ?_)
                        · refine g_iload_n d_Mod_atom_108 rfl ?_
                          refine g_aload_n d_Mod_atom_109 rfl ?_
                          refine g_get d_Mod_atom_110 f_Mod_51 (hm1.2) rfl ?_
                          refine g_iload_n d_Mod_atom_113 rfl ?_
                          refine g_iald d_Mod_atom_114 (hm1.1.a13) (rfl) (hj) (by decide) ?_
                          refine g_iconst (v := nI 2) d_Mod_atom_115 (by decide) ?_
                          rw [hw13 j hj, ew]
                          refine g_icmp_ge (tgt := 123) d_Mod_atom_116 (by decide) (fun q => ?_) (fun q => ?_)
                          · refine g_iload_n d_Mod_atom_123 rfl ?_
                            refine g_callR (c_Mod_atomOf hst (x := a) (y := b) hm1 hc8 hw hw13 hj ha hb) gm_Mod_atomOf d_Mod_atom_124 (gInv_v (As := [.int (nI j), .int (nI a), .int (nI b)]) (rest := []) d_Mod_atom_124 gm_Mod_atomOf gv_Mod_114 (hm1.2) rfl) (Nat.le_of_ble_eq_true rfl) (Nat.le_of_ble_eq_true rfl) (Nat.le_of_ble_eq_true rfl) (Nat.le_of_ble_eq_true rfl) (Nat.le_of_ble_eq_true rfl) ?_
                            refine g_goto (tgt := 131) d_Mod_atom_127 (by decide) ?_
                            refine g_ret_i d_Mod_atom_131 rfl rfl (fin _ ?_)
                            rw [efat, if_neg (by rintro (⟨-, z⟩ | ⟨-, z⟩); exact e2 z; exact e4 z), e1, e3]
                            unfold mat atn
                            rw [ew]
                            show nI (fat (tcn c) w j + tcn c * rnk c a + rnk c b) = nI (fat (tcn c) w j) + nI (rnk c a) * nI (tcn c) + nI (rnk c b)
                            rw [pk_mul, nI_add, nI_add, Nat.mul_comm]
                          · exact absurd (by decide) q
                        · exact absurd (by decide) q
              have two1 : ∀ b1 : Bool, b1 = decide (isTx c one) → Go K M_Mod_atom r_Mod_atom 55 (lv_args 0 [.ref (Y 0), .int (nI j), .int one, .int two]) [.int (bI b1)] (gup h (Y 0) (mob Y 0 ty td nc nt (bI (decide (¬ k = 0))) (nI k) (nI (thg c)) (nI A))) 0 0 (gRx fun o h' => o = some (.int (fatm c w (nI j) one two)) ∧ gMo h' Y 0 tx td k c w A CS ∧ gKP h h' (gOf Y 17)) := by
                intro b1 hb1
                refine g_istore d_Mod_atom_55 (Nat.le_of_ble_eq_true rfl) rfl ?_
                refine g_aload_n d_Mod_atom_57 rfl ?_
                refine g_get d_Mod_atom_58 f_Mod_51 (hm1.2) rfl ?_
                refine g_iload_n d_Mod_atom_61 rfl ?_
                refine g_iald d_Mod_atom_62 (hm1.1.a13) (rfl) (hj) (by decide) ?_
                refine g_iconst (v := nI 2) d_Mod_atom_63 (by decide) ?_
                rw [hw13 j hj, ew]
                refine g_icmp_lt (tgt := 75) d_Mod_atom_64 (by decide) (fun q => ?_) (fun q => ?_)
                · exact absurd q (by decide)
                · refine g_aload_n d_Mod_atom_67 rfl ?_
                  refine g_iload_n d_Mod_atom_68 rfl ?_
                  refine g_callR (c_Mod_isThing hst hm1 (thg_lt hc8) two) gm_Mod_isThing d_Mod_atom_69 (gInv_v (As := [.int two]) (rest := []) d_Mod_atom_69 gm_Mod_isThing gv_Mod_118 (hm1.2) rfl) (Nat.le_of_ble_eq_true rfl) (Nat.le_of_ble_eq_true rfl) (Nat.le_of_ble_eq_true rfl) (Nat.le_of_ble_eq_true rfl) (Nat.le_of_ble_eq_true rfl) ?_
                  refine g_if_eq (tgt := 79) d_Mod_atom_72 (by decide) (fun q => ?_) (fun q => ?_)
                  · refine g_iconst (v := nI 0) d_Mod_atom_79 (by decide) ?_
                    exact two2 b1 false hb1 ((bI_z _).mp q).symm
                  · refine g_iconst (v := nI 1) d_Mod_atom_75 (by decide) ?_
                    refine g_goto (tgt := 80) d_Mod_atom_76 (by decide) ?_
                    exact two2 b1 true hb1 (bI_t q).symm
              refine g_if_eq (tgt := 54) d_Mod_atom_47 (by decide) (fun q => ?_) (fun q => ?_)
              · refine g_iconst (v := nI 0) d_Mod_atom_54 (by decide) ?_
                exact two1 false ((bI_z _).mp q).symm
              · refine g_iconst (v := nI 1) d_Mod_atom_50 (by decide) ?_
                refine g_goto (tgt := 55) d_Mod_atom_51 (by decide) ?_
                exact two1 true (bI_t q).symm
        · refine no ?_
          rw [efat, if_pos]
          rcases hw j hj with e | e | e | e
          · exact e
          · rw [e] at q
            exact absurd (by decide) q
          · rw [e] at q
            exact absurd (by decide) q
          · rw [e] at q
            exact absurd (by decide) q
end MODEL9
