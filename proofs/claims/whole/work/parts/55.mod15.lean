/-! ===== the reference makes a clause's instances ===== -/
theorem ins_ltA {c : Nat} {w : Nat → Int32} {lt : Nat → gLD} {k : Nat} {vl : Nat → Nat} (hv : ∀ a, a < 6 → (a < 3 → isT c a) → vl a < tcn c) : ∀ j, (∀ i, i < j → lok c w (lt (4 * k + i))) → (ins c w lt k vl j).1 < 2 ^ atc w c ∧ (ins c w lt k vl j).2 < 2 ^ atc w c := by
  intro j
  induction j with
  | zero => exact fun _ => ⟨Nat.two_pow_pos _, Nat.two_pow_pos _⟩
  | succ j ih =>
    intro hl
    obtain ⟨h1, h2⟩ := ih fun i hi => hl i (by omega)
    have h3 : 2 ^ lat c w vl (lt (4 * k + j)) < 2 ^ atc w c := Nat.pow_lt_pow_right (by decide) (lat_lt (hl j (by omega)) hv)
    show (if (lt (4 * k + j)).1 then ((ins c w lt k vl j).1, (ins c w lt k vl j).2 ||| 2 ^ lat c w vl (lt (4 * k + j))) else ((ins c w lt k vl j).1 ||| 2 ^ lat c w vl (lt (4 * k + j)), (ins c w lt k vl j).2)).1 < _ ∧ (if (lt (4 * k + j)).1 then ((ins c w lt k vl j).1, (ins c w lt k vl j).2 ||| 2 ^ lat c w vl (lt (4 * k + j))) else ((ins c w lt k vl j).1 ||| 2 ^ lat c w vl (lt (4 * k + j)), (ins c w lt k vl j).2)).2 < _
    split
    · exact ⟨h1, Nat.or_lt_two_pow h2 h3⟩
    · exact ⟨Nat.or_lt_two_pow h1 h3, h2⟩
/-- a code's two halves lie below 2 to the atoms -/
theorem cod_lt {c : Nat} {w : Nat → Int32} {sz : Nat → Nat} {lt : Nat → gLD} {u e : Nat} {vl : Nat → Nat} (hv : ∀ a, a < 6 → (a < 3 → isT c a) → vl a < tcn c) (hA : atc w c ≤ 12) (hl : ∀ i, i < sz u → lok c w (lt (4 * u + i))) (he : cod c w sz lt u vl = some e) : e % 4096 < 2 ^ atc w c ∧ e / 4096 < 2 ^ atc w c ∧ e < 16777216 := by
  obtain ⟨h1, h2⟩ := ins_ltA hv (sz u) hl
  have h3 := pwA hA
  unfold cod at he
  split at he
  · cases he
    refine ⟨by omega, by omega, by omega⟩
  · cases he
theorem mvl_lt {x y z a : Nat} (hx : x < 3) (hy : y < 3) (hz : z < 3) : mvl x y z a < 3 := by
  unfold mvl
  repeat' split
  all_goals omega
theorem mvl_vof {c x y z a : Nat} : rnk c (mvl x y z a) = vof c (rnk c x) (rnk c y) (rnk c z) a := by
  unfold mvl vof
  repeat' split
  all_goals rfl
theorem mat_lat {c : Nat} {w : Nat → Int32} {x y z : Nat} {t : gLD} (hl : lok c w t) : mat c w t.2.1 (if 0 < t.2.2.1 then mvl x y z t.2.2.2.1 else 0) (if 1 < t.2.2.1 then mvl x y z t.2.2.2.2 else 0) = lat c w (vof c (rnk c x) (rnk c y) (rnk c z)) t := by
  obtain ⟨-, h2, h3, -⟩ := hl
  unfold mat lat
  rw [h3, ← mvl_vof, ← mvl_vof]
  rcases (show t.2.2.1 = 0 ∨ t.2.2.1 = 1 ∨ t.2.2.1 = 2 by omega) with e | e | e <;> rw [e]
  · rfl
  · rfl
  · show fat (tcn c) w t.2.1 + tcn c * rnk c (mvl x y z t.2.2.2.1) + rnk c (mvl x y z t.2.2.2.2) = fat (tcn c) w t.2.1 + (rnk c (mvl x y z t.2.2.2.1) * tcn c + rnk c (mvl x y z t.2.2.2.2))
    rw [Nat.mul_comm, Nat.add_assoc]
section MODEL15
variable {K : gK} {h : gH} {Y : Nat → Nat} {F : Nat → Nat → Int32} {cd ty td nc nt th kk tg AA : Int32} {k c : Nat} {w : Nat → Int32} {sz : Nat → Nat} {lt : Nat → gLD}
theorem l_Mod_instance (hst : K.1.stackTraces = false) {u x y z : Nat} (hm : gMb h Y F cd ty td nc nt th kk (nI (thg c)) AA) (hk : k ≤ 12) (hu : u < k) (hT : mtk F k w sz lt) (hc : c < 8) (hw : wok w) (hA : atc w c ≤ 12) (hs4 : sz u ≤ 4) (hl : ∀ i, i < sz u → lok c w (lt (4 * u + i))) (hx : x < 3) (hy : y < 3) (hz : z < 3) (tx : isT c x) (ty' : isT c y) (tz : isT c z) {Q : Outcome → gH → Prop}
    (kq : Go K M_Mod_instance r_Mod_instance 150 [(0, .ref (Y 0)), (1, .int (nI u)), (2, .int (nI (gvn x y z))), (3, .int (nI (ins c w lt u (vof c (rnk c x) (rnk c y) (rnk c z)) (sz u)).1)), (4, .int (nI (ins c w lt u (vof c (rnk c x) (rnk c y) (rnk c z)) (sz u)).2)), (5, .int (nI (4 * u + sz u)))] [] h 0 0 Q) : ∀ (r j : Nat), j + r = sz u → Go K M_Mod_instance r_Mod_instance 10 [(0, .ref (Y 0)), (1, .int (nI u)), (2, .int (nI (gvn x y z))), (3, .int (nI (ins c w lt u (vof c (rnk c x) (rnk c y) (rnk c z)) j).1)), (4, .int (nI (ins c w lt u (vof c (rnk c x) (rnk c y) (rnk c z)) j).2)), (5, .int (nI (4 * u + j)))] [] h 0 0 Q := by
  have hv : ∀ a, a < 6 → (a < 3 → isT c a) → vof c (rnk c x) (rnk c y) (rnk c z) a < tcn c := fun a _ ha => vof_lt hc (rnk_lt c hc x hx tx) (rnk_lt c hc y hy ty') (rnk_lt c hc z hz tz) ha
  intro r
  induction r with
  | zero =>
    intro j hj
    have e : j = sz u := by omega
    subst e
    refine g_iload d_Mod_instance_10 rfl ?_
    refine g_iconst (v := nI 4) d_Mod_instance_12 (by decide) ?_
    refine g_iload_n d_Mod_instance_13 rfl ?_
    refine g_imul d_Mod_instance_14 ?_
    refine g_aload_n d_Mod_instance_15 rfl ?_
    refine g_get d_Mod_instance_16 f_Mod_36 (hm.2) rfl ?_
    refine g_iload_n d_Mod_instance_19 rfl ?_
    refine g_iald d_Mod_instance_20 (hm.1.a8) (rfl) (by omega) (by decide) ?_
    rw [hT.2.1 u hu, pk_mul]
    refine g_iadd d_Mod_instance_21 ?_
    rw [nI_add]
    refine g_icmpN_ge (tgt := 150) d_Mod_instance_22 (by decide) (rfl) (rfl) (by omega) (by omega) (fun q => ?_) (fun q => ?_)
    · exact kq
    · omega
  | succ r ih =>
    intro j hj
    have hlj := hl j (by omega)
    obtain ⟨t1, t2, t3, t4⟩ := hT.2.2 u hu j (by omega)
    have hll := lat_lt hlj hv
    have hml := mat_lat (x := x) (y := y) (z := z) hlj
    obtain ⟨l1, l2, l3, l4, l5⟩ := id hlj
    have hin := ih (j + 1) (by omega)
    have eins : ins c w lt u (vof c (rnk c x) (rnk c y) (rnk c z)) (j + 1) = if (lt (4 * u + j)).1 then ((ins c w lt u (vof c (rnk c x) (rnk c y) (rnk c z)) j).1, (ins c w lt u (vof c (rnk c x) (rnk c y) (rnk c z)) j).2 ||| 2 ^ lat c w (vof c (rnk c x) (rnk c y) (rnk c z)) (lt (4 * u + j))) else ((ins c w lt u (vof c (rnk c x) (rnk c y) (rnk c z)) j).1 ||| 2 ^ lat c w (vof c (rnk c x) (rnk c y) (rnk c z)) (lt (4 * u + j)), (ins c w lt u (vof c (rnk c x) (rnk c y) (rnk c z)) j).2) := rfl
    rw [eins] at hin
    clear eins
    have w13 := hT.1 (lt (4 * u + j)).2.1 l1
    refine g_iload d_Mod_instance_10 rfl ?_
    refine g_iconst (v := nI 4) d_Mod_instance_12 (by decide) ?_
    refine g_iload_n d_Mod_instance_13 rfl ?_
    refine g_imul d_Mod_instance_14 ?_
    refine g_aload_n d_Mod_instance_15 rfl ?_
    refine g_get d_Mod_instance_16 f_Mod_36 (hm.2) rfl ?_
    refine g_iload_n d_Mod_instance_19 rfl ?_
    refine g_iald d_Mod_instance_20 (hm.1.a8) (rfl) (by omega) (by decide) ?_
    rw [hT.2.1 u hu, pk_mul]
    refine g_iadd d_Mod_instance_21 ?_
    rw [nI_add]
    refine g_icmpN_ge (tgt := 150) d_Mod_instance_22 (by decide) (rfl) (rfl) (by omega) (by omega) (fun q => ?_) (fun q => ?_)
    · omega
    · refine g_aload_n d_Mod_instance_25 rfl ?_
      refine g_get d_Mod_instance_26 f_Mod_39 (hm.2) rfl ?_
      refine g_iload d_Mod_instance_29 rfl ?_
      refine g_iald d_Mod_instance_31 (hm.1.a9) (rfl) (by omega) (by decide) ?_
      rw [t1]
      refine g_istore d_Mod_instance_32 (Nat.le_of_ble_eq_true rfl) rfl ?_
      refine g_aload_n d_Mod_instance_34 rfl ?_
      refine g_get d_Mod_instance_35 f_Mod_51 (hm.2) rfl ?_
      refine g_iload d_Mod_instance_38 rfl ?_
      refine g_iald d_Mod_instance_40 (hm.1.a13) (rfl) (l1) (by decide) ?_
      rw [w13, l3]
      generalize hbL : lt (4 * u + j) = L at *
      generalize ins c w lt u (vof c (rnk c x) (rnk c y) (rnk c z)) j = I at *
      have go2 : ∀ a b : Nat, a = (if 0 < L.2.2.1 then mvl x y z L.2.2.2.1 else 0) → b = (if 1 < L.2.2.1 then mvl x y z L.2.2.2.2 else 0) → Go K M_Mod_instance r_Mod_instance 87 [(0, .ref (Y 0)), (1, .int (nI u)), (2, .int (nI (gvn x y z))), (3, .int (nI I.1)), (4, .int (nI I.2)), (5, .int (nI (4 * u + j))), (6, .int (nI L.2.1)), (7, .int (nI a))] [.int (nI b)] h 0 0 Q := by
        intro a b ha hb
        have ha3 : a < 3 := by
          rw [ha]
          split
          · exact mvl_lt hx hy hz
          · decide
        have hb3 : b < 3 := by
          rw [hb]
          split
          · exact mvl_lt hx hy hz
          · decide
        refine g_istore d_Mod_instance_87 (Nat.le_of_ble_eq_true rfl) rfl ?_
        refine g_iconst (v := nI 1) d_Mod_instance_89 (by decide) ?_
        refine g_aload_n d_Mod_instance_90 rfl ?_
        refine g_iload d_Mod_instance_91 rfl ?_
        refine g_iload d_Mod_instance_93 rfl ?_
        refine g_iload d_Mod_instance_95 rfl ?_
        refine g_callR (c_Mod_atomOf hst hm hc hw hT.1 l1 ha3 hb3) gm_Mod_atomOf d_Mod_instance_97 (gInv_v (As := [.int (nI L.2.1), .int (nI a), .int (nI b)]) (rest := [.int (nI 1)]) d_Mod_instance_97 gm_Mod_atomOf gv_Mod_114 (hm.2) rfl) (Nat.le_of_ble_eq_true rfl) (Nat.le_of_ble_eq_true rfl) (Nat.le_of_ble_eq_true rfl) (Nat.le_of_ble_eq_true rfl) (Nat.le_of_ble_eq_true rfl) ?_
        rw [ha, hb, hml]
        refine g_ishl d_Mod_instance_100 ?_
        rw [nI_shl1 (by omega)]
        refine g_istore d_Mod_instance_101 (Nat.le_of_ble_eq_true rfl) rfl ?_
        refine g_aload_n d_Mod_instance_103 rfl ?_
        refine g_get d_Mod_instance_104 f_Mod_42 (hm.2) rfl ?_
        refine g_iload d_Mod_instance_107 rfl ?_
        refine g_zald d_Mod_instance_109 (hm.1.a10) (rfl) (by omega) (by decide) ?_
        rw [t2]
        cases hneg : L.1 with
        | true =>
          rw [hneg, if_pos rfl] at hin
          refine g_if_eq (tgt := 117) d_Mod_instance_110 (by decide) (fun q => ?_) (fun q => ?_)
          · exact absurd q (by decide)
          · refine g_iload_n d_Mod_instance_113 rfl ?_
            refine g_goto (tgt := 121) d_Mod_instance_114 (by decide) ?_
            refine g_istore_n d_Mod_instance_121 rfl (Nat.le_of_ble_eq_true rfl) rfl ?_
            refine g_aload_n d_Mod_instance_122 rfl ?_
            refine g_get d_Mod_instance_123 f_Mod_42 (hm.2) rfl ?_
            refine g_iload d_Mod_instance_126 rfl ?_
            refine g_zald d_Mod_instance_128 (hm.1.a10) (rfl) (by omega) (by decide) ?_
            rw [t2, hneg]
            refine g_if_eq (tgt := 140) d_Mod_instance_129 (by decide) (fun q => ?_) (fun q => ?_)
            · exact absurd q (by decide)
            · refine g_iload d_Mod_instance_132 rfl ?_
              refine g_iload d_Mod_instance_134 rfl ?_
              refine g_ior d_Mod_instance_136 ?_
              rw [nI_or]
              refine g_goto (tgt := 142) d_Mod_instance_137 (by decide) ?_
              refine g_istore d_Mod_instance_142 (Nat.le_of_ble_eq_true rfl) rfl ?_
              refine g_iinc d_Mod_instance_144 rfl (nI_inc _) (Nat.le_of_ble_eq_true rfl) rfl ?_
              refine g_goto (tgt := 10) d_Mod_instance_147 (by decide) ?_
              exact g_drop [(0, .ref (Y 0)), (1, .int (nI u)), (2, .int (nI (gvn x y z))), (3, .int (nI I.1)), (4, .int (nI (I.2 ||| 2 ^ lat c w (vof c (rnk c x) (rnk c y) (rnk c z)) L))), (5, .int (nI (4 * u + (j + 1))))] ⟨rfl, rfl, rfl, rfl, rfl, rfl, trivial⟩ hin
        | false =>
          rw [hneg, if_neg Bool.false_ne_true] at hin
          refine g_if_eq (tgt := 117) d_Mod_instance_110 (by decide) (fun q => ?_) (fun q => ?_)
          · refine g_iload_n d_Mod_instance_117 rfl ?_
            refine g_iload d_Mod_instance_118 rfl ?_
            refine g_ior d_Mod_instance_120 ?_
            rw [nI_or]
            refine g_istore_n d_Mod_instance_121 rfl (Nat.le_of_ble_eq_true rfl) rfl ?_
            refine g_aload_n d_Mod_instance_122 rfl ?_
            refine g_get d_Mod_instance_123 f_Mod_42 (hm.2) rfl ?_
            refine g_iload d_Mod_instance_126 rfl ?_
            refine g_zald d_Mod_instance_128 (hm.1.a10) (rfl) (by omega) (by decide) ?_
            rw [t2, hneg]
            refine g_if_eq (tgt := 140) d_Mod_instance_129 (by decide) (fun q => ?_) (fun q => ?_)
            · refine g_iload d_Mod_instance_140 rfl ?_
              refine g_istore d_Mod_instance_142 (Nat.le_of_ble_eq_true rfl) rfl ?_
              refine g_iinc d_Mod_instance_144 rfl (nI_inc _) (Nat.le_of_ble_eq_true rfl) rfl ?_
              refine g_goto (tgt := 10) d_Mod_instance_147 (by decide) ?_
              exact g_drop [(0, .ref (Y 0)), (1, .int (nI u)), (2, .int (nI (gvn x y z))), (3, .int (nI (I.1 ||| 2 ^ lat c w (vof c (rnk c x) (rnk c y) (rnk c z)) L))), (4, .int (nI I.2)), (5, .int (nI (4 * u + (j + 1))))] ⟨rfl, rfl, rfl, rfl, rfl, rfl, trivial⟩ hin
            · exact absurd (by decide) q
          · exact absurd (by decide) q
      have go1 : ∀ a : Nat, a = (if 0 < L.2.2.1 then mvl x y z L.2.2.2.1 else 0) → Go K M_Mod_instance r_Mod_instance 59 [(0, .ref (Y 0)), (1, .int (nI u)), (2, .int (nI (gvn x y z))), (3, .int (nI I.1)), (4, .int (nI I.2)), (5, .int (nI (4 * u + j))), (6, .int (nI L.2.1))] [.int (nI a)] h 0 0 Q := by
        intro a ha
        refine g_istore d_Mod_instance_59 (Nat.le_of_ble_eq_true rfl) rfl ?_
        refine g_aload_n d_Mod_instance_61 rfl ?_
        refine g_get d_Mod_instance_62 f_Mod_51 (hm.2) rfl ?_
        refine g_iload d_Mod_instance_65 rfl ?_
        refine g_iald d_Mod_instance_67 (hm.1.a13) (rfl) (l1) (by decide) ?_
        refine g_iconst (v := nI 1) d_Mod_instance_68 (by decide) ?_
        rw [w13, l3]
        refine g_icmpN_le (tgt := 86) d_Mod_instance_69 (by decide) (rfl) (rfl) (by omega) (by decide) (fun q => ?_) (fun q => ?_)
        · refine g_iconst (v := nI 0) d_Mod_instance_86 (by decide) ?_
          exact go2 a 0 ha (by rw [if_neg (by omega)])
        · refine g_aload_n d_Mod_instance_72 rfl ?_
          refine g_get d_Mod_instance_73 f_Mod_48 (hm.2) rfl ?_
          refine g_iload d_Mod_instance_76 rfl ?_
          refine g_iald d_Mod_instance_78 (hm.1.a12) (rfl) (by omega) (by decide) ?_
          refine g_iload_n d_Mod_instance_79 rfl ?_
          rw [t4 q]
          refine g_callR (c_Mod_valueOf hst (a := L.2.2.2.2) (l5 q).1 hx hy hz) gm_Mod_valueOf d_Mod_instance_80 (gInv_s (As := [.int (nI L.2.2.2.2), .int (nI (gvn x y z))]) (rest := []) d_Mod_instance_80 gm_Mod_valueOf gs_Mod_111) (Nat.le_of_ble_eq_true rfl) (Nat.le_of_ble_eq_true rfl) (Nat.le_of_ble_eq_true rfl) (Nat.le_of_ble_eq_true rfl) (Nat.le_of_ble_eq_true rfl) ?_
          refine g_goto (tgt := 87) d_Mod_instance_83 (by decide) ?_
          exact go2 a _ ha (by rw [if_pos q])
      refine g_if_le (tgt := 58) d_Mod_instance_41 (by decide) (fun q => ?_) (fun q => ?_)
      · have q1 := (nI_gt (by omega)).mp q
        refine g_iconst (v := nI 0) d_Mod_instance_58 (by decide) ?_
        exact go1 0 (by rw [if_neg q1])
      · have q1 : 0 < L.2.2.1 := Classical.byContradiction fun z => q ((nI_gt (by omega)).mpr z)
        refine g_aload_n d_Mod_instance_44 rfl ?_
        refine g_get d_Mod_instance_45 f_Mod_45 (hm.2) rfl ?_
        refine g_iload d_Mod_instance_48 rfl ?_
        refine g_iald d_Mod_instance_50 (hm.1.a11) (rfl) (by omega) (by decide) ?_
        refine g_iload_n d_Mod_instance_51 rfl ?_
        rw [t3 q1]
        refine g_callR (c_Mod_valueOf hst (a := L.2.2.2.1) (l4 q1).1 hx hy hz) gm_Mod_valueOf d_Mod_instance_52 (gInv_s (As := [.int (nI L.2.2.2.1), .int (nI (gvn x y z))]) (rest := []) d_Mod_instance_52 gm_Mod_valueOf gs_Mod_111) (Nat.le_of_ble_eq_true rfl) (Nat.le_of_ble_eq_true rfl) (Nat.le_of_ble_eq_true rfl) (Nat.le_of_ble_eq_true rfl) (Nat.le_of_ble_eq_true rfl) ?_
        refine g_goto (tgt := 59) d_Mod_instance_55 (by decide) ?_
        exact go1 _ (by rw [if_pos q1])
theorem c_Mod_instance (hst : K.1.stackTraces = false) {u x y z : Nat} (hm : gMb h Y F cd ty td nc nt th kk (nI (thg c)) AA) (hk : k ≤ 12) (hu : u < k) (hT : mtk F k w sz lt) (hc : c < 8) (hw : wok w) (hA : atc w c ≤ 12) (hs4 : sz u ≤ 4) (hl : ∀ i, i < sz u → lok c w (lt (4 * u + i))) (hx : x < 3) (hy : y < 3) (hz : z < 3) (tx : isT c x) (ty' : isT c y) (tz : isT c z) : Ct K r_Mod_instance M_Mod_instance [.ref (Y 0), .int (nI u), .int (nI (gvn x y z))] h (gRt (some (.int (rcv (cod c w sz lt u (vof c (rnk c x) (rnk c y) (rnk c z)))))) h) := by
  have hv : ∀ a, a < 6 → (a < 3 → isT c a) → vof c (rnk c x) (rnk c y) (rnk c z) a < tcn c := fun a _ ha => vof_lt hc (rnk_lt c hc x hx tx) (rnk_lt c hc y hy ty') (rnk_lt c hc z hz tz) ha
  obtain ⟨i1, i2⟩ := ins_lt hv hA (sz u) hl
  refine Ct.of hst (by decide) (Or.inl rfl) (Nat.le_of_ble_eq_true rfl) ?_
  refine g_iconst (v := nI 0) d_Mod_instance_0 (by decide) ?_
  refine g_istore_n d_Mod_instance_1 rfl (Nat.le_of_ble_eq_true rfl) rfl ?_
  refine g_iconst (v := nI 0) d_Mod_instance_2 (by decide) ?_
  refine g_istore d_Mod_instance_3 (Nat.le_of_ble_eq_true rfl) rfl ?_
  refine g_iconst (v := nI 4) d_Mod_instance_5 (by decide) ?_
  refine g_iload_n d_Mod_instance_6 rfl ?_
  refine g_imul d_Mod_instance_7 ?_
  rw [pk_mul]
  refine g_istore d_Mod_instance_8 (Nat.le_of_ble_eq_true rfl) rfl ?_
  refine l_Mod_instance hst hm hk hu hT hc hw hA hs4 hl hx hy hz tx ty' tz ?_ (sz u) 0 (by omega)
  unfold cod
  generalize ins c w lt u (vof c (rnk c x) (rnk c y) (rnk c z)) (sz u) = I at *
  have hand : I.1 &&& I.2 < 2 ^ 31 := Nat.lt_of_le_of_lt Nat.and_le_left (by omega)
  refine g_iload_n d_Mod_instance_150 rfl ?_
  refine g_iload d_Mod_instance_151 rfl ?_
  refine g_iand d_Mod_instance_153 ?_
  rw [nI_and2]
  refine g_if_eq (tgt := 161) d_Mod_instance_154 (by decide) (fun q => ?_) (fun q => ?_)
  · refine g_iload_n d_Mod_instance_161 rfl ?_
    refine g_sipush (v := nI 4096) d_Mod_instance_162 (by decide) ?_
    refine g_iload d_Mod_instance_165 rfl ?_
    refine g_imul d_Mod_instance_167 ?_
    refine g_iadd d_Mod_instance_168 ?_
    rw [pk_mul, nI_add, if_pos ((nI_z hand).mp q)]
    refine g_ret_i d_Mod_instance_169 rfl rfl ⟨?_, rfl⟩
    show Outcome.returned (some (.int (nI (I.1 + 4096 * I.2)))) = .returned (some (.int (nI (I.2 * 4096 + I.1))))
    rw [Nat.mul_comm, Nat.add_comm]
  · refine g_iconst (v := -1) d_Mod_instance_157 (by decide) ?_
    refine g_goto (tgt := 169) d_Mod_instance_158 (by decide) ?_
    rw [if_neg fun z => q ((nI_z hand).mpr z)]
    exact g_ret_i d_Mod_instance_169 rfl rfl ⟨rfl, rfl⟩
end MODEL15
