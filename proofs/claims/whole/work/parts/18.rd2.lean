/-! ===== Reader.readArguments ===== -/
theorem nm2 {x a b : Nat} (h1 : x ≠ a) (h2 : x ≠ b) : x ∉ [a, b] := by simp [h1, h2]
theorem nm3 {x a b c : Nat} (h1 : x ≠ a) (h2 : x ≠ b) (h3 : x ≠ c) : x ∉ [a, b, c] := by simp [h1, h2, h3]
theorem gAr.kp {h h' : gH} {g n a1 a2 : Nat} {L : List Nat} (ha : gAr h g n a1 a2) (hk : gKp h h' L) (h1 : g ∉ L) : gAr h' g n a1 a2 := by
  obtain ⟨f, q1, q2⟩ := ha
  exact ⟨f, (hk g h1).trans q1, q2⟩
theorem gVc.kp {h h' : gH} {a aa fa c : Nat} {w : Nat → Int32} {L : List Nat} (hv : gVc h a aa fa w c) (hk : gKp h h' L) (h1 : a ∉ L) (h2 : aa ∉ L) (h3 : fa ∉ L) : gVc h' a aa fa w c := by
  obtain ⟨q1, q2, q3, f, q4, q5, q6, q7⟩ := hv
  exact ⟨q1, q2, q3, f, (hk a h1).trans q4, (hk aa h2).trans q5, (hk fa h3).trans q6, q7⟩
/-- the cells of a reader, a text and a literal lie apart -/
theorem rd_apart {h : gH} {a va vaa vfa g l ta tca x n a1 a2 c : Nat} {v1 v2 v3 v4 v0 : Value} {tx : List Nat} {w : Nat → Int32} (h1 : h a = some (.inr (4, [.ref va, v1, v2, v3, v4]))) (hv : gVu h va vaa vfa w c) (ht : gTx h ta tca tx) (hl : h l = some (.inr (3, [v0, .int (nI x), .ref g]))) (hg : gAr h g n a1 a2) :
    (a ∉ [va, vaa, vfa] ∧ ta ∉ [va, vaa, vfa] ∧ tca ∉ [va, vaa, vfa] ∧ l ∉ [va, vaa, vfa] ∧ g ∉ [va, vaa, vfa]) ∧ (va ≠ a ∧ vaa ≠ a ∧ vfa ≠ a ∧ ta ≠ a ∧ tca ≠ a ∧ l ≠ a ∧ g ≠ a) ∧ (va ≠ g ∧ vaa ≠ g ∧ vfa ≠ g ∧ ta ≠ g ∧ tca ≠ g ∧ l ≠ g) ∧ (va ≠ l ∧ vaa ≠ l ∧ vfa ≠ l ∧ ta ≠ l ∧ tca ≠ l) := by
  obtain ⟨-, -, -, f, u3, u4, q4, q5, q6⟩ := hv
  obtain ⟨ft, t1, t2, -⟩ := ht
  obtain ⟨fg, g1, -⟩ := hg
  refine ⟨⟨nm3 (gne h1 q4 (by simp)) (gne h1 q5 (by simp)) (gne h1 q6 (by simp)), nm3 (gne t1 q4 (by simp)) (gne t1 q5 (by simp)) (gne t1 q6 (by simp)), nm3 (gne t2 q4 (by simp)) (gne t2 q5 (by simp)) (gne t2 q6 (by simp)), nm3 (gne hl q4 (by simp)) (gne hl q5 (by simp)) (gne hl q6 (by simp)), nm3 (gne g1 q4 (by simp)) (gne g1 q5 (by simp)) (gne g1 q6 (by simp))⟩,
    ⟨gne q4 h1 (by simp), gne q5 h1 (by simp), gne q6 h1 (by simp), gne t1 h1 (by simp), gne t2 h1 (by simp), gne hl h1 (by simp), gne g1 h1 (by simp)⟩,
    ⟨gne q4 g1 (by simp), gne q5 g1 (by simp), gne q6 g1 (by simp), gne t1 g1 (by simp), gne t2 g1 (by simp), gne hl g1 (by simp)⟩,
    ⟨gne q4 hl (by simp), gne q5 hl (by simp), gne q6 hl (by simp), gne t1 hl (by simp), gne t2 hl (by simp)⟩⟩
theorem nI_012 {n : Nat} (hn : n ≤ 2) : nI n = 0 ∨ nI n = 1 ∨ nI n = 2 := by
  rcases (show n = 0 ∨ n = 1 ∨ n = 2 by omega) with rfl | rfl | rfl
  · exact Or.inl rfl
  · exact Or.inr (Or.inl rfl)
  · exact Or.inr (Or.inr rfl)
theorem t_Rd_readArgs {K : gK} {h : gH} (hst : K.1.stackTraces = false) {a va vaa vfa g l ta tca x n p c a1 a2 m : Nat} {v1 v2 v3 v0 : Value} {tx : List Nat} {w : Nat → Int32} (hx : x < 4) (hn : n ≤ 2) (hR : h a = some (.inr (4, [.ref va, v1, v2, v3, .int (nI p)]))) (hv : gVc h va vaa vfa w c) (ht : gTx h ta tca tx) (hl : h l = some (.inr (3, [v0, .int (nI x), .ref g]))) (hg : gAr h g n a1 a2) :
    Go K M_Rd_readArguments r_Rd_readArguments 117 [(0, .ref a), (1, .ref ta), (2, .ref l), (3, .int (w x)), (4, .int (nI m)), (5, .int (nI n))] [] h 0 0 (gRx (rdP h a va vaa vfa g v1 v2 v3 (rdT w x (true, n, p, c, a1, a2)))) := by
  obtain ⟨⟨A1, A2, A3, A4, A5⟩, B, C, D⟩ := rd_apart hR hv.u ht hl hg
  have hat := atc_le (va_up w x (nI n)) c
  unfold rdT
  rw [if_neg (by simp)]
  refine g_iload_n d_Rd_readArguments_117 rfl ?_
  refine g_iconst (v := -1) d_Rd_readArguments_118 (by decide) ?_
  refine g_icmp_eq (tgt := 134) d_Rd_readArguments_119 (by decide) (fun q => ?_) (fun q => ?_)
  · rw [if_pos q]
    obtain ⟨-, -, -, f, w4, -⟩ := id hv
    refine g_aload_n d_Rd_readArguments_134 rfl ?_
    refine g_get d_Rd_readArguments_135 f_Rd_12 (hR) rfl ?_
    refine g_aload_n d_Rd_readArguments_138 rfl ?_
    refine g_get d_Rd_readArguments_139 f_Rd_73 (hl) rfl ?_
    refine g_iload d_Rd_readArguments_142 rfl ?_
    refine g_callX (c_Voc_addPredicate hst hv.u hx (nI_012 hn)) gm_Voc_addPredicate d_Rd_readArguments_144 (gInv_v (As := [.int (nI x), .int (nI n)]) (rest := []) d_Rd_readArguments_144 gm_Voc_addPredicate gv_Rd_94 (w4) rfl) (Nat.le_of_ble_eq_true rfl) (Nat.le_of_ble_eq_true rfl) (Nat.le_of_ble_eq_true rfl) (Nat.le_of_ble_eq_true rfl) (Nat.le_of_ble_eq_true rfl) (fun v h1 hp => ?_)
    obtain ⟨rfl, hv1, hk1⟩ := hp
    obtain ⟨-, -, -, f1, w41, -⟩ := id hv1
    have ha1 := (hk1 a A1).trans hR
    refine g_aload_n d_Rd_readArguments_147 rfl ?_
    refine g_get d_Rd_readArguments_148 f_Rd_12 (ha1) rfl ?_
    refine g_get d_Rd_readArguments_151 f_Rd_90 (w41) rfl ?_
    refine g_bipush (v := nI 12) d_Rd_readArguments_154 (by decide) ?_
    have fin : ∀ z : Bool, z = decide (atc (va_up w x (nI n)) c ≤ 12) → rdP h a va vaa vfa g v1 v2 v3 (decide (atc (va_up w x (nI n)) c ≤ 12), p, va_up w x (nI n), c, n, a1, a2) (some (.int (bI z))) h1 := by
      rintro z rfl
      exact ⟨rfl, ha1, hv1, hg.kp hk1 A5, hk1.mono (by simp)⟩
    refine g_icmpN_gt (tgt := 163) d_Rd_readArguments_156 (by decide) (rfl) (rfl) (Nat.lt_of_le_of_lt hat (by decide)) (by decide) (fun q => ?_) (fun q => ?_)
    · refine g_iconst (v := nI 0) d_Rd_readArguments_163 (by decide) ?_
      refine g_ret_i d_Rd_readArguments_164 rfl rfl ⟨_, rfl, ?_⟩
      have e : ¬ atc (va_up w x (nI n)) c ≤ 12 := Nat.not_le.mpr q
      exact fin false (by simp [e])
    · refine g_iconst (v := nI 1) d_Rd_readArguments_159 (by decide) ?_
      refine g_goto (tgt := 164) d_Rd_readArguments_160 (by decide) ?_
      refine g_ret_i d_Rd_readArguments_164 rfl rfl ⟨_, rfl, ?_⟩
      have e : atc (va_up w x (nI n)) c ≤ 12 := q
      exact fin true (by simp [e])
  · rw [if_neg q]
    have fin : ∀ z : Bool, z = decide (nI n = w x) → rdP h a va vaa vfa g v1 v2 v3 (decide (nI n = w x), p, w, c, n, a1, a2) (some (.int (bI z))) h := by
      rintro z rfl
      exact ⟨rfl, hR, hv, hg, gKp.rf⟩
    refine g_iload d_Rd_readArguments_122 rfl ?_
    refine g_iload_n d_Rd_readArguments_124 rfl ?_
    refine g_icmp_ne (tgt := 132) d_Rd_readArguments_125 (by decide) (fun q => ?_) (fun q => ?_)
    · refine g_iconst (v := nI 0) d_Rd_readArguments_132 (by decide) ?_
      refine g_ret_i d_Rd_readArguments_133 rfl rfl ⟨_, rfl, ?_⟩
      exact fin false (by simp [q])
    · refine g_iconst (v := nI 1) d_Rd_readArguments_128 (by decide) ?_
      refine g_goto (tgt := 133) d_Rd_readArguments_129 (by decide) ?_
      refine g_ret_i d_Rd_readArguments_133 rfl rfl ⟨_, rfl, ?_⟩
      exact fin true (by simp [q])
theorem rdP.more {h h1 : gH} {a va vaa vfa g : Nat} {v1 v2 v3 : Value} {z : Bool × Nat × (Nat → Int32) × Nat × Nat × Nat × Nat} {v : Option Value} {h' : gH} (hk : gKp h h1 [a, va, vaa, vfa, g]) (hp : rdP h1 a va vaa vfa g v1 v2 v3 z v h') : rdP h a va vaa vfa g v1 v2 v3 z v h' := ⟨hp.1, hp.2.1, hp.2.2.1, hp.2.2.2.1, hk.tr hp.2.2.2.2⟩
theorem rcv_some {o : Option Nat} {k : Nat} (h : o = some k) : rcv o = nI k := by rw [h]; rfl
theorem rcv_none {o : Option Nat} (h : o = none) : rcv o = -1 := by rw [h]; rfl
theorem l_Rd_readArgs {K : gK} (hst : K.1.stackTraces = false) {a va vaa vfa g l ta tca x m : Nat} {v1 v2 v3 v0 : Value} {tx : List Nat} {w : Nat → Int32} (hx : x < 4) (hm : m ≤ 2) : ∀ (r n p c a1 a2 : Nat) (h : gH), n + r = m → p ≤ tx.length → h a = some (.inr (4, [.ref va, v1, v2, v3, .int (nI p)])) → gVc h va vaa vfa w c → gTx h ta tca tx → h l = some (.inr (3, [v0, .int (nI x), .ref g])) → gAr h g n a1 a2 → atc w c ≤ 12 →
    Go K M_Rd_readArguments r_Rd_readArguments 28 [(0, .ref a), (1, .ref ta), (2, .ref l), (3, .int (w x)), (4, .int (nI m)), (5, .int (nI n))] [] h 0 0 (gRx (rdP h a va vaa vfa g v1 v2 v3 (rdT w x (rdA tx w r n p c a1 a2)))) := by
  intro r
  induction r with
  | zero =>
    intro n p c a1 a2 h hr hp hR hv ht hl hg hc
    refine g_iload d_Rd_readArguments_28 rfl ?_
    refine g_iload d_Rd_readArguments_30 rfl ?_
    refine g_icmpN_ge (tgt := 117) d_Rd_readArguments_32 (by decide) (rfl) (rfl) (by omega) (by omega) (fun q => ?_) (fun q => ?_)
    · exact t_Rd_readArgs hst hx (by omega) hR hv ht hl hg
    · omega
  | succ r ih =>
    intro n p c a1 a2 h hr hp hR hv ht hl hg hc
    obtain ⟨⟨A1, A2, A3, A4, A5⟩, B, C, D⟩ := rd_apart hR hv.u ht hl hg
    obtain ⟨hwok, hc8, hne, f, w4, w5, w6, w7⟩ := id hv
    have h96 : tx.length ≤ 96 := ht.choose_spec.2.2.1
    have hch := ht.chr p
    refine g_iload d_Rd_readArguments_28 rfl ?_
    refine g_iload d_Rd_readArguments_30 rfl ?_
    refine g_icmpN_ge (tgt := 117) d_Rd_readArguments_32 (by decide) (rfl) (rfl) (by omega) (by omega) (fun q => ?_) (fun q => ?_)
    · omega
    · refine g_aload_n d_Rd_readArguments_35 rfl ?_
      refine g_aload_n d_Rd_readArguments_36 rfl ?_
      refine g_get d_Rd_readArguments_37 f_Rd_29 (hR) rfl ?_
      refine g_callR (c_Text_at hst ht (by omega)) gm_Text_at d_Rd_readArguments_40 (gInv_v (As := [.int (nI p)]) (rest := []) d_Rd_readArguments_40 gm_Text_at gv_Rd_61 (ht.choose_spec.1) rfl) (Nat.le_of_ble_eq_true rfl) (Nat.le_of_ble_eq_true rfl) (Nat.le_of_ble_eq_true rfl) (Nat.le_of_ble_eq_true rfl) (Nat.le_of_ble_eq_true rfl) ?_
      refine g_callR (c_Rd_argumentOf hst (by omega)) gm_Rd_argumentOf d_Rd_readArguments_43 (gInv_s (As := [.int (nI (tx.getD p 0))]) (rest := []) d_Rd_readArguments_43 gm_Rd_argumentOf gs_Rd_83) (Nat.le_of_ble_eq_true rfl) (Nat.le_of_ble_eq_true rfl) (Nat.le_of_ble_eq_true rfl) (Nat.le_of_ble_eq_true rfl) (Nat.le_of_ble_eq_true rfl) ?_
      refine g_iconst (v := -1) d_Rd_readArguments_46 (by decide) ?_
      cases ea : arg (tx.getD p 0) with
      | none =>
        refine g_icmp_eq (tgt := 117) d_Rd_readArguments_47 (by decide) (fun q => ?_) (fun q => ?_)
        · have e : rdA tx w (r + 1) n p c a1 a2 = (true, n, p, c, a1, a2) := by
            unfold rdA
            rw [ea]
          rw [e]
          exact t_Rd_readArgs hst hx (by omega) hR hv ht hl hg
        · exact absurd rfl q
      | some k =>
        obtain ⟨hk6, hk0⟩ := arg_lt ea
        have hplt := getD_len hk0
        refine g_icmp_eq (tgt := 117) d_Rd_readArguments_47 (by decide) (fun q => ?_) (fun q => ?_)
        · exact absurd q (nI_neg1 (by omega))
        · refine g_aload_n d_Rd_readArguments_50 rfl ?_
          refine g_aload_n d_Rd_readArguments_51 rfl ?_
          refine g_get d_Rd_readArguments_52 f_Rd_29 (hR) rfl ?_
          refine g_callR (c_Text_at hst ht (by omega)) gm_Text_at d_Rd_readArguments_55 (gInv_v (As := [.int (nI p)]) (rest := []) d_Rd_readArguments_55 gm_Text_at gv_Rd_61 (ht.choose_spec.1) rfl) (Nat.le_of_ble_eq_true rfl) (Nat.le_of_ble_eq_true rfl) (Nat.le_of_ble_eq_true rfl) (Nat.le_of_ble_eq_true rfl) (Nat.le_of_ble_eq_true rfl) ?_
          refine g_callR (c_Rd_argumentOf hst (by omega)) gm_Rd_argumentOf d_Rd_readArguments_58 (gInv_s (As := [.int (nI (tx.getD p 0))]) (rest := []) d_Rd_readArguments_58 gm_Rd_argumentOf gs_Rd_83) (Nat.le_of_ble_eq_true rfl) (Nat.le_of_ble_eq_true rfl) (Nat.le_of_ble_eq_true rfl) (Nat.le_of_ble_eq_true rfl) (Nat.le_of_ble_eq_true rfl) ?_
          rw [rcv_some ea]
          refine g_istore d_Rd_readArguments_61 (Nat.le_of_ble_eq_true rfl) rfl ?_
          refine g_iload d_Rd_readArguments_63 rfl ?_
          refine g_iconst (v := nI 3) d_Rd_readArguments_65 (by decide) ?_
          have two : ∀ (c' : Nat) (h2 : gH), c' = (if k < 3 then c ||| 2 ^ k else c) → h2 a = some (.inr (4, [.ref va, v1, v2, v3, .int (nI p)])) → gVc h2 va vaa vfa w c' → gKp h h2 [va, vaa, vfa] → Go K M_Rd_readArguments r_Rd_readArguments 78 [(0, .ref a), (1, .ref ta), (2, .ref l), (3, .int (w x)), (4, .int (nI m)), (5, .int (nI n)), (6, .int (nI k))] [] h2 0 0 (gRx (rdP h a va vaa vfa g v1 v2 v3 (rdT w x (rdA tx w (r + 1) n p c a1 a2)))) := by
            intro c' h2 hc' h12 hv2 hk2
            have hat := atc_le w c'
            obtain ⟨-, -, -, f2, w42, -⟩ := id hv2
            have ht2 := ht.kp hk2 A2 A3
            have hl2 := (hk2 l A4).trans hl
            have hg2 := hg.kp hk2 A5
            obtain ⟨-, -, -, -⟩ := rd_apart h12 hv2.u ht2 hl2 hg2
            refine g_aload_n d_Rd_readArguments_78 rfl ?_
            refine g_get d_Rd_readArguments_79 f_Rd_12 (h12) rfl ?_
            refine g_get d_Rd_readArguments_82 f_Rd_90 (w42) rfl ?_
            refine g_bipush (v := nI 12) d_Rd_readArguments_85 (by decide) ?_
            refine g_icmpN_le (tgt := 92) d_Rd_readArguments_87 (by decide) (rfl) (rfl) (Nat.lt_of_le_of_lt hat (by decide)) (by decide) (fun q => ?_) (fun q => ?_)
            · have q' : ¬ 12 < atc w c' := Nat.not_lt.mpr q
              obtain ⟨fg, g1, g2, g3, g4⟩ := hg2
              have e : rdA tx w (r + 1) n p c a1 a2 = rdA tx w r (n + 1) (p + 1) c' (if n = 0 then k else a1) (if n = 1 then k else a2) := by
                conv => lhs; unfold rdA
                rw [ea]
                dsimp only
                rw [← hc', if_neg q']
              rw [e]
              refine g_aload_n d_Rd_readArguments_92 rfl ?_
              refine g_get d_Rd_readArguments_93 f_Rd_93 (hl2) rfl ?_
              refine g_iload d_Rd_readArguments_96 rfl ?_
              refine g_iload d_Rd_readArguments_98 rfl ?_
              refine g_iast d_Rd_readArguments_100 (g1) (rfl) (by omega) (by decide) ?_
              refine g_iinc d_Rd_readArguments_101 rfl (nI_inc _) (Nat.le_of_ble_eq_true rfl) rfl ?_
              refine g_aload_n d_Rd_readArguments_104 rfl ?_
              refine g_dup d_Rd_readArguments_105 rfl ?_
              refine g_get d_Rd_readArguments_106 f_Rd_29 ((gup_n (Ne.symm B.2.2.2.2.2.2)).trans h12) rfl ?_
              refine g_iconst (v := nI 1) d_Rd_readArguments_109 (by decide) ?_
              refine g_iadd d_Rd_readArguments_110 ?_
              refine g_put (fs' := [_, _, _, _, _]) d_Rd_readArguments_111 f_Rd_29 ((gup_n (Ne.symm B.2.2.2.2.2.2)).trans h12) rfl rfl (Nat.le_of_ble_eq_true rfl) rfl ?_
              refine g_goto (tgt := 28) d_Rd_readArguments_114 (by decide) ?_
              rw [nI_add]
              refine g_drop [(0, .ref a), (1, .ref ta), (2, .ref l), (3, .int (w x)), (4, .int (nI m)), (5, .int (nI (n + 1)))] ⟨rfl, rfl, rfl, rfl, rfl, rfl, trivial⟩ ?_
              have hk3 : gKp h2 (gup (gup h2 g (.inl (0, 2, .inl (va_up fg n (nI k))))) a (.inr (4, [.ref va, v1, v2, v3, .int (nI (p + 1))]))) [g, a] := (gKp.rf.up (by simp)).up (by simp)
              refine g_post ?_ (ih (n + 1) (p + 1) c' (if n = 0 then k else a1) (if n = 1 then k else a2) _ (by omega) (by omega) (gup_s _ _ _) (hv2.kp hk3 (nm2 C.1 B.1) (nm2 C.2.1 B.2.1) (nm2 C.2.2.1 B.2.2.1)) (ht2.kp hk3 (nm2 C.2.2.2.1 B.2.2.2.1) (nm2 C.2.2.2.2.1 B.2.2.2.2.1)) ((hk3 l (nm2 C.2.2.2.2.2 B.2.2.2.2.2.1)).trans hl2) ⟨va_up fg n (nI k), (gup_n B.2.2.2.2.2.2).trans (gup_s _ _ _), ?_, ?_, ?_⟩ q)
              · rintro o h' ⟨v, rfl, hp⟩
                exact ⟨_, rfl, hp.more ((hk2.mono (by simp)).tr (hk3.mono (by simp)))⟩
              · intro _
                unfold va_up
                by_cases en : n = 0
                · rw [if_pos en.symm, if_pos en]
                · rw [if_neg (Ne.symm en), if_neg en]
                  exact g2 (by omega)
              · intro hn1
                unfold va_up
                by_cases en : n = 1
                · rw [if_pos en.symm, if_pos en]
                · rw [if_neg (Ne.symm en), if_neg en]
                  exact g3 (by omega)
              · intro j hj
                unfold va_up
                by_cases ej : j = n
                · rw [if_pos ej]
                  exact ⟨k, hk6, rfl⟩
                · rw [if_neg ej]
                  exact g4 j hj
            · have e : rdA tx w (r + 1) n p c a1 a2 = (false, n, p, c', a1, a2) := by
                conv => lhs; unfold rdA
                rw [ea]
                dsimp only
                rw [← hc', if_pos (show 12 < atc w c' from q)]
              rw [e]
              refine g_iconst (v := nI 0) d_Rd_readArguments_90 (by decide) ?_
              refine g_ret_i d_Rd_readArguments_91 rfl rfl ⟨_, rfl, ?_⟩
              exact ⟨rfl, h12, hv2, hg2, hk2.mono (by simp)⟩
          refine g_icmpN_ge (tgt := 78) d_Rd_readArguments_66 (by decide) (rfl) (rfl) (by omega) (by decide) (fun q => ?_) (fun q => ?_)
          · exact two c h (by rw [if_neg (by omega)]) hR hv gKp.rf
          · refine g_aload_n d_Rd_readArguments_69 rfl ?_
            refine g_get d_Rd_readArguments_70 f_Rd_12 (hR) rfl ?_
            refine g_iload d_Rd_readArguments_73 rfl ?_
            refine g_callX (c_Voc_addConstant hst hv.u q) gm_Voc_addConstant d_Rd_readArguments_75 (gInv_v (As := [.int (nI k)]) (rest := []) d_Rd_readArguments_75 gm_Voc_addConstant gv_Rd_86 (w4) rfl) (Nat.le_of_ble_eq_true rfl) (Nat.le_of_ble_eq_true rfl) (Nat.le_of_ble_eq_true rfl) (Nat.le_of_ble_eq_true rfl) (Nat.le_of_ble_eq_true rfl) (fun v h1 hp => ?_)
            obtain ⟨rfl, hv1, hk1⟩ := hp
            exact two (c ||| 2 ^ k) h1 (by rw [if_pos q]) ((hk1 a A1).trans hR) hv1 hk1
