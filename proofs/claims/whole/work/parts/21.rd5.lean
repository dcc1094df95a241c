/-! ===== Reader.findFault ===== -/
theorem rdO_1 {a va vaa vfa ca j : Nat} {L G : Nat → Nat} (hj : j < 48) : ∀ x ∈ [a, va, vaa, vfa, ca, L j, G j], rdO a va vaa vfa ca L G x := by
  intro x hx
  simp only [List.mem_cons, List.not_mem_nil, or_false] at hx
  unfold rdO
  simp only [List.mem_cons, List.not_mem_nil, or_false]
  rcases hx with e | e | e | e | e | e | e
  · exact Or.inl (Or.inl e)
  · exact Or.inl (Or.inr (Or.inl e))
  · exact Or.inl (Or.inr (Or.inr (Or.inl e)))
  · exact Or.inl (Or.inr (Or.inr (Or.inr (Or.inl e))))
  · exact Or.inl (Or.inr (Or.inr (Or.inr (Or.inr e))))
  · exact Or.inr ⟨j, hj, Or.inl e⟩
  · exact Or.inr ⟨j, hj, Or.inr e⟩
theorem gTx.P {h h' : gH} {a ca : Nat} {tx : List Nat} {P : Nat → Prop} (ht : gTx h a ca tx) (hk : gKP h h' P) (h1 : ¬ P a) (h2 : ¬ P ca) : gTx h' a ca tx := by
  obtain ⟨f, q1, q2, q3⟩ := ht
  exact ⟨f, (hk a h1).trans q1, (hk ca h2).trans q2, q3⟩
/-- what a reader leaves when it has gone through a text -/
def rfP (h : gH) (a va vaa vfa la ca : Nat) (L G : Nat → Nat) (z : Option Nat × Nat × Nat × (Nat → Int32) × (Nat → Nat) × (Nat → gLD)) (v : Option Value) (h' : gH) : Prop :=
  v = some (.int (rcv z.1)) ∧ (z.1 ≠ none → gRu h' a va vaa vfa la ca L G) ∧ (z.1 = none → gRd h' a va vaa vfa la ca L G z.2.1 z.2.2.1 z.2.2.2.1 z.2.2.2.2.1 z.2.2.2.2.2) ∧ gKP h h' (rdO a va vaa vfa ca L G)
theorem rfP.more {h h1 : gH} {a va vaa vfa la ca : Nat} {L G : Nat → Nat} {z : Option Nat × Nat × Nat × (Nat → Int32) × (Nat → Nat) × (Nat → gLD)} {v : Option Value} {h' : gH} (hk : gKP h h1 (rdO a va vaa vfa ca L G)) (hp : rfP h1 a va vaa vfa la ca L G z v h') : rfP h a va vaa vfa la ca L G z v h' := ⟨hp.1, hp.2.1, hp.2.2.1, hk.tr hp.2.2.2⟩
theorem l_Rd_findFault {K : gK} (hst : K.1.stackTraces = false) {a va vaa vfa la ca ta tca : Nat} {L G : Nat → Nat} {tx : List Nat} (nta : ¬ rdO a va vaa vfa ca L G ta) (ntc : ¬ rdO a va vaa vfa ca L G tca) : ∀ (r i k p c : Nat) (w : Nat → Int32) (sz : Nat → Nat) (lt : Nat → gLD) (h : gH), i + r = 48 → 1 ≤ k ∧ k ≤ 12 → p ≤ tx.length → h a = some (.inr (4, [.ref va, .ref la, .ref ca, .int (nI k), .int (nI p)])) → gVc h va vaa vfa w c → gSz h ca sz → gLs h la L G → gLd h L G sz lt → gTx h ta tca tx → atc w c ≤ 12 → (∀ j, sz j ≤ 4 ∧ (k ≤ j → sz j = 0)) → sz (k - 1) < 4 →
    Go K M_Rd_findFault r_Rd_findFault 27 [(0, .ref a), (1, .ref ta), (2, .int (nI i))] [] h 0 0 (gRx (rfP h a va vaa vfa la ca L G (rdG tx r k p c w sz lt))) := by
  intro r
  induction r with
  | zero =>
    intro i k p c w sz lt h hi hk hp hR hv hs hl hd ht hc hsz hs4
    obtain ⟨⟨fl, l1, l2⟩, -⟩ := id hl
    have h96 : tx.length ≤ 96 := ht.choose_spec.2.2.1
    refine g_iload_n d_Rd_findFault_27 rfl ?_
    refine g_aload_n d_Rd_findFault_28 rfl ?_
    refine g_get d_Rd_findFault_29 f_Rd_20 (hR) rfl ?_
    refine g_alen d_Rd_findFault_32 (by decide) (l1) ?_
    refine g_icmpN_ge (tgt := 81) d_Rd_findFault_33 (by decide) (rfl) (rfl) (by omega) (by decide) (fun q => ?_) (fun q => ?_)
    · refine g_aload_n d_Rd_findFault_81 rfl ?_
      refine g_get d_Rd_findFault_82 f_Rd_29 (hR) rfl ?_
      refine g_ret_i d_Rd_findFault_85 rfl rfl ⟨_, rfl, ?_⟩
      exact ⟨rfl, fun _ => ⟨⟨_, _, hR⟩, ⟨_, _, hv.u⟩, ⟨_, hs.choose_spec.1⟩, hl⟩, fun z => (by cases z), gKP.rf⟩
    · omega
  | succ r ih =>
    intro i k p c w sz lt h hi hk hp hR hv hs hl hd ht hc hsz hs4
    obtain ⟨⟨fl, l1, l2⟩, l3, -⟩ := id hl
    have h96 : tx.length ≤ 96 := ht.choose_spec.2.2.1
    have hj : 4 * (k - 1) + sz (k - 1) < 48 := by omega
    obtain ⟨k1, k2⟩ := rdL_ok (tx := tx) (w := w) (c := c) hp hc
    refine g_iload_n d_Rd_findFault_27 rfl ?_
    refine g_aload_n d_Rd_findFault_28 rfl ?_
    refine g_get d_Rd_findFault_29 f_Rd_20 (hR) rfl ?_
    refine g_alen d_Rd_findFault_32 (by decide) (l1) ?_
    refine g_icmpN_ge (tgt := 81) d_Rd_findFault_33 (by decide) (rfl) (rfl) (by omega) (by decide) (fun q => ?_) (fun q => ?_)
    · omega
    · refine g_aload_n d_Rd_findFault_36 rfl ?_
      refine g_aload_n d_Rd_findFault_37 rfl ?_
      refine g_callX (c_Rd_readLiteral hst hk hp hR hv ht hs hs4 l1 (l2 _ hj) (l3 _ hj) hc) gm_Rd_readLiteral d_Rd_findFault_38 (gInv_v (As := [.ref ta]) (rest := []) d_Rd_findFault_38 gm_Rd_readLiteral gv_Rd_45 (hR) rfl) (Nat.le_of_ble_eq_true rfl) (Nat.le_of_ble_eq_true rfl) (Nat.le_of_ble_eq_true rfl) (Nat.le_of_ble_eq_true rfl) (Nat.le_of_ble_eq_true rfl) (fun v h1 hp => ?_)
      obtain ⟨hv1, e1, e2, e3, e4, e5, e6⟩ := hp
      obtain ⟨n1, n2⟩ := hl.rd hj hR hv.u hs (e6.mono (by simp)) e3
      have kP : gKP h h1 (rdO a va vaa vfa ca L G) := (e6.mono (L' := [a, va, vaa, vfa, ca, L (4 * (k - 1) + sz (k - 1)), G (4 * (k - 1) + sz (k - 1))]) (by simp)).P (rdO_1 hj)
      have t1 := ht.P kP nta ntc
      subst hv1
      unfold rdG
      by_cases good : (rdL tx w c p).1 = false
      · rw [if_pos good, good]
        refine g_if_ne (tgt := 49) d_Rd_findFault_41 (by decide) (fun q => ?_) (fun q => ?_)
        · exact absurd rfl q
        · refine g_aload_n d_Rd_findFault_44 rfl ?_
          refine g_get d_Rd_findFault_45 f_Rd_29 (e1) rfl ?_
          refine g_ret_i d_Rd_findFault_48 rfl rfl ⟨_, rfl, ?_⟩
          exact ⟨rfl, fun _ => ⟨⟨_, _, e1⟩, ⟨_, _, e2.u⟩, ⟨_, e5.choose_spec.choose_spec.1⟩, n1⟩, fun z => (by cases z), kP⟩
      · have g1 : (rdL tx w c p).1 = true := by simpa using good
        obtain ⟨r1, r2⟩ := e4 g1
        obtain ⟨k3, k4⟩ := k2 g1
        have nd : gLd h1 L G (va_up sz (k - 1) (sz (k - 1) + 1)) (va_up lt (4 * (k - 1) + sz (k - 1)) (rdL tx w c p).2.2.2.2) := by
          intro i' hi' j' hj'
          by_cases e : 4 * i' + j' = 4 * (k - 1) + sz (k - 1)
          · rw [e]
            unfold va_up
            rw [if_pos rfl]
            exact r1
          · have hb : j' < sz i' := by
              unfold va_up at hj'
              by_cases ei : i' = k - 1
              · rw [if_pos ei] at hj'
                subst ei
                omega
              · rw [if_neg ei] at hj'
                exact hj'
            have h4 := (hsz i').1
            have hlt : va_up lt (4 * (k - 1) + sz (k - 1)) (rdL tx w c p).2.2.2.2 (4 * i' + j') = lt (4 * i' + j') := by
              unfold va_up
              rw [if_neg e]
            rw [hlt]
            obtain ⟨s1, s2⟩ := n2 (4 * i' + j') (by omega) e
            obtain ⟨m1, f, m2⟩ := hd i' hi' j' hb
            exact ⟨s1.trans m1, f, s2.trans m2.1, m2.2⟩
        rw [if_neg good, g1]
        refine g_if_ne (tgt := 49) d_Rd_findFault_41 (by decide) (fun q => ?_) (fun q => ?_)
        · refine g_aload_n d_Rd_findFault_49 rfl ?_
          refine g_get d_Rd_findFault_50 f_Rd_29 (e1) rfl ?_
          refine g_aload_n d_Rd_findFault_53 rfl ?_
          refine g_get d_Rd_findFault_54 f_Rd_49 (t1.choose_spec.1) rfl ?_
          by_cases fin : (rdL tx w c p).2.1 = tx.length
          · rw [if_pos fin, fin]
            refine g_icmp_ne (tgt := 62) d_Rd_findFault_57 (by decide) (fun q => ?_) (fun q => ?_)
            · exact absurd rfl (by assumption)
            · refine g_iconst (v := -1) d_Rd_findFault_60 (by decide) ?_
              refine g_ret_i d_Rd_findFault_61 rfl rfl ⟨_, rfl, ?_⟩
              exact ⟨rfl, fun z => absurd rfl z, fun _ => ⟨⟨_, e1⟩, e2, r2, n1, nd⟩, kP⟩
          · rw [if_neg fin]
            refine g_icmpN_ne (tgt := 62) d_Rd_findFault_57 (by decide) (rfl) (rfl) (by omega) (by omega) (fun q => ?_) (fun q => ?_)
            · refine g_aload_n d_Rd_findFault_62 rfl ?_
              refine g_aload_n d_Rd_findFault_63 rfl ?_
              have hz1 : va_up sz (k - 1) (sz (k - 1) + 1) (k - 1) = sz (k - 1) + 1 := by
                unfold va_up
                rw [if_pos rfl]
              have con := c_Rd_readJoint hst hk k1 e1 t1 r2 (by rw [hz1]; omega)
              rw [hz1] at con
              refine g_callR (con) gm_Rd_readJoint d_Rd_findFault_64 (gInv_v (As := [.ref ta]) (rest := []) d_Rd_findFault_64 gm_Rd_readJoint gv_Rd_54 (e1) rfl) (Nat.le_of_ble_eq_true rfl) (Nat.le_of_ble_eq_true rfl) (Nat.le_of_ble_eq_true rfl) (Nat.le_of_ble_eq_true rfl) (Nat.le_of_ble_eq_true rfl) ?_
              cases ej : rdJ tx k (rdL tx w c p).2.1 (sz (k - 1) + 1) with
              | none =>
                refine g_if_ne (tgt := 75) d_Rd_findFault_67 (by decide) (fun q => ?_) (fun q => ?_)
                · exact absurd rfl (by assumption)
                · refine g_aload_n d_Rd_findFault_70 rfl ?_
                  refine g_get d_Rd_findFault_71 f_Rd_29 (e1) rfl ?_
                  refine g_ret_i d_Rd_findFault_74 rfl rfl ⟨_, rfl, ?_⟩
                  exact ⟨rfl, fun _ => ⟨⟨_, _, e1⟩, ⟨_, _, e2.u⟩, ⟨_, e5.choose_spec.choose_spec.1⟩, n1⟩, fun z => (by cases z), kP⟩
              | some k' =>
                refine g_if_ne (tgt := 75) d_Rd_findFault_67 (by decide) (fun q => ?_) (fun q => ?_)
                · refine g_iinc d_Rd_findFault_75 rfl (nI_inc _) (Nat.le_of_ble_eq_true rfl) rfl ?_
                  refine g_goto (tgt := 27) d_Rd_findFault_78 (by decide) ?_
                  have hk' : (k' = k + 1 ∧ k < 12) ∨ (k' = k ∧ sz (k - 1) + 1 < 4) := by
                    unfold rdJ at ej
                    split at ej
                    · rename_i z
                      exact Or.inl ⟨(Option.some.inj ej).symm, z.2⟩
                    · split at ej
                      · rename_i z
                        exact Or.inr ⟨(Option.some.inj ej).symm, z.2⟩
                      · cases ej
                  have hne : tx.getD (rdL tx w c p).2.1 0 ≠ 0 := by
                    unfold rdJ at ej
                    intro z0
                    rw [z0, if_neg (by simp), if_neg (by simp)] at ej
                    cases ej
                  have hlt := getD_len hne
                  have kq : gKp h1 (rdJh h1 a va la ca k (rdL tx w c p).2.1 (some k')) [a] := gKp.rf.up (by simp)
                  obtain ⟨-, -, -, f, q4, q5, q6, -⟩ := id e2
                  obtain ⟨fs, z1, z2⟩ := id r2
                  have kQ : gKP h (rdJh h1 a va la ca k (rdL tx w c p).2.1 (some k')) (rdO a va vaa vfa ca L G) := kP.tr (kq.P (fun x hx => Or.inl (by simp only [List.mem_singleton] at hx; rw [hx]; simp)))
                  have nLG : ∀ j, j < 48 → L j ∉ [a] ∧ G j ∉ [a] := by
                    intro j hj1
                    obtain ⟨b1, p1, m1, y2, m2, -⟩ := n1.2.1 j hj1
                    exact ⟨by simp [gne m1 e1 (by simp)], by simp [gne m2 e1 (by simp)]⟩
                  refine g_post (fun o h' z => ?_) (ih (i + 1) k' ((rdL tx w c p).2.1 + 1) _ _ (va_up sz (k - 1) (sz (k - 1) + 1)) (va_up lt (4 * (k - 1) + sz (k - 1)) (rdL tx w c p).2.2.2.2) _ (by omega) (by omega) hlt (gup_s _ _ _) (e2.kp kq (by simp [gne q4 e1 (by simp)]) (by simp [gne q5 e1 (by simp)]) (by simp [gne q6 e1 (by simp)])) (r2.kp kq (by simp [gne z1 e1 (by simp)])) ?_ ?_ (ht.P kQ nta ntc) k4 ?_ ?_)
                  · obtain ⟨v, z1, z2⟩ := z
                    exact ⟨v, z1, z2.more kQ⟩
                  · obtain ⟨⟨fl', l1', l2'⟩, l3', l4', l5'⟩ := id n1
                    refine ⟨⟨fl', (kq la (by simp [gne l1' e1 (by simp)])).trans l1', l2'⟩, fun j hj1 => ?_, l4', l5'⟩
                    obtain ⟨b1, p1, m1, y2, m2⟩ := l3' j hj1
                    obtain ⟨o1, o2⟩ := nLG j hj1
                    exact ⟨b1, p1, (kq _ o1).trans m1, y2, (kq _ o2).trans m2.1, m2.2⟩
                  · intro i' hi' j' hj'
                    obtain ⟨m1, f', m2⟩ := nd i' hi' j' hj'
                    have h4 : j' < 4 := by
                      have := (hsz i').1
                      unfold va_up at hj'
                      split at hj'
                      · rename_i ei
                        subst ei
                        omega
                      · omega
                    obtain ⟨o1, o2⟩ := nLG (4 * i' + j') (by omega)
                    exact ⟨(kq _ o1).trans m1, f', (kq _ o2).trans m2.1, m2.2⟩
                  · intro j
                    have := hsz j
                    unfold va_up
                    split
                    · rename_i ei
                      subst ei
                      omega
                    · omega
                  · unfold va_up
                    split
                    · omega
                    · have := (hsz (k' - 1)).2 (by omega)
                      omega
                · exact absurd (by assumption) (show ¬ bI (some k').isSome = 0 from (by decide : ¬ bI true = 0))
            · exact absurd (by assumption) fin
        · exact absurd q (by decide)
theorem c_Rd_findFault {K : gK} {h : gH} (hst : K.1.stackTraces = false) {a va vaa vfa la ca ta tca : Nat} {L G : Nat → Nat} {tx : List Nat} (nta : ¬ rdO a va vaa vfa ca L G ta) (ntc : ¬ rdO a va vaa vfa ca L G tca) (hr : gRu h a va vaa vfa la ca L G) (ht : gTx h ta tca tx) :
    Ct K r_Rd_findFault M_Rd_findFault [.ref a, .ref ta] h (gRx fun v h' => ∃ w, (∀ p, p < 4 → w p = -1) ∧ rfP h a va vaa vfa la ca L G (rdG tx 48 1 0 0 w (fun _ => 0) (fun _ => (false, 0, 0, 0, 0))) v h') := by
  obtain ⟨⟨k0, p0, hR⟩, ⟨w0, c0, hv⟩, ⟨f0, hs⟩, hl⟩ := hr
  refine Ct.of hst (by decide) (Or.inl rfl) (Nat.le_of_ble_eq_true rfl) ?_
  obtain ⟨hw0, hc0, hne0, f, u3, u4, q4, q5, q6⟩ := id hv
  refine g_aload_n d_Rd_findFault_0 rfl ?_
  refine g_iconst (v := nI 0) d_Rd_findFault_1 (by decide) ?_
  refine g_put (fs' := [_, _, _, _, _]) d_Rd_findFault_2 f_Rd_29 (hR) rfl rfl (Nat.le_of_ble_eq_true rfl) rfl ?_
  refine g_aload_n d_Rd_findFault_5 rfl ?_
  refine g_get d_Rd_findFault_6 f_Rd_12 (gup_s _ _ _) rfl ?_
  have k1 : gKp h (gup h a (.inr (4, [.ref va, .ref la, .ref ca, .int k0, .int (nI 0)]))) [a] := gKp.rf.up (by simp)
  have n4 := gne q4 hR (by simp)
  have n5 := gne q5 hR (by simp)
  have n6 := gne q6 hR (by simp)
  have ns := gne hs hR (by simp)
  have v1 : gVu (gup h a (.inr (4, [.ref va, .ref la, .ref ca, .int k0, .int (nI 0)]))) va vaa vfa w0 c0 := ⟨hw0, hc0, hne0, f, u3, u4, (gup_n n4).trans q4, (gup_n n5).trans q5, (gup_n n6).trans q6⟩
  refine g_callX (c_Voc_clear hst v1) gm_Voc_clear d_Rd_findFault_9 (gInv_v (As := []) (rest := []) d_Rd_findFault_9 gm_Voc_clear gv_Rd_33 ((gup_n n4).trans q4) rfl) (Nat.le_of_ble_eq_true rfl) (Nat.le_of_ble_eq_true rfl) (Nat.le_of_ble_eq_true rfl) (Nat.le_of_ble_eq_true rfl) (Nat.le_of_ble_eq_true rfl) (fun v h1 hp => ?_)
  obtain ⟨rfl, w, hw, v2, k2⟩ := hp
  have na : a ∉ [va, vaa, vfa] := nm3 (Ne.symm n4) (Ne.symm n5) (Ne.symm n6)
  have nc : ca ∉ [va, vaa, vfa] := nm3 (gne hs q4 (by simp)) (gne hs q5 (by simp)) (gne hs q6 (by simp))
  have r2 : h1 a = some (.inr (4, [.ref va, .ref la, .ref ca, .int k0, .int (nI 0)])) := (k2 a na).trans (gup_s _ _ _)
  have s2 : h1 ca = some (.inl (0, 12, .inl f0)) := (k2 ca nc).trans ((gup_n ns).trans hs)
  refine g_aload_n d_Rd_findFault_12 rfl ?_
  refine g_get d_Rd_findFault_13 f_Rd_24 (r2) rfl ?_
  refine g_iconst (v := nI 0) d_Rd_findFault_16 (by decide) ?_
  refine g_callR (c_fillI hst (by decide) (nI 0) s2) gm_Arr_fillI d_Rd_findFault_17 (gInv_s (As := [.ref ca, .int (nI 0)]) (rest := []) d_Rd_findFault_17 gm_Arr_fillI gs_Rd_36) (Nat.le_of_ble_eq_true rfl) (Nat.le_of_ble_eq_true rfl) (Nat.le_of_ble_eq_true rfl) (Nat.le_of_ble_eq_true rfl) (Nat.le_of_ble_eq_true rfl) ?_
  refine g_aload_n d_Rd_findFault_20 rfl ?_
  refine g_iconst (v := nI 1) d_Rd_findFault_21 (by decide) ?_
  refine g_put (fs' := [_, _, _, _, _]) d_Rd_findFault_22 f_Rd_42 ((gup_n (Ne.symm ns)).trans r2) rfl rfl (Nat.le_of_ble_eq_true rfl) rfl ?_
  refine g_iconst (v := nI 0) d_Rd_findFault_25 (by decide) ?_
  refine g_istore_n d_Rd_findFault_26 rfl (Nat.le_of_ble_eq_true rfl) rfl ?_
  generalize hh3 : gup (gup h1 ca (.inl (0, 12, .inl (fun j => if j < 12 then nI 0 else f0 j)))) a (.inr (4, [.ref va, .ref la, .ref ca, .int (nI 1), .int (nI 0)])) = h3
  have k3 : gKp h1 h3 [ca, a] := by
    rw [← hh3]
    exact (gKp.rf.up (by simp)).up (by simp)
  obtain ⟨-, -, -, f1, b4, b5, b6, -⟩ := id v2
  have v3 : gVc h3 va vaa vfa w 0 := v2.kp k3 (nm2 (gne b4 s2 (by simp)) n4) (nm2 (gne b5 s2 (by simp)) n5) (nm2 (gne b6 s2 (by simp)) n6)
  have r3 : h3 a = some (.inr (4, [.ref va, .ref la, .ref ca, .int (nI 1), .int (nI 0)])) := by
    rw [← hh3]
    exact gup_s _ _ _
  have s3 : gSz h3 ca (fun _ => 0) := ⟨_, by rw [← hh3, gup_n ns, gup_s], fun j hj => by rw [if_pos hj]⟩
  have kall : gKp h h3 [a, va, vaa, vfa, ca] := ((k1.mono (by simp)).tr (k2.mono (by simp))).tr (k3.mono (by simp))
  have kP : gKP h h3 (rdO a va vaa vfa ca L G) := kall.P fun x hx => Or.inl hx
  have t3 := ht.P kP nta ntc
  have l3 : gLs h3 la L G := by
    obtain ⟨⟨fl, l1, l2⟩, l3, l4, l5⟩ := hl
    have nn : ∀ {x : Nat} {e : gE}, h x = some e → some e ≠ h a → some e ≠ h va → some e ≠ h vaa → some e ≠ h vfa → some e ≠ h ca → x ∉ [a, va, vaa, vfa, ca] := by
      intro x e he e1 e2 e3 e4 e5 hx
      rw [← he] at e1 e2 e3 e4 e5
      simp only [List.mem_cons, List.not_mem_nil, or_false] at hx
      rcases hx with z | z | z | z | z <;> rw [z] at e1 e2 e3 e4 e5 <;> first | exact e1 rfl | exact e2 rfl | exact e3 rfl | exact e4 rfl | exact e5 rfl
    refine ⟨⟨fl, (kall la (nn l1 ?_ ?_ ?_ ?_ ?_)).trans l1, l2⟩, fun j hj => ?_, l4, l5⟩
    · rw [hR]; simp
    · rw [q4]; simp
    · rw [q5]; simp
    · rw [q6]; simp
    · rw [hs]; simp
    · obtain ⟨b1, p1, m1, y2, m2⟩ := l3 j hj
      refine ⟨b1, p1, (kall _ (nn m1 ?_ ?_ ?_ ?_ ?_)).trans m1, y2, (kall _ (nn m2.1 ?_ ?_ ?_ ?_ ?_)).trans m2.1, m2.2⟩
      · rw [hR]; simp
      · rw [q4]; simp
      · rw [q5]; simp
      · rw [q6]; simp
      · rw [hs]; simp
      · rw [hR]; simp
      · rw [q4]; simp
      · rw [q5]; simp
      · rw [q6]; simp
      · rw [hs]; simp
  have h12 : atc w 0 ≤ 12 := by
    unfold atc
    simp only [fat, hw 0 (by decide), hw 1 (by decide), hw 2 (by decide), hw 3 (by decide)]
    decide
  refine g_post (fun o h' z => ?_) (l_Rd_findFault hst nta ntc 48 0 1 0 0 w (fun _ => 0) (fun _ => (false, 0, 0, 0, 0)) h3 rfl (by decide) (Nat.zero_le _) r3 v3 s3 l3 (fun i hi j hj => absurd hj (Nat.not_lt_zero _)) t3 h12 (fun j => ⟨by decide, fun _ => rfl⟩) (by decide))
  obtain ⟨v, z1, z2⟩ := z
  exact ⟨v, z1, w, hw, z2.more kP⟩
