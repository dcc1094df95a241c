/-! ===== Vocabulary ===== -/
theorem g_max {K : gK} {M : gM} {R : Room} {pc : Nat} {lv : List (Nat × Value)} {st : List Value} {h : gH} {kc ks : Nat} {Q : Outcome → gH → Prop} {idx x y : Nat} (hx : x < 2 ^ 31) (hy : y < 2 ^ 31) (hd : decode M.2.1 pc = .ok (.invokestatic idx, 3)) (hl : Cond.methodLink M.1.cls idx Lib.Math.max.name ∈ gW) (hf : 1 ≤ R.frames) (hlo : (st.map fun v => v.category).sum + 13 ≤ R.locals) (k : Go K M R (pc + 3) lv (.int (nI (max x y)) :: st) h kc ks Q) : Go K M R pc lv (.int (nI y) :: .int (nI x) :: st) h kc ks Q := by
  intro p e s m args below meth c Z H locs cells slots ls C N hP hS hl9 h1 h2
  have k := k p e s m args below meth c Z H locs cells slots ls C N hP hS hl9 h1 h2
  obtain ⟨hx9, hb, hml, -, -, -, hown, -, hTs, -⟩ := C
  refine va_mmax hx9 hb (hml.trans hl9.1.symm) hown (gT.word hTs hl args) (gT.word hTs w_2_122 args) (gT.word hTs w_1_13 args) (gT.word hTs w_2_123 args) hf hlo (by omega) (by omega) hd ?_
  have e : (if nI x < nI y then nI y else nI x) = nI (max x y) := by
    by_cases q : x < y
    · rw [if_pos ((nI_ltI hx hy).mpr q), Nat.max_eq_right (Nat.le_of_lt q)]
    · rw [if_neg (fun z => q ((nI_ltI hx hy).mp z)), Nat.max_eq_left (Nat.not_lt.mp q)]
  rw [e]
  exact k
/-- how many atoms a predicate of width x makes over n things -/
def cnt (n : Nat) (x : Int32) : Nat := if x = 0 then 1 else if x = 1 then n else if x = 2 then n * n else 0
def wok (w : Nat → Int32) : Prop := ∀ p, p < 4 → w p = -1 ∨ w p = 0 ∨ w p = 1 ∨ w p = 2
/-- how many things a set of constants makes -/
def tcn (c : Nat) : Nat := max 1 (pc3 c)
/-- the atoms of the predicates below p -/
def fat (n : Nat) (w : Nat → Int32) : Nat → Nat
  | 0 => 0
  | p + 1 => fat n w p + cnt n (w p)
theorem pc3_le : ∀ c, pc3 c ≤ 3 := fun c => by unfold pc3; omega
theorem tcn_le (c : Nat) : tcn c ≤ 3 := by have := pc3_le c; unfold tcn; omega
theorem tcn_pos (c : Nat) : 1 ≤ tcn c := by unfold tcn; omega
theorem c_Voc_countAtoms {K : gK} {h : gH} (hst : K.1.stackTraces = false) {a : Nat} {v0 v1 v2 v4 : Value} {n : Nat} (h1 : h a = some (.inr (2, [v0, v1, v2, .int (nI n), v4]))) {x : Int32} (hx : x = -1 ∨ x = 0 ∨ x = 1 ∨ x = 2) : Ct K r_Voc_countAtoms M_Voc_countAtoms [.ref a, .int x] h (gRt (some (.int (nI (cnt n x)))) h) := by
  refine Ct.of hst (by decide) (Or.inl rfl) (Nat.le_of_ble_eq_true rfl) ?_
  refine g_iload_n d_Voc_countAtoms_0 rfl ?_
  rcases hx with rfl | rfl | rfl | rfl
  · refine g_tabOut (tgt := 45) d_Voc_countAtoms_1 (Or.inl (by decide)) (by decide) ?_
    refine g_iconst (v := nI 0) d_Voc_countAtoms_45 (by decide) ?_
    exact g_ret_i d_Voc_countAtoms_46 rfl rfl ⟨rfl, rfl⟩
  · refine g_tabIn (tgt := 28) d_Voc_countAtoms_1 (by decide) (by decide) rfl (by decide) ?_
    refine g_iconst (v := nI 1) d_Voc_countAtoms_28 (by decide) ?_
    exact g_ret_i d_Voc_countAtoms_29 rfl rfl ⟨rfl, rfl⟩
  · refine g_tabIn (tgt := 30) d_Voc_countAtoms_1 (by decide) (by decide) rfl (by decide) ?_
    refine g_aload_n d_Voc_countAtoms_30 rfl ?_
    refine g_get d_Voc_countAtoms_31 f_Voc_43 (h1) rfl ?_
    exact g_ret_i d_Voc_countAtoms_34 rfl rfl ⟨rfl, rfl⟩
  · refine g_tabIn (tgt := 35) d_Voc_countAtoms_1 (by decide) (by decide) rfl (by decide) ?_
    refine g_aload_n d_Voc_countAtoms_35 rfl ?_
    refine g_get d_Voc_countAtoms_36 f_Voc_43 (h1) rfl ?_
    refine g_aload_n d_Voc_countAtoms_39 rfl ?_
    refine g_get d_Voc_countAtoms_40 f_Voc_43 (h1) rfl ?_
    refine g_imul d_Voc_countAtoms_43 ?_
    rw [pk_mul]
    exact g_ret_i d_Voc_countAtoms_44 rfl rfl ⟨rfl, rfl⟩
theorem l_Voc_recount {K : gK} (hst : K.1.stackTraces = false) {a aa fa n : Nat} {v2 : Value} {w : Nat → Int32} (hw : wok w) : ∀ (r p : Nat) (h : gH) (f : Nat → Int32), p + r = 4 → h a = some (.inr (2, [.ref aa, .ref fa, v2, .int (nI n), .int (nI (fat n w p))])) → h aa = some (.inl (0, 4, .inl w)) → h fa = some (.inl (0, 4, .inl f)) → aa ≠ fa → Go K M_Voc_recount r_Voc_recount 22 [(0, .ref a), (1, .int (nI p))] [] h 0 0 (gRx fun v h' => v = none ∧ ∃ f' : Nat → Int32, h' = gup (gup h fa (.inl (0, 4, .inl f'))) a (.inr (2, [.ref aa, .ref fa, v2, .int (nI n), .int (nI (fat n w 4))])) ∧ (∀ q, q < p → f' q = f q) ∧ ∀ q, p ≤ q → q < 4 → f' q = nI (fat n w q)) := by
  intro r
  induction r with
  | zero =>
    intro p h f hp h1 h2 h3 hne
    have e4 : p = 4 := by omega
    subst e4
    have hfa : fa ≠ a := gne h3 h1 (by simp)
    refine g_iload_n d_Voc_recount_22 rfl ?_
    refine g_iconst (v := nI 4) d_Voc_recount_23 (by decide) ?_
    refine g_icmpN_ge (tgt := 62) d_Voc_recount_24 (by decide) (rfl) (rfl) (by omega) (by omega) (fun q => ?_) (fun q => ?_)
    · refine g_ret_v d_Voc_recount_62 rfl ⟨_, rfl, rfl, f, ?_, fun q _ => rfl, fun q _ _ => by omega⟩
      rw [gup_id h3, gup_id h1]
    · omega
  | succ r ih =>
    intro p h f hp h1 h2 h3 hne
    have haf : a ≠ fa := gne h1 h3 (by simp)
    have haa : aa ≠ a := gne h2 h1 (by simp)
    refine g_iload_n d_Voc_recount_22 rfl ?_
    refine g_iconst (v := nI 4) d_Voc_recount_23 (by decide) ?_
    refine g_icmpN_ge (tgt := 62) d_Voc_recount_24 (by decide) (rfl) (rfl) (by omega) (by omega) (fun q => ?_) (fun q => ?_)
    · omega
    · refine g_aload_n d_Voc_recount_27 rfl ?_
      refine g_get d_Voc_recount_28 f_Voc_15 (h1) rfl ?_
      refine g_iload_n d_Voc_recount_31 rfl ?_
      refine g_aload_n d_Voc_recount_32 rfl ?_
      refine g_get d_Voc_recount_33 f_Voc_59 (h1) rfl ?_
      refine g_iast d_Voc_recount_36 (h3) (rfl) (q) (by decide) ?_
      refine g_aload_n d_Voc_recount_37 rfl ?_
      refine g_dup d_Voc_recount_38 rfl ?_
      refine g_get d_Voc_recount_39 f_Voc_59 ((gup_n haf).trans h1) rfl ?_
      refine g_aload_n d_Voc_recount_42 rfl ?_
      refine g_aload_n d_Voc_recount_43 rfl ?_
      refine g_get d_Voc_recount_44 f_Voc_9 ((gup_n haf).trans h1) rfl ?_
      refine g_iload_n d_Voc_recount_47 rfl ?_
      refine g_iald d_Voc_recount_48 ((gup_n hne).trans h2) (rfl) (q) (by decide) ?_
      refine g_callR (c_Voc_countAtoms hst ((gup_n haf).trans h1) (hw p q)) gm_Voc_countAtoms d_Voc_recount_49 (gInv_v (As := [.int (w p)]) (rest := [.int (nI (fat n w p)), .ref a]) d_Voc_recount_49 gm_Voc_countAtoms gv_Voc_62 ((gup_n haf).trans h1) rfl) (Nat.le_of_ble_eq_true rfl) (Nat.le_of_ble_eq_true rfl) (Nat.le_of_ble_eq_true rfl) (Nat.le_of_ble_eq_true rfl) (Nat.le_of_ble_eq_true rfl) ?_
      refine g_iadd d_Voc_recount_52 ?_
      refine g_put (fs' := [_, _, _, _, _]) d_Voc_recount_53 f_Voc_59 ((gup_n haf).trans h1) rfl rfl (Nat.le_of_ble_eq_true rfl) rfl ?_
      refine g_iinc d_Voc_recount_56 rfl (nI_inc _) (Nat.le_of_ble_eq_true rfl) rfl ?_
      refine g_goto (tgt := 22) d_Voc_recount_59 (by decide) ?_
      rw [nI_add]
      have e1 : gup (gup h fa (.inl (0, 4, .inl (va_up f p (nI (fat n w p)))))) a (.inr (2, [.ref aa, .ref fa, v2, .int (nI n), .int (nI (fat n w p + cnt n (w p)))])) a = some (.inr (2, [.ref aa, .ref fa, v2, .int (nI n), .int (nI (fat n w (p + 1)))])) := gup_s _ _ _
      refine g_post ?_ (ih (p + 1) _ (va_up f p (nI (fat n w p))) (by omega) e1 ((gup_n haa).trans ((gup_n hne).trans h2)) ((gup_n (Ne.symm haf)).trans (gup_s _ _ _)) hne)
      rintro o h' ⟨v, rfl, rfl, f', rfl, e2, e3⟩
      refine ⟨_, rfl, rfl, f', ?_, fun j hj => ?_, fun j hj hj2 => ?_⟩
      · rw [gup_comm haf, gup_up, gup_up]
      · rw [e2 j (by omega)]
        unfold va_up
        rw [if_neg (by omega)]
      · by_cases e : j = p
        · subst e
          rw [e2 j (by omega)]
          unfold va_up
          rw [if_pos rfl]
        · exact e3 j (by omega) hj2
/-- recount: the fields behind it -/
theorem c_Voc_recount {K : gK} {h : gH} (hst : K.1.stackTraces = false) {a aa fa c : Nat} {v3 v4 : Value} {w f : Nat → Int32} (hw : wok w) (hc : c < 8) (h1 : h a = some (.inr (2, [.ref aa, .ref fa, .int (nI c), v3, v4]))) (h2 : h aa = some (.inl (0, 4, .inl w))) (h3 : h fa = some (.inl (0, 4, .inl f))) (hne : aa ≠ fa) : Ct K r_Voc_recount M_Voc_recount [.ref a] h (gRx fun v h' => v = none ∧ ∃ f' : Nat → Int32, h' = gup (gup h fa (.inl (0, 4, .inl f'))) a (.inr (2, [.ref aa, .ref fa, .int (nI c), .int (nI (tcn c)), .int (nI (fat (tcn c) w 4))])) ∧ ∀ q, q < 4 → f' q = nI (fat (tcn c) w q)) := by
  have haf : a ≠ fa := gne h1 h3 (by simp)
  have haa : aa ≠ a := gne h2 h1 (by simp)
  have hp := pc3_le c
  refine Ct.of hst (by decide) (Or.inl rfl) (Nat.le_of_ble_eq_true rfl) ?_
  refine g_aload_n d_Voc_recount_0 rfl ?_
  refine g_iconst (v := nI 1) d_Voc_recount_1 (by decide) ?_
  refine g_aload_n d_Voc_recount_2 rfl ?_
  refine g_get d_Voc_recount_3 f_Voc_24 (h1) rfl ?_
  refine g_callR (c_bitCount hst (nI c)) gm_Int_bitCount d_Voc_recount_6 (gInv_s (As := [.int (nI c)]) (rest := [.int (nI 1), .ref a]) d_Voc_recount_6 gm_Int_bitCount gs_Voc_37) (Nat.le_of_ble_eq_true rfl) (Nat.le_of_ble_eq_true rfl) (Nat.le_of_ble_eq_true rfl) (Nat.le_of_ble_eq_true rfl) (Nat.le_of_ble_eq_true rfl) ?_
  rw [bcI_8 c hc]
  refine g_max (by decide) (by omega) d_Voc_recount_9 w_2_121 (Nat.le_of_ble_eq_true rfl) (Nat.le_of_ble_eq_true rfl) ?_
  refine g_put (fs' := [_, _, _, _, _]) d_Voc_recount_12 f_Voc_43 (h1) rfl rfl (Nat.le_of_ble_eq_true rfl) rfl ?_
  refine g_aload_n d_Voc_recount_15 rfl ?_
  refine g_iconst (v := nI 0) d_Voc_recount_16 (by decide) ?_
  refine g_put (fs' := [_, _, _, _, _]) d_Voc_recount_17 f_Voc_59 (gup_s _ _ _) rfl rfl (Nat.le_of_ble_eq_true rfl) rfl ?_
  refine g_iconst (v := nI 0) d_Voc_recount_20 (by decide) ?_
  refine g_istore_n d_Voc_recount_21 rfl (Nat.le_of_ble_eq_true rfl) rfl ?_
  rw [gup_up]
  have e0 : gup h a (.inr (2, [.ref aa, .ref fa, .int (nI c), .int (nI (max 1 (pc3 c))), .int (nI 0)])) a = some (.inr (2, [.ref aa, .ref fa, .int (nI c), .int (nI (tcn c)), .int (nI (fat (tcn c) w 0))])) := gup_s _ _ _
  refine g_post ?_ (l_Voc_recount hst hw 4 0 _ f (by omega) e0 ((gup_n haa).trans h2) ((gup_n (Ne.symm haf)).trans h3) hne)
  rintro o h' ⟨v, rfl, rfl, f', rfl, e2, e3⟩
  refine ⟨_, rfl, rfl, f', ?_, fun q hq => e3 q (Nat.zero_le _) hq⟩
  rw [gup_comm haf, gup_up]
/-- a vocabulary at a: widths w, constants c, counted -/
def gVc (h : gH) (a aa fa : Nat) (w : Nat → Int32) (c : Nat) : Prop := wok w ∧ c < 8 ∧ aa ≠ fa ∧ ∃ f : Nat → Int32, h a = some (.inr (2, [.ref aa, .ref fa, .int (nI c), .int (nI (tcn c)), .int (nI (fat (tcn c) w 4))])) ∧ h aa = some (.inl (0, 4, .inl w)) ∧ h fa = some (.inl (0, 4, .inl f)) ∧ ∀ q, q < 4 → f q = nI (fat (tcn c) w q)
/-- .. not counted: whatever the counts are -/
def gVu (h : gH) (a aa fa : Nat) (w : Nat → Int32) (c : Nat) : Prop := wok w ∧ c < 8 ∧ aa ≠ fa ∧ ∃ (f : Nat → Int32) (v3 v4 : Value), h a = some (.inr (2, [.ref aa, .ref fa, .int (nI c), v3, v4])) ∧ h aa = some (.inl (0, 4, .inl w)) ∧ h fa = some (.inl (0, 4, .inl f))
theorem gVc.u {h : gH} {a aa fa : Nat} {w : Nat → Int32} {c : Nat} (hv : gVc h a aa fa w c) : gVu h a aa fa w c := by
  obtain ⟨h1, h2, h3, f, h4, h5, h6, -⟩ := hv
  exact ⟨h1, h2, h3, f, _, _, h4, h5, h6⟩
theorem gVu.ne {h : gH} {a aa fa : Nat} {w : Nat → Int32} {c : Nat} (hv : gVu h a aa fa w c) : a ≠ aa ∧ a ≠ fa := by
  obtain ⟨-, -, -, f, v3, v4, h4, h5, h6⟩ := hv
  exact ⟨gne h4 h5 (by simp), gne h4 h6 (by simp)⟩
/-- nothing but the cells of one vocabulary has changed -/
def gKp (h h' : gH) (L : List Nat) : Prop := ∀ b, b ∉ L → h' b = h b
theorem gKp.rf {h : gH} {L : List Nat} : gKp h h L := fun _ _ => rfl
theorem gKp.tr {h h' h'' : gH} {L : List Nat} (a : gKp h h' L) (b : gKp h' h'' L) : gKp h h'' L := fun x hx => (b x hx).trans (a x hx)
theorem gKp.up {h h' : gH} {L : List Nat} (a : gKp h h' L) {x : Nat} {e : gE} (hx : x ∈ L) : gKp h (gup h' x e) L := fun b hb => (gup_n (a := x) (b := b) (fun z => hb (by rw [z]; exact hx))).trans (a b hb)
theorem gKp.mono {h h' : gH} {L L' : List Nat} (a : gKp h h' L) (hL : ∀ x ∈ L, x ∈ L') : gKp h h' L' := fun b hb => a b (fun z => hb (hL b z))
theorem c_Voc_recount2 {K : gK} {h : gH} (hst : K.1.stackTraces = false) {a aa fa c : Nat} {w : Nat → Int32} (hv : gVu h a aa fa w c) : Ct K r_Voc_recount M_Voc_recount [.ref a] h (gRx fun v h' => v = none ∧ gVc h' a aa fa w c ∧ gKp h h' [a, fa]) := by
  have hne := hv.ne
  obtain ⟨h1, h2, h3, f, v3, v4, h4, h5, h6⟩ := hv
  refine (c_Voc_recount hst h1 h2 h4 h5 h6 h3).post ?_
  rintro o h' ⟨v, rfl, rfl, f', rfl, e⟩
  refine ⟨_, rfl, rfl, ⟨h1, h2, h3, f', gup_s _ _ _, ?_, ?_, e⟩, (gKp.rf.up (by simp)).up (by simp)⟩
  · rw [gup_n (Ne.symm hne.1), gup_n h3]
    exact h5
  · rw [gup_n (Ne.symm hne.2), gup_s]
theorem c_Voc_clear {K : gK} {h : gH} (hst : K.1.stackTraces = false) {a aa fa c : Nat} {w : Nat → Int32} (hv : gVu h a aa fa w c) : Ct K r_Voc_clear M_Voc_clear [.ref a] h (gRx fun v h' => v = none ∧ ∃ w', (∀ p, p < 4 → w' p = -1) ∧ gVc h' a aa fa w' 0 ∧ gKp h h' [a, aa, fa]) := by
  have hne := hv.ne
  obtain ⟨h1, h2, h3, f, v3, v4, h4, h5, h6⟩ := hv
  refine Ct.of hst (by decide) (Or.inl rfl) (Nat.le_of_ble_eq_true rfl) ?_
  refine g_aload_n d_Voc_clear_0 rfl ?_
  refine g_get d_Voc_clear_1 f_Voc_9 (h4) rfl ?_
  refine g_iconst (v := -1) d_Voc_clear_4 (by decide) ?_
  refine g_callR (c_fillI hst (by decide) (-1) h5) gm_Arr_fillI d_Voc_clear_5 (gInv_s (As := [.ref aa, .int (-1)]) (rest := []) d_Voc_clear_5 gm_Arr_fillI gs_Voc_18) (Nat.le_of_ble_eq_true rfl) (Nat.le_of_ble_eq_true rfl) (Nat.le_of_ble_eq_true rfl) (Nat.le_of_ble_eq_true rfl) (Nat.le_of_ble_eq_true rfl) ?_
  refine g_aload_n d_Voc_clear_8 rfl ?_
  refine g_iconst (v := nI 0) d_Voc_clear_9 (by decide) ?_
  refine g_put (fs' := [_, _, _, _, _]) d_Voc_clear_10 f_Voc_24 ((gup_n hne.1).trans h4) rfl rfl (Nat.le_of_ble_eq_true rfl) rfl ?_
  refine g_aload_n d_Voc_clear_13 rfl ?_
  have hw : ∀ p, p < 4 → (fun j => if j < 4 then (-1 : Int32) else w j) p = -1 := fun p hp => if_pos hp
  have hu : gVu (gup (gup h aa (.inl (0, 4, .inl (fun j => if j < 4 then -1 else w j)))) a (.inr (2, [.ref aa, .ref fa, .int (nI 0), v3, v4]))) a aa fa (fun j => if j < 4 then -1 else w j) 0 :=
    ⟨fun p hp => Or.inl (hw p hp), by decide, h3, f, v3, v4, gup_s _ _ _, (gup_n (Ne.symm hne.1)).trans (gup_s _ _ _), (gup_n (Ne.symm hne.2)).trans ((gup_n (Ne.symm h3)).trans h6)⟩
  refine g_callX (c_Voc_recount2 hst hu) gm_Voc_recount d_Voc_clear_14 (gInv_v (As := []) (rest := []) d_Voc_clear_14 gm_Voc_recount gv_Voc_28 (gup_s _ _ _) rfl) (Nat.le_of_ble_eq_true rfl) (Nat.le_of_ble_eq_true rfl) (Nat.le_of_ble_eq_true rfl) (Nat.le_of_ble_eq_true rfl) (Nat.le_of_ble_eq_true rfl) (fun v h1 hp => ?_)
  obtain ⟨rfl, hc, hk⟩ := hp
  refine g_ret_v d_Voc_clear_17 rfl ⟨_, rfl, rfl, _, hw, hc, ?_⟩
  exact ((gKp.rf.up (by simp)).up (by simp)).tr (hk.mono (by simp))
theorem c_Voc_addPredicate {K : gK} {h : gH} (hst : K.1.stackTraces = false) {a aa fa c p : Nat} {w : Nat → Int32} (hv : gVu h a aa fa w c) (hp4 : p < 4) {x : Int32} (hx : x = 0 ∨ x = 1 ∨ x = 2) : Ct K r_Voc_addPredicate M_Voc_addPredicate [.ref a, .int (nI p), .int x] h (gRx fun v h' => v = none ∧ gVc h' a aa fa (va_up w p x) c ∧ gKp h h' [a, aa, fa]) := by
  have hne := hv.ne
  obtain ⟨h1, h2, h3, f, v3, v4, h4, h5, h6⟩ := hv
  refine Ct.of hst (by decide) (Or.inl rfl) (Nat.le_of_ble_eq_true rfl) ?_
  refine g_aload_n d_Voc_addPredicate_0 rfl ?_
  refine g_get d_Voc_addPredicate_1 f_Voc_9 (h4) rfl ?_
  refine g_iload_n d_Voc_addPredicate_4 rfl ?_
  refine g_iload_n d_Voc_addPredicate_5 rfl ?_
  refine g_iast d_Voc_addPredicate_6 (h5) (rfl) (hp4) (by decide) ?_
  refine g_aload_n d_Voc_addPredicate_7 rfl ?_
  have hu : gVu (gup h aa (.inl (0, 4, .inl (va_up w p x)))) a aa fa (va_up w p x) c := by
    refine ⟨fun j hj => ?_, h2, h3, f, v3, v4, (gup_n hne.1).trans h4, gup_s _ _ _, (gup_n (Ne.symm h3)).trans h6⟩
    unfold va_up
    by_cases e : j = p
    · rw [if_pos e]
      exact Or.inr hx
    · rw [if_neg e]
      exact h1 j hj
  refine g_callX (c_Voc_recount2 hst hu) gm_Voc_recount d_Voc_addPredicate_8 (gInv_v (As := []) (rest := []) d_Voc_addPredicate_8 gm_Voc_recount gv_Voc_28 ((gup_n hne.1).trans h4) rfl) (Nat.le_of_ble_eq_true rfl) (Nat.le_of_ble_eq_true rfl) (Nat.le_of_ble_eq_true rfl) (Nat.le_of_ble_eq_true rfl) (Nat.le_of_ble_eq_true rfl) (fun v h1 hp => ?_)
  obtain ⟨rfl, hc, hk⟩ := hp
  refine g_ret_v d_Voc_addPredicate_11 rfl ⟨_, rfl, rfl, hc, ?_⟩
  exact (gKp.rf.up (by simp)).tr (hk.mono (by simp))
theorem or_c : ∀ c, c < 8 → ∀ k, k < 3 → nI c ||| (nI 1 <<< (nI k &&& 31)) = nI (c ||| 2 ^ k) ∧ c ||| 2 ^ k < 8 := by decide
theorem c_Voc_addConstant {K : gK} {h : gH} (hst : K.1.stackTraces = false) {a aa fa c k : Nat} {w : Nat → Int32} (hv : gVu h a aa fa w c) (hk3 : k < 3) : Ct K r_Voc_addConstant M_Voc_addConstant [.ref a, .int (nI k)] h (gRx fun v h' => v = none ∧ gVc h' a aa fa w (c ||| 2 ^ k) ∧ gKp h h' [a, aa, fa]) := by
  have hne := hv.ne
  obtain ⟨h1, h2, h3, f, v3, v4, h4, h5, h6⟩ := hv
  refine Ct.of hst (by decide) (Or.inl rfl) (Nat.le_of_ble_eq_true rfl) ?_
  refine g_aload_n d_Voc_addConstant_0 rfl ?_
  refine g_dup d_Voc_addConstant_1 rfl ?_
  refine g_get d_Voc_addConstant_2 f_Voc_24 (h4) rfl ?_
  refine g_iconst (v := nI 1) d_Voc_addConstant_5 (by decide) ?_
  refine g_iload_n d_Voc_addConstant_6 rfl ?_
  refine g_ishl d_Voc_addConstant_7 ?_
  refine g_ior d_Voc_addConstant_8 ?_
  refine g_put (fs' := [_, _, _, _, _]) d_Voc_addConstant_9 f_Voc_24 (h4) rfl rfl (Nat.le_of_ble_eq_true rfl) rfl ?_
  refine g_aload_n d_Voc_addConstant_12 rfl ?_
  rw [(or_c c h2 k hk3).1]
  have hu : gVu (gup h a (.inr (2, [.ref aa, .ref fa, .int (nI (c ||| 2 ^ k)), v3, v4]))) a aa fa w (c ||| 2 ^ k) :=
    ⟨h1, (or_c c h2 k hk3).2, h3, f, v3, v4, gup_s _ _ _, (gup_n (Ne.symm hne.1)).trans h5, (gup_n (Ne.symm hne.2)).trans h6⟩
  refine g_callX (c_Voc_recount2 hst hu) gm_Voc_recount d_Voc_addConstant_13 (gInv_v (As := []) (rest := []) d_Voc_addConstant_13 gm_Voc_recount gv_Voc_28 (gup_s _ _ _) rfl) (Nat.le_of_ble_eq_true rfl) (Nat.le_of_ble_eq_true rfl) (Nat.le_of_ble_eq_true rfl) (Nat.le_of_ble_eq_true rfl) (Nat.le_of_ble_eq_true rfl) (fun v h1 hp => ?_)
  obtain ⟨rfl, hc, hk⟩ := hp
  refine g_ret_v d_Voc_addConstant_16 rfl ⟨_, rfl, rfl, hc, ?_⟩
  exact (gKp.rf.up (by simp)).tr (hk.mono (by simp))
theorem nI_of3 {x : Int32} {n : Nat} (h0 : ¬ x < 0) (h : x < nI n) (hn : n < 2 ^ 31 := by decide) : ∃ k, k < n ∧ x = nI k := by
  obtain ⟨j, hj, rfl⟩ := nI_of h0
  exact ⟨j, (nI_ltI hj hn).mp h, rfl⟩
/-- the things of a set of constants, and which of them a constant is -/
def thg (c : Nat) : Nat := if c = 0 then 1 else c
def rnk (c k : Nat) : Nat := pc3 (thg c % 2 ^ k)
def isT (c k : Nat) : Prop := thg c / 2 ^ k % 2 = 1
def fth (c : Nat) (x : Int32) : Int32 := if x < 0 ∨ nI 3 ≤ x then -1 else if thg c / 2 ^ x.toNatClampNeg % 2 = 1 then nI (rnk c x.toNatClampNeg) else -1
theorem thg_lt {c : Nat} (hc : c < 8) : thg c < 8 := by unfold thg; split <;> omega
theorem ft_1 : ∀ t, t < 8 → ∀ k, k < 3 → (nI t >>> (nI k &&& 31)) &&& nI 1 = nI (t / 2 ^ k % 2) := by decide
theorem ft_2 : ∀ t, t < 8 → ∀ k, k < 3 → nI t &&& ((nI 1 <<< (nI k &&& 31)) - nI 1) = nI (t % 2 ^ k) ∧ t % 2 ^ k < 8 := by decide
theorem l_Voc_findThing {K : gK} {h : gH} (hst : K.1.stackTraces = false) {a t k : Nat} (ht : t < 8) (hk : k < 3) : Go K M_Voc_findThing r_Voc_findThing 27 [(0, .ref a), (1, .int (nI k)), (2, .int (nI t))] [] h 0 0 (gRt (some (.int (if t / 2 ^ k % 2 = 1 then nI (pc3 (t % 2 ^ k)) else -1))) h) := by
  refine g_iload_n d_Voc_findThing_27 rfl ?_
  refine g_iload_n d_Voc_findThing_28 rfl ?_
  refine g_ishr d_Voc_findThing_29 ?_
  refine g_iconst (v := nI 1) d_Voc_findThing_30 (by decide) ?_
  refine g_iand d_Voc_findThing_31 ?_
  rw [ft_1 t ht k hk]
  have h2 : t / 2 ^ k % 2 < 2 := Nat.mod_lt _ (by decide)
  refine g_if_eq (tgt := 39) d_Voc_findThing_32 (by decide) (fun q => ?_) (fun q => ?_)
  · have e : t / 2 ^ k % 2 = 0 := (nI_eq (by omega) (by decide)).mp q
    refine g_iconst (v := nI 0) d_Voc_findThing_39 (by decide) ?_
    refine g_istore_n d_Voc_findThing_40 rfl (Nat.le_of_ble_eq_true rfl) rfl ?_
    refine g_iload_n d_Voc_findThing_41 rfl ?_
    refine g_if_eq (tgt := 58) d_Voc_findThing_42 (by decide) (fun q => ?_) (fun q => ?_)
    · refine g_iconst (v := -1) d_Voc_findThing_58 (by decide) ?_
      refine g_ret_i d_Voc_findThing_59 rfl rfl ⟨?_, rfl⟩
      rw [if_neg (by omega)]
    · exact absurd rfl q
  · have e : t / 2 ^ k % 2 = 1 := by
      have : ¬ t / 2 ^ k % 2 = 0 := fun z => q (by rw [z]; rfl)
      omega
    refine g_iconst (v := nI 1) d_Voc_findThing_35 (by decide) ?_
    refine g_goto (tgt := 40) d_Voc_findThing_36 (by decide) ?_
    refine g_istore_n d_Voc_findThing_40 rfl (Nat.le_of_ble_eq_true rfl) rfl ?_
    refine g_iload_n d_Voc_findThing_41 rfl ?_
    refine g_if_eq (tgt := 58) d_Voc_findThing_42 (by decide) (fun q => ?_) (fun q => ?_)
    · exact absurd q (by decide)
    · refine g_iload_n d_Voc_findThing_45 rfl ?_
      refine g_iconst (v := nI 1) d_Voc_findThing_46 (by decide) ?_
      refine g_iload_n d_Voc_findThing_47 rfl ?_
      refine g_ishl d_Voc_findThing_48 ?_
      refine g_iconst (v := nI 1) d_Voc_findThing_49 (by decide) ?_
      refine g_isub d_Voc_findThing_50 ?_
      refine g_iand d_Voc_findThing_51 ?_
      rw [(ft_2 t ht k hk).1]
      refine g_callR (c_bitCount hst _) gm_Int_bitCount d_Voc_findThing_52 (gInv_s (As := [.int (nI (t % 2 ^ k))]) (rest := []) d_Voc_findThing_52 gm_Int_bitCount gs_Voc_37) (Nat.le_of_ble_eq_true rfl) (Nat.le_of_ble_eq_true rfl) (Nat.le_of_ble_eq_true rfl) (Nat.le_of_ble_eq_true rfl) (Nat.le_of_ble_eq_true rfl) ?_
      rw [bcI_8 _ (ft_2 t ht k hk).2]
      refine g_goto (tgt := 59) d_Voc_findThing_55 (by decide) ?_
      refine g_ret_i d_Voc_findThing_59 rfl rfl ⟨?_, rfl⟩
      rw [if_pos e]
theorem c_Voc_findThing {K : gK} {h : gH} (hst : K.1.stackTraces = false) {a c : Nat} {v0 v1 v3 v4 : Value} (hc : c < 8) (h1 : h a = some (.inr (2, [v0, v1, .int (nI c), v3, v4]))) (x : Int32) : Ct K r_Voc_findThing M_Voc_findThing [.ref a, .int x] h (gRt (some (.int (fth c x))) h) := by
  refine Ct.of hst (by decide) (Or.inl rfl) (Nat.le_of_ble_eq_true rfl) ?_
  unfold fth
  refine g_iload_n d_Voc_findThing_0 rfl ?_
  refine g_if_lt (tgt := 9) d_Voc_findThing_1 (by decide) (fun q => ?_) (fun q => ?_)
  · refine g_iconst (v := -1) d_Voc_findThing_9 (by decide) ?_
    rw [if_pos (Or.inl q)]
    exact g_ret_i d_Voc_findThing_10 rfl rfl ⟨rfl, rfl⟩
  · refine g_iload_n d_Voc_findThing_4 rfl ?_
    refine g_iconst (v := nI 3) d_Voc_findThing_5 (by decide) ?_
    refine g_icmp_lt (tgt := 11) d_Voc_findThing_6 (by decide) (fun q => ?_) (fun q => ?_)
    · obtain ⟨k, hk, rfl⟩ := nI_of3 (by assumption) q
      rw [if_neg (by rintro (z | z); exact nI_pos (by omega) z; exact absurd ((nI_leI (by decide) (by omega)).mp z) (by omega)), nI_clamp (by omega)]
      unfold rnk thg
      refine g_aload_n d_Voc_findThing_11 rfl ?_
      refine g_get d_Voc_findThing_12 f_Voc_24 (h1) rfl ?_
      refine g_if_ne (tgt := 22) d_Voc_findThing_15 (by decide) (fun q => ?_) (fun q => ?_)
      · refine g_aload_n d_Voc_findThing_22 rfl ?_
        refine g_get d_Voc_findThing_23 f_Voc_24 (h1) rfl ?_
        refine g_istore_n d_Voc_findThing_26 rfl (Nat.le_of_ble_eq_true rfl) rfl ?_
        have e : ¬ c = 0 := fun z => q (by rw [z]; rfl)
        rw [if_neg e]
        exact l_Voc_findThing hst hc hk
      · refine g_iconst (v := nI 1) d_Voc_findThing_18 (by decide) ?_
        refine g_goto (tgt := 26) d_Voc_findThing_19 (by decide) ?_
        refine g_istore_n d_Voc_findThing_26 rfl (Nat.le_of_ble_eq_true rfl) rfl ?_
        have e : c = 0 := (nI_eq (by omega) (by decide)).mp q
        rw [if_pos e]
        exact l_Voc_findThing hst (by decide) hk
    · refine g_iconst (v := -1) d_Voc_findThing_9 (by decide) ?_
      rw [if_pos (Or.inr (k2_le q))]
      exact g_ret_i d_Voc_findThing_10 rfl rfl ⟨rfl, rfl⟩
/-- the number of an atom: predicate p, things i and j -/
def atn (n : Nat) (w : Nat → Int32) (p : Nat) (x y : Int32) : Int32 := if w p = 1 then nI (fat n w p) + x else if w p = 2 then nI (fat n w p) + x * nI n + y else nI (fat n w p)
theorem c_Voc_number {K : gK} {h : gH} (hst : K.1.stackTraces = false) {a aa fa c p : Nat} {w : Nat → Int32} (hv : gVc h a aa fa w c) (hp : p < 4) (x y : Int32) : Ct K r_Voc_number M_Voc_number [.ref a, .int (nI p), .int x, .int y] h (gRt (some (.int (atn (tcn c) w p x y))) h) := by
  obtain ⟨h1, h2, h3, f, h4, h5, h6, h7⟩ := hv
  refine Ct.of hst (by decide) (Or.inl rfl) (Nat.le_of_ble_eq_true rfl) ?_
  unfold atn
  refine g_aload_n d_Voc_number_0 rfl ?_
  refine g_get d_Voc_number_1 f_Voc_9 (h4) rfl ?_
  refine g_iload_n d_Voc_number_4 rfl ?_
  refine g_iald d_Voc_number_5 (h5) (rfl) (hp) (by decide) ?_
  by_cases e1 : w p = 1
  · rw [if_pos e1]
    refine g_lookup (tgt := 32) d_Voc_number_6 (by decide) (off := 26) (by rw [e1]; decide) (by decide) ?_
    refine g_aload_n d_Voc_number_32 rfl ?_
    refine g_get d_Voc_number_33 f_Voc_15 (h4) rfl ?_
    refine g_iload_n d_Voc_number_36 rfl ?_
    refine g_iald d_Voc_number_37 (h6) (rfl) (hp) (by decide) ?_
    refine g_iload_n d_Voc_number_38 rfl ?_
    refine g_iadd d_Voc_number_39 ?_
    rw [h7 p hp]
    exact g_ret_i d_Voc_number_40 rfl rfl ⟨rfl, rfl⟩
  · rw [if_neg e1]
    by_cases e2 : w p = 2
    · rw [if_pos e2]
      refine g_lookup (tgt := 41) d_Voc_number_6 (by decide) (off := 35) (by rw [e2]; decide) (by decide) ?_
      refine g_aload_n d_Voc_number_41 rfl ?_
      refine g_get d_Voc_number_42 f_Voc_15 (h4) rfl ?_
      refine g_iload_n d_Voc_number_45 rfl ?_
      refine g_iald d_Voc_number_46 (h6) (rfl) (hp) (by decide) ?_
      refine g_iload_n d_Voc_number_47 rfl ?_
      refine g_aload_n d_Voc_number_48 rfl ?_
      refine g_get d_Voc_number_49 f_Voc_43 (h4) rfl ?_
      refine g_imul d_Voc_number_52 ?_
      refine g_iadd d_Voc_number_53 ?_
      refine g_iload_n d_Voc_number_54 rfl ?_
      refine g_iadd d_Voc_number_55 ?_
      rw [h7 p hp]
      exact g_ret_i d_Voc_number_56 rfl rfl ⟨rfl, rfl⟩
    · rw [if_neg e2]
      refine g_lookup (tgt := 57) d_Voc_number_6 (by decide) (off := 51) ?_ (by decide) ?_
      · rcases h1 p hp with z | z | z | z
        · rw [z]; rfl
        · rw [z]; rfl
        · exact absurd z e1
        · exact absurd z e2
      · refine g_aload_n d_Voc_number_57 rfl ?_
        refine g_get d_Voc_number_58 f_Voc_15 (h4) rfl ?_
        refine g_iload_n d_Voc_number_61 rfl ?_
        refine g_iald d_Voc_number_62 (h6) (rfl) (hp) (by decide) ?_
        rw [h7 p hp]
        exact g_ret_i d_Voc_number_63 rfl rfl ⟨rfl, rfl⟩
/-- atom(p, one, two): its number, or -1 -/
def fatm (c : Nat) (w : Nat → Int32) (p one two : Int32) : Int32 := if p < 0 ∨ nI 4 ≤ p then -1 else if w p.toNatClampNeg = -1 then -1 else if (¬ w p.toNatClampNeg = 0 ∧ fth c one = -1) ∨ (w p.toNatClampNeg = 2 ∧ fth c two = -1) then -1 else atn (tcn c) w p.toNatClampNeg (fth c one) (fth c two)
theorem l_Voc_findAtom {K : gK} {h : gH} (hst : K.1.stackTraces = false) {a aa fa c k : Nat} {w : Nat → Int32} (hv : gVc h a aa fa w c) (hk : k < 4) {x y one two : Int32} : Go K M_Voc_findAtom r_Voc_findAtom 71 [(0, .ref a), (1, .int (nI k)), (2, .int one), (3, .int two), (4, .int x), (5, .int y)] [] h 0 0 (gRt (some (.int (atn (tcn c) w k x y))) h) := by
  obtain ⟨h1, h2, h3, f, h4, h5, h6, h7⟩ := id hv
  refine g_iconst (v := nI 0) d_Voc_findAtom_71 (by decide) ?_
  refine g_istore d_Voc_findAtom_72 (Nat.le_of_ble_eq_true rfl) rfl ?_
  refine g_iload d_Voc_findAtom_74 rfl ?_
  refine g_if_eq (tgt := 83) d_Voc_findAtom_76 (by decide) (fun q => ?_) (fun q => ?_)
  · refine g_aload_n d_Voc_findAtom_83 rfl ?_
    refine g_iload_n d_Voc_findAtom_84 rfl ?_
    refine g_iload d_Voc_findAtom_85 rfl ?_
    refine g_iload d_Voc_findAtom_87 rfl ?_
    refine g_callR (c_Voc_number hst hv hk x y) gm_Voc_number d_Voc_findAtom_89 (gInv_v (As := [.int (nI k), .int x, .int y]) (rest := []) d_Voc_findAtom_89 gm_Voc_number gv_Voc_49 (h4) rfl) (Nat.le_of_ble_eq_true rfl) (Nat.le_of_ble_eq_true rfl) (Nat.le_of_ble_eq_true rfl) (Nat.le_of_ble_eq_true rfl) (Nat.le_of_ble_eq_true rfl) ?_
    exact g_ret_i d_Voc_findAtom_92 rfl rfl ⟨rfl, rfl⟩
  · exact absurd rfl q
theorem m_Voc_findAtom {K : gK} {h : gH} {a k : Nat} {x y one two : Int32} : Go K M_Voc_findAtom r_Voc_findAtom 67 [(0, .ref a), (1, .int (nI k)), (2, .int one), (3, .int two), (4, .int x), (5, .int y)] [] h 0 0 (gRt (some (.int (-1))) h) := by
  refine g_iconst (v := nI 1) d_Voc_findAtom_67 (by decide) ?_
  refine g_goto (tgt := 72) d_Voc_findAtom_68 (by decide) ?_
  refine g_istore d_Voc_findAtom_72 (Nat.le_of_ble_eq_true rfl) rfl ?_
  refine g_iload d_Voc_findAtom_74 rfl ?_
  refine g_if_eq (tgt := 83) d_Voc_findAtom_76 (by decide) (fun q => ?_) (fun q => ?_)
  · exact absurd q (by decide)
  · refine g_iconst (v := -1) d_Voc_findAtom_79 (by decide) ?_
    refine g_goto (tgt := 92) d_Voc_findAtom_80 (by decide) ?_
    exact g_ret_i d_Voc_findAtom_92 rfl rfl ⟨rfl, rfl⟩
theorem c_Voc_findAtom {K : gK} {h : gH} (hst : K.1.stackTraces = false) {a aa fa c : Nat} {w : Nat → Int32} (hu : gVu h a aa fa w c) (hv : ∀ k, k < 4 → ¬ w k = -1 → gVc h a aa fa w c) (p one two : Int32) : Ct K r_Voc_findAtom M_Voc_findAtom [.ref a, .int p, .int one, .int two] h (gRt (some (.int (fatm c w p one two))) h) := by
  obtain ⟨h1, h2, h3, f, v3, v4, h4, h5, h6⟩ := hu
  refine Ct.of hst (by decide) (Or.inl rfl) (Nat.le_of_ble_eq_true rfl) ?_
  unfold fatm
  refine g_iload_n d_Voc_findAtom_0 rfl ?_
  refine g_if_lt (tgt := 19) d_Voc_findAtom_1 (by decide) (fun q => ?_) (fun q => ?_)
  · refine g_iconst (v := -1) d_Voc_findAtom_19 (by decide) ?_
    rw [if_pos (Or.inl q)]
    exact g_ret_i d_Voc_findAtom_20 rfl rfl ⟨rfl, rfl⟩
  · refine g_iload_n d_Voc_findAtom_4 rfl ?_
    refine g_iconst (v := nI 4) d_Voc_findAtom_5 (by decide) ?_
    refine g_icmp_ge (tgt := 19) d_Voc_findAtom_6 (by decide) (fun q => ?_) (fun q => ?_)
    · refine g_iconst (v := -1) d_Voc_findAtom_19 (by decide) ?_
      rw [if_pos (Or.inr q)]
      exact g_ret_i d_Voc_findAtom_20 rfl rfl ⟨rfl, rfl⟩
    · obtain ⟨k, hk, rfl⟩ := nI_of3 (n := 4) (by assumption) (k2_lt q)
      rw [if_neg (by rintro (z | z); exact nI_pos (by omega) z; exact q z), nI_clamp (by omega)]
      refine g_aload_n d_Voc_findAtom_9 rfl ?_
      refine g_get d_Voc_findAtom_10 f_Voc_9 (h4) rfl ?_
      refine g_iload_n d_Voc_findAtom_13 rfl ?_
      refine g_iald d_Voc_findAtom_14 (h5) (rfl) (hk) (by decide) ?_
      refine g_iconst (v := -1) d_Voc_findAtom_15 (by decide) ?_
      refine g_icmp_ne (tgt := 21) d_Voc_findAtom_16 (by decide) (fun q => ?_) (fun q => ?_)
      · rw [if_neg q]
        have hv := hv k hk q
        refine g_aload_n d_Voc_findAtom_21 rfl ?_
        refine g_iload_n d_Voc_findAtom_22 rfl ?_
        refine g_callR (c_Voc_findThing hst h2 h4 one) gm_Voc_findThing d_Voc_findAtom_23 (gInv_v (As := [.int one]) (rest := []) d_Voc_findAtom_23 gm_Voc_findThing gv_Voc_46 (h4) rfl) (Nat.le_of_ble_eq_true rfl) (Nat.le_of_ble_eq_true rfl) (Nat.le_of_ble_eq_true rfl) (Nat.le_of_ble_eq_true rfl) (Nat.le_of_ble_eq_true rfl) ?_
        refine g_istore d_Voc_findAtom_26 (Nat.le_of_ble_eq_true rfl) rfl ?_
        refine g_aload_n d_Voc_findAtom_28 rfl ?_
        refine g_iload_n d_Voc_findAtom_29 rfl ?_
        refine g_callR (c_Voc_findThing hst h2 h4 two) gm_Voc_findThing d_Voc_findAtom_30 (gInv_v (As := [.int two]) (rest := []) d_Voc_findAtom_30 gm_Voc_findThing gv_Voc_46 (h4) rfl) (Nat.le_of_ble_eq_true rfl) (Nat.le_of_ble_eq_true rfl) (Nat.le_of_ble_eq_true rfl) (Nat.le_of_ble_eq_true rfl) (Nat.le_of_ble_eq_true rfl) ?_
        refine g_istore d_Voc_findAtom_33 (Nat.le_of_ble_eq_true rfl) rfl ?_
        refine g_aload_n d_Voc_findAtom_35 rfl ?_
        refine g_get d_Voc_findAtom_36 f_Voc_9 (h4) rfl ?_
        refine g_iload_n d_Voc_findAtom_39 rfl ?_
        refine g_iald d_Voc_findAtom_40 (h5) (rfl) (hk) (by decide) ?_
        refine g_iconst (v := nI 1) d_Voc_findAtom_41 (by decide) ?_
        rcases h1 k hk with e | e | e | e
        · exact absurd e q
        · rw [if_neg (by rw [e]; rintro (z | z); exact z.1 rfl; exact absurd z.1 (by decide))]
          refine g_icmp_lt (tgt := 51) d_Voc_findAtom_42 (by decide) (fun q => ?_) (fun q => ?_)
          · refine g_aload_n d_Voc_findAtom_51 rfl ?_
            refine g_get d_Voc_findAtom_52 f_Voc_9 (h4) rfl ?_
            refine g_iload_n d_Voc_findAtom_55 rfl ?_
            refine g_iald d_Voc_findAtom_56 (h5) (rfl) (hk) (by decide) ?_
            refine g_iconst (v := nI 2) d_Voc_findAtom_57 (by decide) ?_
            refine g_icmp_lt (tgt := 71) d_Voc_findAtom_58 (by decide) (fun q => ?_) (fun q => ?_)
            · exact l_Voc_findAtom hst hv hk
            · exact absurd (by rw [e]; decide) q
          · exact absurd (by rw [e]; decide) q
        · refine g_icmp_lt (tgt := 51) d_Voc_findAtom_42 (by decide) (fun q => ?_) (fun q => ?_)
          · exact absurd q (by rw [e]; decide)
          · refine g_iload d_Voc_findAtom_45 rfl ?_
            refine g_iconst (v := -1) d_Voc_findAtom_47 (by decide) ?_
            refine g_icmp_eq (tgt := 67) d_Voc_findAtom_48 (by decide) (fun q => ?_) (fun q => ?_)
            · rw [if_pos (Or.inl ⟨by rw [e]; decide, q⟩)]
              exact m_Voc_findAtom
            · rw [if_neg (by rintro (z | z); exact q z.2; exact absurd z.1 (by rw [e]; decide))]
              refine g_aload_n d_Voc_findAtom_51 rfl ?_
              refine g_get d_Voc_findAtom_52 f_Voc_9 (h4) rfl ?_
              refine g_iload_n d_Voc_findAtom_55 rfl ?_
              refine g_iald d_Voc_findAtom_56 (h5) (rfl) (hk) (by decide) ?_
              refine g_iconst (v := nI 2) d_Voc_findAtom_57 (by decide) ?_
              refine g_icmp_lt (tgt := 71) d_Voc_findAtom_58 (by decide) (fun q => ?_) (fun q => ?_)
              · exact l_Voc_findAtom hst hv hk
              · exact absurd (by rw [e]; decide) q
        · refine g_icmp_lt (tgt := 51) d_Voc_findAtom_42 (by decide) (fun q => ?_) (fun q => ?_)
          · exact absurd q (by rw [e]; decide)
          · refine g_iload d_Voc_findAtom_45 rfl ?_
            refine g_iconst (v := -1) d_Voc_findAtom_47 (by decide) ?_
            refine g_icmp_eq (tgt := 67) d_Voc_findAtom_48 (by decide) (fun q => ?_) (fun q => ?_)
            · rw [if_pos (Or.inl ⟨by rw [e]; decide, q⟩)]
              exact m_Voc_findAtom
            · refine g_aload_n d_Voc_findAtom_51 rfl ?_
              refine g_get d_Voc_findAtom_52 f_Voc_9 (h4) rfl ?_
              refine g_iload_n d_Voc_findAtom_55 rfl ?_
              refine g_iald d_Voc_findAtom_56 (h5) (rfl) (hk) (by decide) ?_
              refine g_iconst (v := nI 2) d_Voc_findAtom_57 (by decide) ?_
              refine g_icmp_lt (tgt := 71) d_Voc_findAtom_58 (by decide) (fun q => ?_) (fun q => ?_)
              · exact absurd q (by rw [e]; decide)
              · refine g_iload d_Voc_findAtom_61 rfl ?_
                refine g_iconst (v := -1) d_Voc_findAtom_63 (by decide) ?_
                refine g_icmp_ne (tgt := 71) d_Voc_findAtom_64 (by decide) (fun q => ?_) (fun q => ?_)
                · rename_i q1 _ _
                  rw [if_neg (by rintro (z | z); exact absurd z.2 (by assumption); exact q z.2)]
                  exact l_Voc_findAtom hst hv hk
                · rw [if_pos (Or.inr ⟨e, q⟩)]
                  exact m_Voc_findAtom
      · refine g_iconst (v := -1) d_Voc_findAtom_19 (by decide) ?_
        rw [if_pos q]
        exact g_ret_i d_Voc_findAtom_20 rfl rfl ⟨rfl, rfl⟩
