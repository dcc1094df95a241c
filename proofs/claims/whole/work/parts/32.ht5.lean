/-! ===== the face: type, erase, read ===== -/
section FACE5
variable {K : gK} {h : gH} {X : Nat → Nat} {tx : List Nat} {fl : Int32} {k c : Nat} {w : Nat → Int32} {A : Nat} {CS : Nat → Nat → Prop}
def tyN (row : Int64) (tx : List Nat) : List Nat := match tyOk row tx with
  | none => tx
  | some n => tx ++ rchs row n 0
theorem gHt.txt {h' : gH} {tx' : List Nat} (hh : gHt h X tx fl k c w A CS) (ht : gTx h' (X 1) (X 2) tx') (hk : ∀ b, b ≠ X 1 → b ≠ X 2 → h' b = h b) : gHt h' X tx' fl k c w A CS ∧ gKx h h' (gOf X 145) := by
  obtain ⟨hX, h1, h2, h3, h4⟩ := hh
  have e : ∀ i, i < 145 → i ≠ 1 → i ≠ 2 → h' (X i) = h (X i) := fun i hi n1 n2 => hk _ (hX.ne hi (by decide) n1) (hX.ne hi (by decide) n2)
  exact ⟨⟨hX, (e 0 (by decide) (by decide) (by decide)).trans h1, ht, h3.of fun i hi => e (3 + i) (by omega) (by omega) (by omega), h4.of (fun i hi _ _ => e (105 + i) (by omega) (by omega) (by omega)) (h4.2.2.2.2.2.2.2.of (e 118 (by decide) (by decide) (by decide)) (e 119 (by decide) (by decide) (by decide)))⟩, fun x hx _ => hk x (fun z => hx ⟨1, by decide, z⟩) (fun z => hx ⟨2, by decide, z⟩)⟩
theorem c_HT_type (hst : K.1.stackTraces = false) (hh : gHt h X tx fl k c w A CS) (row : Int64) : Ct K r_HT_type M_HT_type [.ref (X 0), .long row] h (gRx fun o h' => o = some (.int (bI (tyOk row tx).isSome)) ∧ gHt h' X (tyN row tx) fl k c w A CS ∧ gKx h h' (gOf X 145)) := by
  obtain ⟨hX, h1, h2, h3, h4⟩ := id hh
  refine Ct.of hst (by decide) (Or.inl rfl) (Nat.le_of_ble_eq_true rfl) ?_
  refine g_aload_n d_HT_type_0 rfl ?_
  refine g_get d_HT_type_1 f_HT_12 (h1) rfl ?_
  refine g_lload_n d_HT_type_4 rfl ?_
  refine g_callX (c_Text_append hst row h2) gm_Text_append d_HT_type_5 (gInv_v (As := [.long row]) (rest := []) d_HT_type_5 gm_Text_append gv_HT_34 (h2.choose_spec.1) rfl) (Nat.le_of_ble_eq_true rfl) (Nat.le_of_ble_eq_true rfl) (Nat.le_of_ble_eq_true rfl) (Nat.le_of_ble_eq_true rfl) (Nat.le_of_ble_eq_true rfl) (fun v5 h5 hp => ?_)
  unfold tyN
  cases e : tyOk row tx with
  | none =>
    rw [e] at hp
    obtain ⟨rfl, rfl⟩ := hp
    exact g_ret_i d_HT_type_8 rfl rfl ⟨_, rfl, rfl, hh, fun _ _ _ => rfl⟩
  | some n =>
    rw [e] at hp
    obtain ⟨rfl, t1, t2⟩ := hp
    obtain ⟨y1, y2⟩ := hh.txt t1 t2
    exact g_ret_i d_HT_type_8 rfl rfl ⟨_, rfl, rfl, y1, y2⟩
theorem gTx.emp (ht : gTx h (X 1) (X 2) tx) (hX : gNj X 145) : gTx (gup h (X 1) (.inr (1, [.ref (X 2), .int (nI 0)]))) (X 1) (X 2) [] ∧ ∀ b, b ≠ X 1 → b ≠ X 2 → gup h (X 1) (.inr (1, [.ref (X 2), .int (nI 0)])) b = h b := by
  obtain ⟨f, t1, t2, -⟩ := ht
  refine ⟨⟨f, gup_s _ _ _, (gup_n (hX.ne (by decide) (by decide) (by decide))).trans t2, by decide, fun i hi => absurd hi (Nat.not_lt_zero _), fun c hc => by cases hc⟩, fun b h1 _ => gup_n h1⟩
theorem c_HT_erase (hst : K.1.stackTraces = false) (hh : gHt h X tx fl k c w A CS) : Ct K r_HT_erase M_HT_erase [.ref (X 0)] h (gRx fun o h' => o = some (.int (nI tx.length)) ∧ gHt h' X [] fl k c w A CS ∧ gKx h h' (gOf X 145)) := by
  obtain ⟨hX, h1, h2, h3, h4⟩ := id hh
  obtain ⟨t1, t2⟩ := h2.emp hX
  obtain ⟨y1, y2⟩ := hh.txt t1 t2
  refine Ct.of hst (by decide) (Or.inl rfl) (Nat.le_of_ble_eq_true rfl) ?_
  refine g_aload_n d_HT_erase_0 rfl ?_
  refine g_get d_HT_erase_1 f_HT_12 (h1) rfl ?_
  refine g_callR (c_Text_empty hst h2.choose_spec.1) gm_Text_empty d_HT_erase_4 (gInv_v (As := []) (rest := []) d_HT_erase_4 gm_Text_empty gv_HT_38 (h2.choose_spec.1) rfl) (Nat.le_of_ble_eq_true rfl) (Nat.le_of_ble_eq_true rfl) (Nat.le_of_ble_eq_true rfl) (Nat.le_of_ble_eq_true rfl) (Nat.le_of_ble_eq_true rfl) ?_
  exact g_ret_i d_HT_erase_7 rfl rfl ⟨_, rfl, rfl, y1, y2⟩
/-- what a text says, from the start -/
abbrev rd0 (tx : List Nat) (w0 : Nat → Int32) : Option Nat × Nat × Nat × (Nat → Int32) × (Nat → Nat) × (Nat → gLD) := rdG tx 48 1 0 0 w0 (fun _ => 0) (fun _ => (false, 0, 0, 0, 0))
theorem rd0_ok {w0 : Nat → Int32} (hw : ∀ p, p < 4 → w0 p = -1) (hn : (rd0 tx w0).1 = none) : (1 ≤ (rd0 tx w0).2.1 ∧ (rd0 tx w0).2.1 ≤ 12) ∧ atc (rd0 tx w0).2.2.2.1 (rd0 tx w0).2.2.1 ≤ 12 ∧ wok (rd0 tx w0).2.2.2.1 ∧ (rd0 tx w0).2.2.1 < 8 ∧ (∀ j, (rd0 tx w0).2.2.2.2.1 j ≤ 4) ∧ ∀ u, ∀ i, i < (rd0 tx w0).2.2.2.2.1 u → lok (rd0 tx w0).2.2.1 (rd0 tx w0).2.2.2.1 ((rd0 tx w0).2.2.2.2.2 (4 * u + i)) := by
  refine rdG_ok 48 1 0 0 w0 (fun _ => 0) _ (by decide) (Nat.zero_le _) ?_ (fun p hp => Or.inl (hw p hp)) (by decide) (fun j => ⟨by decide, fun _ => rfl⟩) (by decide) (fun u i hi => absurd hi (Nat.not_lt_zero _)) hn
  unfold atc
  simp only [fat, hw 0 (by decide), hw 1 (by decide), hw 2 (by decide), hw 3 (by decide)]
  decide
end FACE5
