/-! ===== the face: what throws ===== -/
def gKx (h h' : gH) (P : Nat → Prop) : Prop := ∀ x, ¬ P x → h x ≠ none → h' x = h x
theorem gKP.x {h h' : gH} {P : Nat → Prop} (hk : gKP h h' P) : gKx h h' P := fun x hx _ => hk x hx
theorem gKx.tr {h h' h'' : gH} {P : Nat → Prop} (a : gKx h h' P) (b : gKx h' h'' P) : gKx h h'' P := fun x hx hn => by
  have := a x hx hn
  rw [b x hx (by rw [this]; exact hn), this]
theorem gKx.nw {h : gH} {P : Nat → Prop} {q : Nat} {e : gE} (hq : h q = none) : gKx h (gup h q e) P := fun x _ hn => gup_n fun z => hn (z ▸ hq)
def gTh (ci : Nat) (o : Outcome) (h' : gH) : Prop := ∃ q, o = .threw q ∧ h' q = some (.inr (ci, []))
section FACE2
variable {K : gK} {h : gH} {X : Nat → Nat} {tx : List Nat} {fl : Int32} {k c : Nat} {w : Nat → Int32} {A : Nat} {CS : Nat → Nat → Prop}
theorem gTu.sm {a wa : Nat} (ht : gTu h a wa) : h a ≠ none ∧ h wa ≠ none := by
  obtain ⟨v1, v2, f, t1, t2⟩ := ht
  rw [t1, t2]
  exact ⟨by simp, by simp⟩
theorem gIs.sm {a ca cap : Nat} {l : List Nat} (ht : gIs h a ca cap l) : h a ≠ none ∧ h ca ≠ none := by
  obtain ⟨-, -, -, f, t1, t2, -⟩ := ht
  rw [t1, t2]
  exact ⟨by simp, by simp⟩
theorem gVu.sm {a aa fa c : Nat} {w : Nat → Int32} (ht : gVu h a aa fa w c) : h a ≠ none ∧ h aa ≠ none ∧ h fa ≠ none := by
  obtain ⟨-, -, -, f, v3, v4, t1, t2, t3⟩ := ht
  rw [t1, t2, t3]
  exact ⟨by simp, by simp, by simp⟩
/-- every numbered cell is there -/
theorem gHt.sm (hh : gHt h X tx fl k c w A CS) {i : Nat} (hi : i < 145) : h (X i) ≠ none := by
  obtain ⟨hX, h1, ⟨ft, h2, h3, -⟩, ⟨⟨k0, p0, r1⟩, ⟨w0, c0, r2⟩, ⟨f0, r3⟩, ⟨⟨fl0, l1, -⟩, l3, -⟩⟩, ⟨⟨a1, -⟩, ⟨-, b2, -⟩, ⟨⟨f6, c1⟩, fl1, c2, -⟩, ⟨fo, d1, -⟩, ⟨al, e1, -⟩, ⟨⟨l0, g1⟩, ⟨t, g, g2, -⟩, g3⟩, ⟨f1, -⟩, t3⟩⟩ := hh
  have S : ∀ {x : Nat} {e : gE}, h x = some e → h x ≠ none := fun z => by rw [z]; simp
  rcases (show i < 9 ∨ (9 ≤ i ∧ i < 57) ∨ (57 ≤ i ∧ i < 105) ∨ (105 ≤ i ∧ i < 121) ∨ (121 ≤ i ∧ i < 133) ∨ (133 ≤ i ∧ i < 145) by omega) with hi | ⟨h8, h9⟩ | ⟨h8, h9⟩ | ⟨h8, h9⟩ | ⟨h8, h9⟩ | ⟨h8, h9⟩
  · rcases (show i = 0 ∨ i = 1 ∨ i = 2 ∨ i = 3 ∨ i = 4 ∨ i = 5 ∨ i = 6 ∨ i = 7 ∨ i = 8 by omega) with e | e | e | e | e | e | e | e | e <;> subst e
    · exact S h1
    · exact S h2
    · exact S h3
    · exact S r1
    · exact r2.sm.1
    · exact r2.sm.2.1
    · exact r2.sm.2.2
    · exact S l1
    · exact S r3
  · obtain ⟨b, q, z1, -⟩ := l3 (i - 9) (by omega)
    have z2 : h (X (3 + (6 + (i - 9)))) = _ := z1
    rw [show 3 + (6 + (i - 9)) = i by omega] at z2
    exact S z2
  · obtain ⟨b, q, -, f, z1, -⟩ := l3 (i - 57) (by omega)
    have z2 : h (X (3 + (54 + (i - 57)))) = _ := z1
    rw [show 3 + (54 + (i - 57)) = i by omega] at z2
    exact S z2
  · rcases (show i = 105 ∨ i = 106 ∨ i = 107 ∨ i = 108 ∨ i = 109 ∨ i = 110 ∨ i = 111 ∨ i = 112 ∨ i = 113 ∨ i = 114 ∨ i = 115 ∨ i = 116 ∨ i = 117 ∨ i = 118 ∨ i = 119 ∨ i = 120 by omega) with e | e | e | e | e | e | e | e | e | e | e | e | e | e | e | e <;> subst e
    · exact S a1
    · exact b2.sm.1
    · exact b2.sm.2.1
    · exact b2.sm.2.2
    · exact S d1
    · exact e1.sm.1
    · exact e1.sm.2
    · exact g1.sm.1
    · exact g1.sm.2
    · exact S g2
    · exact S c2
    · exact g3.sm.1
    · exact g3.sm.2
    · exact t3.sm.1
    · exact t3.sm.2
    · exact S c1
  · have z := (f1 (i - 121) (by omega)).sm.1
    have z2 : h (X (105 + (16 + (i - 121)))) ≠ none := z
    rw [show 105 + (16 + (i - 121)) = i by omega] at z2
    exact z2
  · have z := (f1 (i - 133) (by omega)).sm.2
    have z2 : h (X (105 + (28 + (i - 133)))) ≠ none := z
    rw [show 105 + (28 + (i - 133)) = i by omega] at z2
    exact z2
theorem gHt.of {h' : gH} (hh : gHt h X tx fl k c w A CS) (he : ∀ i, i < 145 → h' (X i) = h (X i)) : gHt h' X tx fl k c w A CS := by
  obtain ⟨hX, h1, h2, h3, h4⟩ := hh
  exact ⟨hX, (he 0 (by decide)).trans h1, h2.of (he 1 (by decide)) (he 2 (by decide)), h3.of fun i hi => he (3 + i) (by omega), h4.of (fun i hi _ _ => he (105 + i) (by omega)) (h4.2.2.2.2.2.2.2.of (he 118 (by decide)) (he 119 (by decide)))⟩
theorem gHt.nw (hh : gHt h X tx fl k c w A CS) {q : Nat} {e : gE} (hq : h q = none) : gHt (gup h q e) X tx fl k c w A CS := hh.of fun i hi => gup_n fun z => hh.sm hi (z ▸ hq)
theorem c_HT_require (hst : K.1.stackTraces = false) (hh : gHt h X tx fl k c w A CS) : Ct K r_HT_requireSentence M_HT_requireSentence [.ref (X 0)] h (fun o h' => (¬ k = 0 ∧ o = .returned none ∧ h' = h) ∨ (k = 0 ∧ gTh 11 o h' ∧ gHt h' X tx fl k c w A CS ∧ gKx h h' (gOf X 145))) := by
  obtain ⟨hX, h1, h2, h3, h4⟩ := id hh
  have k12 := h4.1.2.1
  refine Ct.of hst (by decide) (Or.inl rfl) (Nat.le_of_ble_eq_true rfl) ?_
  refine g_aload_n d_HT_requireSentence_0 rfl ?_
  refine g_get d_HT_requireSentence_1 f_HT_26 (h1) rfl ?_
  refine g_get d_HT_requireSentence_4 f_HT_56 (h4.1.1) rfl ?_
  refine g_if_ne (tgt := 18) d_HT_requireSentence_7 (by decide) (fun q => ?_) (fun q => ?_)
  · exact g_ret_v d_HT_requireSentence_18 rfl (Or.inl ⟨fun z => q ((nI_z (by omega)).mpr z), rfl, rfl⟩)
  · refine g_throw (X := "java/lang/IllegalStateException") (ci := 11) ⟨xn_ISE, xw_ISE, rfl, by decide +kernel⟩ d_HT_requireSentence_10 d_HT_requireSentence_13 d_HT_requireSentence_14 d_HT_requireSentence_17 rfl (by decide) (by decide) (by decide) (by decide) fun x hx => Or.inr ⟨(nI_z (by omega)).mp q, ⟨x, rfl, gup_s _ _ _⟩, hh.nw hx, gKx.nw hx⟩
end FACE2
