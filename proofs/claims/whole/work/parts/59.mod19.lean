/-! ===== the reference's constructor ===== -/
def mIn (h0 h : gH) (S : Nat → Nat) (t a : Nat) (fs : List Value) : Prop := aIn h0 h S t ∧ S 0 = a ∧ h a = some (.inr (9, fs)) ∧ ∀ m, 1 ≤ m → m < t → h (S m) = some (.inl (mkk m, mkl m, .inl fun _ => 0))
theorem mIn.step {h0 h : gH} {S : Nat → Nat} {t a q : Nat} {fs : List Value} (ht : 1 ≤ t) (hI : mIn h0 h S t a fs) (hq : h q = none) (fs' : List Value) : mIn h0 (gup (gup h q (.inl (mkk t, mkl t, .inl fun _ => 0))) a (.inr (9, fs'))) (va_up S t q) (t + 1) a fs' := by
  obtain ⟨i1, i2, i3, i4⟩ := hI
  have e0 : va_up S t q 0 = a := (if_neg (show ¬ 0 = t by omega)).trans i2
  have j1 := (i1.add (e := .inl (mkk t, mkl t, .inl fun _ => 0)) ht hq).put (m := 0) (e := .inr (9, fs')) (by omega)
  rw [e0] at j1
  refine ⟨j1, e0, gup_s _ _ _, fun m m1 m2 => ?_⟩
  have hne : va_up S t q m ≠ a := fun z => by
    have := j1.1 m m2 0 (by omega) (z.trans e0.symm)
    omega
  rw [gup_n hne]
  by_cases e : m = t
  · subst e
    rw [show va_up S m q m = q from if_pos rfl]
    exact gup_s _ _ _
  · rw [show va_up S t q m = S m from if_neg e]
    have hne2 : S m ≠ q := fun z => i1.2.1 m (by omega) (z ▸ hq)
    rw [gup_n hne2]
    exact i4 m m1 (by omega)
theorem mIn.obj {h0 h : gH} {S : Nat → Nat} {t a : Nat} {fs : List Value} (ht : 1 ≤ t) (hI : mIn h0 h S t a fs) (fs' : List Value) : mIn h0 (gup h a (.inr (9, fs'))) S t a fs' := by
  obtain ⟨i1, i2, i3, i4⟩ := hI
  have j1 := i1.put (m := 0) (e := .inr (9, fs')) (by omega)
  rw [i2] at j1
  refine ⟨j1, i2, gup_s _ _ _, fun m m1 m2 => ?_⟩
  have hne : S m ≠ a := fun z => by
    have := j1.1 m m2 0 (by omega) (z.trans i2.symm)
    omega
  rw [gup_n hne]
  exact i4 m m1 m2
theorem c_Mod_init {K : gK} {h : gH} (hst : K.1.stackTraces = false) {a : Nat} (ha : h a = some (.inr (9, [.int 0, .int 0, .null, .int 0, .int 0, .null, .null, .null, .null, .null, .null, .int 0, .int 0, .int 0, .null, .null, .null, .null, .null, .null, .int 0, .int 0, .null, .null, .null]))) (w : Nat → Int32) (CS : Nat → Nat → Prop) : Ct K r_Mod_init M_Mod_init [.ref a] h (gRx fun o h' => o = none ∧ ∃ Y, Y 0 = a ∧ gMo h' Y 0 [] (-1) 0 0 w 0 CS ∧ (∀ i, i < 17 → i ≠ 0 → h (Y i) = none) ∧ gKP h h' (gOf Y 17)) := by
  refine Ct.of hst (by decide) (Or.inl rfl) (Nat.le_of_ble_eq_true rfl) ?_
  have i0 : mIn h h (fun _ => a) 1 a [.int 0, .int 0, .null, .int 0, .int 0, .null, .null, .null, .null, .null, .null, .int 0, .int 0, .int 0, .null, .null, .null, .null, .null, .null, .int 0, .int 0, .null, .null, .null] := ⟨⟨fun m hm n hn _ => by omega, fun n hn => by rw [ha]; simp, fun n hn h9 => by omega, fun x _ => rfl⟩, rfl, ha, fun m m1 m2 => by omega⟩
  refine g_aload_n d_Mod_init_0 rfl ?_
  refine g_obj d_Mod_init_1 go_Mod_1 ob_1 ob_2 (Nat.le_of_ble_eq_true rfl) (Nat.le_of_ble_eq_true rfl) (Nat.le_of_ble_eq_true rfl) ?_
  refine g_aload_n d_Mod_init_4 rfl ?_
  refine g_bipush (v := nI 97) d_Mod_init_5 (by decide) ?_
  refine g_newI d_Mod_init_7 ac_int rfl (by decide) (Nat.le_of_ble_eq_true rfl) (Nat.le_of_ble_eq_true rfl) (fun q1 hq1 => ?_)
  refine g_putF (k := 2) (fs' := [_, _, _, _, _, _, _, _, _, _, _, _, _, _, _, _, _, _, _, _, _, _, _, _, _]) d_Mod_init_9 gc_Mod (by decide) rfl rfl fl_Mod_7 rfl rfl ((gup_n (gne0 i0.2.2.1 hq1)).trans i0.2.2.1) rfl rfl (Nat.le_of_ble_eq_true rfl) rfl ?_
  have i1 := i0.step (by decide) hq1 [.int 0, .int 0, .ref q1, .int 0, .int 0, .null, .null, .null, .null, .null, .null, .int 0, .int 0, .int 0, .null, .null, .null, .null, .null, .null, .int 0, .int 0, .null, .null, .null]
  refine g_aload_n d_Mod_init_12 rfl ?_
  refine g_iconst (v := -1) d_Mod_init_13 (by decide) ?_
  refine g_put (fs' := [_, _, _, _, _, _, _, _, _, _, _, _, _, _, _, _, _, _, _, _, _, _, _, _, _]) d_Mod_init_14 f_Mod_13 (i1.2.2.1) rfl rfl (Nat.le_of_ble_eq_true rfl) rfl ?_
  have i1b := i1.obj (by decide) [.int 0, .int 0, .ref q1, .int (-1), .int 0, .null, .null, .null, .null, .null, .null, .int 0, .int 0, .int 0, .null, .null, .null, .null, .null, .null, .int 0, .int 0, .null, .null, .null]
  refine g_aload_n d_Mod_init_17 rfl ?_
  refine g_bipush (v := nI 12) d_Mod_init_18 (by decide) ?_
  refine g_newI d_Mod_init_20 ac_int rfl (by decide) (Nat.le_of_ble_eq_true rfl) (Nat.le_of_ble_eq_true rfl) (fun q2 hq2 => ?_)
  refine g_putF (k := 5) (fs' := [_, _, _, _, _, _, _, _, _, _, _, _, _, _, _, _, _, _, _, _, _, _, _, _, _]) d_Mod_init_22 gc_Mod (by decide) rfl rfl fl_Mod_17 rfl rfl ((gup_n (gne0 i1b.2.2.1 hq2)).trans i1b.2.2.1) rfl rfl (Nat.le_of_ble_eq_true rfl) rfl ?_
  have i2 := i1b.step (by decide) hq2 [.int 0, .int 0, .ref q1, .int (-1), .int 0, .ref q2, .null, .null, .null, .null, .null, .int 0, .int 0, .int 0, .null, .null, .null, .null, .null, .null, .int 0, .int 0, .null, .null, .null]
  refine g_aload_n d_Mod_init_25 rfl ?_
  refine g_bipush (v := nI 48) d_Mod_init_26 (by decide) ?_
  refine g_newI d_Mod_init_28 ac_int rfl (by decide) (Nat.le_of_ble_eq_true rfl) (Nat.le_of_ble_eq_true rfl) (fun q3 hq3 => ?_)
  refine g_putF (k := 6) (fs' := [_, _, _, _, _, _, _, _, _, _, _, _, _, _, _, _, _, _, _, _, _, _, _, _, _]) d_Mod_init_30 gc_Mod (by decide) rfl rfl fl_Mod_20 rfl rfl ((gup_n (gne0 i2.2.2.1 hq3)).trans i2.2.2.1) rfl rfl (Nat.le_of_ble_eq_true rfl) rfl ?_
  have i3 := i2.step (by decide) hq3 [.int 0, .int 0, .ref q1, .int (-1), .int 0, .ref q2, .ref q3, .null, .null, .null, .null, .int 0, .int 0, .int 0, .null, .null, .null, .null, .null, .null, .int 0, .int 0, .null, .null, .null]
  refine g_aload_n d_Mod_init_33 rfl ?_
  refine g_bipush (v := nI 48) d_Mod_init_34 (by decide) ?_
  refine g_newZ d_Mod_init_36 ac_boolean rfl (by decide) (Nat.le_of_ble_eq_true rfl) (Nat.le_of_ble_eq_true rfl) (fun q4 hq4 => ?_)
  refine g_putF (k := 7) (fs' := [_, _, _, _, _, _, _, _, _, _, _, _, _, _, _, _, _, _, _, _, _, _, _, _, _]) d_Mod_init_38 gc_Mod (by decide) rfl rfl fl_Mod_23 rfl rfl ((gup_n (gne0 i3.2.2.1 hq4)).trans i3.2.2.1) rfl rfl (Nat.le_of_ble_eq_true rfl) rfl ?_
  have i4 := i3.step (by decide) hq4 [.int 0, .int 0, .ref q1, .int (-1), .int 0, .ref q2, .ref q3, .ref q4, .null, .null, .null, .int 0, .int 0, .int 0, .null, .null, .null, .null, .null, .null, .int 0, .int 0, .null, .null, .null]
  refine g_aload_n d_Mod_init_41 rfl ?_
  refine g_bipush (v := nI 48) d_Mod_init_42 (by decide) ?_
  refine g_newI d_Mod_init_44 ac_int rfl (by decide) (Nat.le_of_ble_eq_true rfl) (Nat.le_of_ble_eq_true rfl) (fun q5 hq5 => ?_)
  refine g_putF (k := 8) (fs' := [_, _, _, _, _, _, _, _, _, _, _, _, _, _, _, _, _, _, _, _, _, _, _, _, _]) d_Mod_init_46 gc_Mod (by decide) rfl rfl fl_Mod_27 rfl rfl ((gup_n (gne0 i4.2.2.1 hq5)).trans i4.2.2.1) rfl rfl (Nat.le_of_ble_eq_true rfl) rfl ?_
  have i5 := i4.step (by decide) hq5 [.int 0, .int 0, .ref q1, .int (-1), .int 0, .ref q2, .ref q3, .ref q4, .ref q5, .null, .null, .int 0, .int 0, .int 0, .null, .null, .null, .null, .null, .null, .int 0, .int 0, .null, .null, .null]
  refine g_aload_n d_Mod_init_49 rfl ?_
  refine g_bipush (v := nI 48) d_Mod_init_50 (by decide) ?_
  refine g_newI d_Mod_init_52 ac_int rfl (by decide) (Nat.le_of_ble_eq_true rfl) (Nat.le_of_ble_eq_true rfl) (fun q6 hq6 => ?_)
  refine g_putF (k := 9) (fs' := [_, _, _, _, _, _, _, _, _, _, _, _, _, _, _, _, _, _, _, _, _, _, _, _, _]) d_Mod_init_54 gc_Mod (by decide) rfl rfl fl_Mod_30 rfl rfl ((gup_n (gne0 i5.2.2.1 hq6)).trans i5.2.2.1) rfl rfl (Nat.le_of_ble_eq_true rfl) rfl ?_
  have i6 := i5.step (by decide) hq6 [.int 0, .int 0, .ref q1, .int (-1), .int 0, .ref q2, .ref q3, .ref q4, .ref q5, .ref q6, .null, .int 0, .int 0, .int 0, .null, .null, .null, .null, .null, .null, .int 0, .int 0, .null, .null, .null]
  refine g_aload_n d_Mod_init_57 rfl ?_
  refine g_iconst (v := nI 4) d_Mod_init_58 (by decide) ?_
  refine g_newI d_Mod_init_59 ac_int rfl (by decide) (Nat.le_of_ble_eq_true rfl) (Nat.le_of_ble_eq_true rfl) (fun q7 hq7 => ?_)
  refine g_putF (k := 10) (fs' := [_, _, _, _, _, _, _, _, _, _, _, _, _, _, _, _, _, _, _, _, _, _, _, _, _]) d_Mod_init_61 gc_Mod (by decide) rfl rfl fl_Mod_33 rfl rfl ((gup_n (gne0 i6.2.2.1 hq7)).trans i6.2.2.1) rfl rfl (Nat.le_of_ble_eq_true rfl) rfl ?_
  have i7 := i6.step (by decide) hq7 [.int 0, .int 0, .ref q1, .int (-1), .int 0, .ref q2, .ref q3, .ref q4, .ref q5, .ref q6, .ref q7, .int 0, .int 0, .int 0, .null, .null, .null, .null, .null, .null, .int 0, .int 0, .null, .null, .null]
  refine g_aload_n d_Mod_init_64 rfl ?_
  refine g_bipush (v := nI 12) d_Mod_init_65 (by decide) ?_
  refine g_newI d_Mod_init_67 ac_int rfl (by decide) (Nat.le_of_ble_eq_true rfl) (Nat.le_of_ble_eq_true rfl) (fun q8 hq8 => ?_)
  refine g_putF (k := 14) (fs' := [_, _, _, _, _, _, _, _, _, _, _, _, _, _, _, _, _, _, _, _, _, _, _, _, _]) d_Mod_init_69 gc_Mod (by decide) rfl rfl fl_Mod_36 rfl rfl ((gup_n (gne0 i7.2.2.1 hq8)).trans i7.2.2.1) rfl rfl (Nat.le_of_ble_eq_true rfl) rfl ?_
  have i8 := i7.step (by decide) hq8 [.int 0, .int 0, .ref q1, .int (-1), .int 0, .ref q2, .ref q3, .ref q4, .ref q5, .ref q6, .ref q7, .int 0, .int 0, .int 0, .ref q8, .null, .null, .null, .null, .null, .int 0, .int 0, .null, .null, .null]
  refine g_aload_n d_Mod_init_72 rfl ?_
  refine g_bipush (v := nI 48) d_Mod_init_73 (by decide) ?_
  refine g_newI d_Mod_init_75 ac_int rfl (by decide) (Nat.le_of_ble_eq_true rfl) (Nat.le_of_ble_eq_true rfl) (fun q9 hq9 => ?_)
  refine g_putF (k := 15) (fs' := [_, _, _, _, _, _, _, _, _, _, _, _, _, _, _, _, _, _, _, _, _, _, _, _, _]) d_Mod_init_77 gc_Mod (by decide) rfl rfl fl_Mod_39 rfl rfl ((gup_n (gne0 i8.2.2.1 hq9)).trans i8.2.2.1) rfl rfl (Nat.le_of_ble_eq_true rfl) rfl ?_
  have i9 := i8.step (by decide) hq9 [.int 0, .int 0, .ref q1, .int (-1), .int 0, .ref q2, .ref q3, .ref q4, .ref q5, .ref q6, .ref q7, .int 0, .int 0, .int 0, .ref q8, .ref q9, .null, .null, .null, .null, .int 0, .int 0, .null, .null, .null]
  refine g_aload_n d_Mod_init_80 rfl ?_
  refine g_bipush (v := nI 48) d_Mod_init_81 (by decide) ?_
  refine g_newZ d_Mod_init_83 ac_boolean rfl (by decide) (Nat.le_of_ble_eq_true rfl) (Nat.le_of_ble_eq_true rfl) (fun q10 hq10 => ?_)
  refine g_putF (k := 16) (fs' := [_, _, _, _, _, _, _, _, _, _, _, _, _, _, _, _, _, _, _, _, _, _, _, _, _]) d_Mod_init_85 gc_Mod (by decide) rfl rfl fl_Mod_42 rfl rfl ((gup_n (gne0 i9.2.2.1 hq10)).trans i9.2.2.1) rfl rfl (Nat.le_of_ble_eq_true rfl) rfl ?_
  have i10 := i9.step (by decide) hq10 [.int 0, .int 0, .ref q1, .int (-1), .int 0, .ref q2, .ref q3, .ref q4, .ref q5, .ref q6, .ref q7, .int 0, .int 0, .int 0, .ref q8, .ref q9, .ref q10, .null, .null, .null, .int 0, .int 0, .null, .null, .null]
  refine g_aload_n d_Mod_init_88 rfl ?_
  refine g_bipush (v := nI 48) d_Mod_init_89 (by decide) ?_
  refine g_newI d_Mod_init_91 ac_int rfl (by decide) (Nat.le_of_ble_eq_true rfl) (Nat.le_of_ble_eq_true rfl) (fun q11 hq11 => ?_)
  refine g_putF (k := 17) (fs' := [_, _, _, _, _, _, _, _, _, _, _, _, _, _, _, _, _, _, _, _, _, _, _, _, _]) d_Mod_init_93 gc_Mod (by decide) rfl rfl fl_Mod_45 rfl rfl ((gup_n (gne0 i10.2.2.1 hq11)).trans i10.2.2.1) rfl rfl (Nat.le_of_ble_eq_true rfl) rfl ?_
  have i11 := i10.step (by decide) hq11 [.int 0, .int 0, .ref q1, .int (-1), .int 0, .ref q2, .ref q3, .ref q4, .ref q5, .ref q6, .ref q7, .int 0, .int 0, .int 0, .ref q8, .ref q9, .ref q10, .ref q11, .null, .null, .int 0, .int 0, .null, .null, .null]
  refine g_aload_n d_Mod_init_96 rfl ?_
  refine g_bipush (v := nI 48) d_Mod_init_97 (by decide) ?_
  refine g_newI d_Mod_init_99 ac_int rfl (by decide) (Nat.le_of_ble_eq_true rfl) (Nat.le_of_ble_eq_true rfl) (fun q12 hq12 => ?_)
  refine g_putF (k := 18) (fs' := [_, _, _, _, _, _, _, _, _, _, _, _, _, _, _, _, _, _, _, _, _, _, _, _, _]) d_Mod_init_101 gc_Mod (by decide) rfl rfl fl_Mod_48 rfl rfl ((gup_n (gne0 i11.2.2.1 hq12)).trans i11.2.2.1) rfl rfl (Nat.le_of_ble_eq_true rfl) rfl ?_
  have i12 := i11.step (by decide) hq12 [.int 0, .int 0, .ref q1, .int (-1), .int 0, .ref q2, .ref q3, .ref q4, .ref q5, .ref q6, .ref q7, .int 0, .int 0, .int 0, .ref q8, .ref q9, .ref q10, .ref q11, .ref q12, .null, .int 0, .int 0, .null, .null, .null]
  refine g_aload_n d_Mod_init_104 rfl ?_
  refine g_iconst (v := nI 4) d_Mod_init_105 (by decide) ?_
  refine g_newI d_Mod_init_106 ac_int rfl (by decide) (Nat.le_of_ble_eq_true rfl) (Nat.le_of_ble_eq_true rfl) (fun q13 hq13 => ?_)
  refine g_putF (k := 19) (fs' := [_, _, _, _, _, _, _, _, _, _, _, _, _, _, _, _, _, _, _, _, _, _, _, _, _]) d_Mod_init_108 gc_Mod (by decide) rfl rfl fl_Mod_51 rfl rfl ((gup_n (gne0 i12.2.2.1 hq13)).trans i12.2.2.1) rfl rfl (Nat.le_of_ble_eq_true rfl) rfl ?_
  have i13 := i12.step (by decide) hq13 [.int 0, .int 0, .ref q1, .int (-1), .int 0, .ref q2, .ref q3, .ref q4, .ref q5, .ref q6, .ref q7, .int 0, .int 0, .int 0, .ref q8, .ref q9, .ref q10, .ref q11, .ref q12, .ref q13, .int 0, .int 0, .null, .null, .null]
  refine g_aload_n d_Mod_init_111 rfl ?_
  refine g_sipush (v := nI 324) d_Mod_init_112 (by decide) ?_
  refine g_newI d_Mod_init_115 ac_int rfl (by decide) (Nat.le_of_ble_eq_true rfl) (Nat.le_of_ble_eq_true rfl) (fun q14 hq14 => ?_)
  refine g_putF (k := 22) (fs' := [_, _, _, _, _, _, _, _, _, _, _, _, _, _, _, _, _, _, _, _, _, _, _, _, _]) d_Mod_init_117 gc_Mod (by decide) rfl rfl fl_Mod_54 rfl rfl ((gup_n (gne0 i13.2.2.1 hq14)).trans i13.2.2.1) rfl rfl (Nat.le_of_ble_eq_true rfl) rfl ?_
  have i14 := i13.step (by decide) hq14 [.int 0, .int 0, .ref q1, .int (-1), .int 0, .ref q2, .ref q3, .ref q4, .ref q5, .ref q6, .ref q7, .int 0, .int 0, .int 0, .ref q8, .ref q9, .ref q10, .ref q11, .ref q12, .ref q13, .int 0, .int 0, .ref q14, .null, .null]
  refine g_aload_n d_Mod_init_120 rfl ?_
  refine g_bipush (v := nI 12) d_Mod_init_121 (by decide) ?_
  refine g_newI d_Mod_init_123 ac_int rfl (by decide) (Nat.le_of_ble_eq_true rfl) (Nat.le_of_ble_eq_true rfl) (fun q15 hq15 => ?_)
  refine g_putF (k := 23) (fs' := [_, _, _, _, _, _, _, _, _, _, _, _, _, _, _, _, _, _, _, _, _, _, _, _, _]) d_Mod_init_125 gc_Mod (by decide) rfl rfl fl_Mod_57 rfl rfl ((gup_n (gne0 i14.2.2.1 hq15)).trans i14.2.2.1) rfl rfl (Nat.le_of_ble_eq_true rfl) rfl ?_
  have i15 := i14.step (by decide) hq15 [.int 0, .int 0, .ref q1, .int (-1), .int 0, .ref q2, .ref q3, .ref q4, .ref q5, .ref q6, .ref q7, .int 0, .int 0, .int 0, .ref q8, .ref q9, .ref q10, .ref q11, .ref q12, .ref q13, .int 0, .int 0, .ref q14, .ref q15, .null]
  refine g_aload_n d_Mod_init_128 rfl ?_
  refine g_sipush (v := nI 1536) d_Mod_init_129 (by decide) ?_
  refine g_newI d_Mod_init_132 ac_int rfl (by decide) (Nat.le_of_ble_eq_true rfl) (Nat.le_of_ble_eq_true rfl) (fun q16 hq16 => ?_)
  refine g_putF (k := 24) (fs' := [_, _, _, _, _, _, _, _, _, _, _, _, _, _, _, _, _, _, _, _, _, _, _, _, _]) d_Mod_init_134 gc_Mod (by decide) rfl rfl fl_Mod_60 rfl rfl ((gup_n (gne0 i15.2.2.1 hq16)).trans i15.2.2.1) rfl rfl (Nat.le_of_ble_eq_true rfl) rfl ?_
  have i16 := i15.step (by decide) hq16 [.int 0, .int 0, .ref q1, .int (-1), .int 0, .ref q2, .ref q3, .ref q4, .ref q5, .ref q6, .ref q7, .int 0, .int 0, .int 0, .ref q8, .ref q9, .ref q10, .ref q11, .ref q12, .ref q13, .int 0, .int 0, .ref q14, .ref q15, .ref q16]
  obtain ⟨⟨j1, j2, j3, j4⟩, j5, j6, j7⟩ := i16
  refine g_ret_v d_Mod_init_137 rfl ⟨_, rfl, rfl, _, j5, ⟨fun _ _ => 0, 0, 0, 0, 0, ⟨⟨⟨fun i hi j hj e => j1 i hi j hj e, fun j => Or.inl rfl⟩, fun i h1 h2 => j7 i h1 h2⟩, ?_⟩, ⟨rfl, by decide, fun i hi => absurd hi (Nat.not_lt_zero _), fun c hc => by cases hc⟩, ⟨by decide, by decide⟩, fun z => absurd rfl z, ⟨fun _ => [], fun u hu => absurd hu (Nat.not_lt_zero _)⟩, fun u hu => absurd hu (Nat.not_lt_zero _)⟩, fun i hi h0 => j3 i hi h0, fun x hx => j4 x fun n hn e => hx ⟨n, hn, e⟩⟩
  rw [j5]
  exact j6
