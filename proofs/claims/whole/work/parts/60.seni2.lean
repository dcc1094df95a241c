/-! ===== the sentence's constructor ===== -/
def eIn (ci : Nat) (h0 h : gH) (S : Nat → Nat) (t a : Nat) (E : Nat → gE) (fs : List Value) : Prop := aIn h0 h S t ∧ S 0 = a ∧ h a = some (.inr (ci, fs)) ∧ ∀ m, 1 ≤ m → m < t → h (S m) = some (E m)
theorem eIn.add {ci : Nat} {h0 h : gH} {S : Nat → Nat} {t a q : Nat} {E : Nat → gE} {fs : List Value} (ht : 1 ≤ t) (hI : eIn ci h0 h S t a E fs) (hq : h q = none) (e : gE) : eIn ci h0 (gup h q e) (va_up S t q) (t + 1) a (va_up E t e) fs := by
  obtain ⟨i1, i2, i3, i4⟩ := hI
  refine ⟨i1.add ht hq, (if_neg (show ¬ 0 = t by omega)).trans i2, (gup_n (gne0 i3 hq)).trans i3, fun m m1 m2 => ?_⟩
  by_cases z : m = t
  · subst z
    rw [show va_up S m q m = q from if_pos rfl, show va_up E m e m = e from if_pos rfl]
    exact gup_s _ _ _
  · rw [show va_up S t q m = S m from if_neg z, show va_up E t e m = E m from if_neg z, gup_n (show S m ≠ q from fun y => i1.2.1 m (by omega) (y ▸ hq))]
    exact i4 m m1 (by omega)
theorem eIn.obj {ci : Nat} {h0 h : gH} {S : Nat → Nat} {t a : Nat} {E : Nat → gE} {fs : List Value} (ht : 1 ≤ t) (hI : eIn ci h0 h S t a E fs) (fs' : List Value) : eIn ci h0 (gup h a (.inr (ci, fs'))) S t a E fs' := by
  obtain ⟨i1, i2, i3, i4⟩ := hI
  have j1 := i1.put (m := 0) (e := .inr (ci, fs')) (by omega)
  rw [i2] at j1
  refine ⟨j1, i2, gup_s _ _ _, fun m m1 m2 => ?_⟩
  have hne : S m ≠ a := fun z => by
    have := j1.1 m m2 0 (by omega) (z.trans i2.symm)
    omega
  rw [gup_n hne]
  exact i4 m m1 m2
theorem nw_2 {h : gH} {q x : Nat} {e0 : gE} (hx : gup h q e0 x = none) : x ≠ q ∧ h x = none := by
  have hn : x ≠ q := fun z => by
    rw [z, gup_s] at hx
    cases hx
  rw [gup_n hn] at hx
  exact ⟨hn, hx⟩
theorem eq_2 {h h' : gH} {q x : Nat} {e0 e1 e2 : gE} (hk : gKp (gup h q e0) h' [q, x]) (h1 : h' q = some e1) (h2 : h' x = some e2) : h' = gup (gup h q e1) x e2 := by
  funext y
  by_cases y2 : y = x
  · rw [y2, h2, gup_s]
  · rw [gup_n y2]
    by_cases y1 : y = q
    · rw [y1, h1, gup_s]
    · rw [gup_n y1, hk y (nm2 y1 y2), gup_n y1]
theorem eq_3 {h h' : gH} {q x z : Nat} {e0 e1 e2 e3 : gE} (hk : gKp (gup h q e0) h' [q, x, z]) (h1 : h' q = some e1) (h2 : h' x = some e2) (h3 : h' z = some e3) : h' = gup (gup (gup h q e1) x e2) z e3 := by
  funext y
  by_cases y3 : y = z
  · rw [y3, h3, gup_s]
  · rw [gup_n y3]
    by_cases y2 : y = x
    · rw [y2, h2, gup_s]
    · rw [gup_n y2]
      by_cases y1 : y = q
      · rw [y1, h1, gup_s]
      · rw [gup_n y1, hk y (by simp [y1, y2, y3]), gup_n y1]
theorem eIn.sIn {h0 h : gH} {S : Nat → Nat} {a t : Nat} {E : Nat → gE} {fs : List Value} (hI : eIn 5 h0 h S 16 a E fs) (ht : S 10 = t) {fl : Nat → Option Nat} (hr : E 10 = .inl (5, 12, .inr (.inr (.inr (.inr fl))))) : sIn h0 h a t (fun n => if n = 0 then .inr (5, fs) else E n) S 0 := by
  obtain ⟨⟨j1, j2, j3, j4⟩, j5, j6, j7⟩ := hI
  have d0 : ∀ {n}, sdm 0 n → n < 16 := fun hn => by
    unfold sdm at hn
    omega
  refine ⟨fun m hm n hn e => j1 m (d0 hm) n (d0 hn) e, fun n hn => j2 n (d0 hn), fun n hn h9 => j3 n (d0 hn) h9, fun x hx => j4 x fun n hn => hx n (Or.inl hn), j5, ht, fun n hn h9 => ?_, fl, (j7 10 (by decide) (by decide)).trans (by rw [hr]), fun j hj => absurd hj (Nat.not_lt_zero _)⟩
  show h (S n) = some (if n = 0 then .inr (5, fs) else E n)
  by_cases e0 : n = 0
  · subst e0
    rw [if_pos rfl, j5]
    exact j6
  · rw [if_neg e0]
    exact j7 n (by omega) hn
theorem c_Sen_init {K : gK} {h : gH} (hst : K.1.stackTraces = false) {a : Nat} (ha : h a = some (.inr (5, [.null, .int 0, .null, .null, .null, .null, .null, .null, .null, .null]))) : Ct K r_Sen_init M_Sen_init [.ref a] h (gRx fun o h' => o = none ∧ ∃ (S' : Nat → Nat) (w : Nat → Int32), S' 0 = a ∧ gNj S' 40 ∧ (∀ p, p < 4 → w p = -1) ∧ (∀ CS, gSe h' S' 0 0 w 0 CS) ∧ (∀ n, 1 ≤ n → n < 40 → h (S' n) = none) ∧ gKP h h' (gOf S' 40)) := by
  refine Ct.of hst (by decide) (Or.inl rfl) (Nat.le_of_ble_eq_true rfl) ?_
  have i0 : eIn 5 h h (fun _ => a) 1 a (fun _ => .inr (5, [])) [.null, .int 0, .null, .null, .null, .null, .null, .null, .null, .null] := ⟨⟨fun m hm n hn _ => by omega, fun n hn => by rw [ha]; simp, fun n hn h9 => by omega, fun x _ => rfl⟩, rfl, ha, fun m m1 m2 => by omega⟩
  refine g_aload_n d_Sen_init_0 rfl ?_
  refine g_obj d_Sen_init_1 go_Sen_3 ob_1 ob_2 (Nat.le_of_ble_eq_true rfl) (Nat.le_of_ble_eq_true rfl) (Nat.le_of_ble_eq_true rfl) ?_
  refine g_aload_n d_Sen_init_4 rfl ?_
  refine g_new d_Sen_init_5 nw_Sen_9 (Nat.le_of_ble_eq_true rfl) (Nat.le_of_ble_eq_true rfl) (fun q1 hq1 => ?_)
  refine g_dup d_Sen_init_8 rfl ?_
  refine g_callX (c_Voc_init hst (gup_s _ _ _)) gm_Voc_init d_Sen_init_9 (gInv_i (As := []) (rest := [.ref q1, .ref a]) d_Sen_init_9 gm_Voc_init gi_Sen_11 rfl) (Nat.le_of_ble_eq_true rfl) (Nat.le_of_ble_eq_true rfl) (Nat.le_of_ble_eq_true rfl) (Nat.le_of_ble_eq_true rfl) (Nat.le_of_ble_eq_true rfl) (fun v1 h1 hp => ?_)
  obtain ⟨rfl, q2, q3, w, hq2, hq3, gv, hw, hv1, kv⟩ := hp
  obtain ⟨-, -, n23, f3, -, -, -, hv2, hv3⟩ := id gv
  have m2 := nw_2 hq2
  have m3 := nw_2 hq3
  have e := eq_3 kv hv1 hv2 hv3
  subst e
  have i1 := ((i0.add (by decide) hq1 (.inr (2, [.ref q2, .ref q3, .int (nI 0), .int 0, .int (nI 0)]))).add (by decide) ((gup_n m2.1).trans m2.2) (.inl (0, 4, .inl w))).add (by decide) ((gup_n (Ne.symm n23)).trans ((gup_n m3.1).trans m3.2)) (.inl (0, 4, .inl f3))
  refine g_putF (k := 0) (fs' := [_, _, _, _, _, _, _, _, _, _]) d_Sen_init_12 gc_Sen (by decide) rfl rfl fl_Sen_12 rfl rfl (i1.2.2.1) rfl rfl (Nat.le_of_ble_eq_true rfl) rfl ?_
  have i1 := i1.obj (by decide) [.ref q1, .int 0, .null, .null, .null, .null, .null, .null, .null, .null]
  refine g_aload_n d_Sen_init_15 rfl ?_
  refine g_bipush (v := nI 12) d_Sen_init_16 (by decide) ?_
  refine g_newI d_Sen_init_18 ac_int rfl (by decide) (Nat.le_of_ble_eq_true rfl) (Nat.le_of_ble_eq_true rfl) (fun q4 hq4 => ?_)
  refine g_putF (k := 2) (fs' := [_, _, _, _, _, _, _, _, _, _]) d_Sen_init_20 gc_Sen (by decide) rfl rfl fl_Sen_18 rfl rfl ((gup_n (gne0 i1.2.2.1 hq4)).trans i1.2.2.1) rfl rfl (Nat.le_of_ble_eq_true rfl) rfl ?_
  have i4 := (i1.add (by decide) hq4 (.inl (0, 12, .inl fun _ => 0))).obj (by decide) [.ref q1, .int 0, .ref q4, .null, .null, .null, .null, .null, .null, .null]
  refine g_aload_n d_Sen_init_23 rfl ?_
  refine g_new d_Sen_init_24 nw_Sen_22 (Nat.le_of_ble_eq_true rfl) (Nat.le_of_ble_eq_true rfl) (fun q5 hq5 => ?_)
  refine g_dup d_Sen_init_27 rfl ?_
  refine g_sipush (v := nI 324) d_Sen_init_28 (by decide) ?_
  refine g_callX (c_Iset_init hst (n := 324) (by decide) (gup_s _ _ _)) gm_Iset_init d_Sen_init_31 (gInv_i (As := [.int (nI 324)]) (rest := [.ref q5, .ref a]) d_Sen_init_31 gm_Iset_init gi_Sen_24 rfl) (Nat.le_of_ble_eq_true rfl) (Nat.le_of_ble_eq_true rfl) (Nat.le_of_ble_eq_true rfl) (Nat.le_of_ble_eq_true rfl) (Nat.le_of_ble_eq_true rfl) (fun v5 h5 hp => ?_)
  obtain ⟨rfl, q6, hq6, gi5, k5⟩ := hp
  obtain ⟨-, -, -, f6, hs5, hs6, -⟩ := id gi5
  have m6 := nw_2 hq6
  have e := eq_2 k5 hs5 hs6
  subst e
  have i6 := (i4.add (by decide) hq5 (.inr (7, [.ref q6, .int (nI 0)]))).add (by decide) ((gup_n m6.1).trans m6.2) (.inl (0, 324, .inl f6))
  refine g_putF (k := 3) (fs' := [_, _, _, _, _, _, _, _, _, _]) d_Sen_init_34 gc_Sen (by decide) rfl rfl fl_Sen_27 rfl rfl (i6.2.2.1) rfl rfl (Nat.le_of_ble_eq_true rfl) rfl ?_
  have i6 := i6.obj (by decide) [.ref q1, .int 0, .ref q4, .ref q5, .null, .null, .null, .null, .null, .null]
  refine g_aload_n d_Sen_init_37 rfl ?_
  refine g_new d_Sen_init_38 nw_Sen_22 (Nat.le_of_ble_eq_true rfl) (Nat.le_of_ble_eq_true rfl) (fun q7 hq7 => ?_)
  refine g_dup d_Sen_init_41 rfl ?_
  refine g_bipush (v := nI 27) d_Sen_init_42 (by decide) ?_
  refine g_callX (c_Iset_init hst (n := 27) (by decide) (gup_s _ _ _)) gm_Iset_init d_Sen_init_44 (gInv_i (As := [.int (nI 27)]) (rest := [.ref q7, .ref a]) d_Sen_init_44 gm_Iset_init gi_Sen_24 rfl) (Nat.le_of_ble_eq_true rfl) (Nat.le_of_ble_eq_true rfl) (Nat.le_of_ble_eq_true rfl) (Nat.le_of_ble_eq_true rfl) (Nat.le_of_ble_eq_true rfl) (fun v7 h7 hp => ?_)
  obtain ⟨rfl, q8, hq8, gi7, k7⟩ := hp
  obtain ⟨-, -, -, f8, hs7, hs8, -⟩ := id gi7
  have m8 := nw_2 hq8
  have e := eq_2 k7 hs7 hs8
  subst e
  have i8 := (i6.add (by decide) hq7 (.inr (7, [.ref q8, .int (nI 0)]))).add (by decide) ((gup_n m8.1).trans m8.2) (.inl (0, 27, .inl f8))
  refine g_putF (k := 4) (fs' := [_, _, _, _, _, _, _, _, _, _]) d_Sen_init_47 gc_Sen (by decide) rfl rfl fl_Sen_31 rfl rfl (i8.2.2.1) rfl rfl (Nat.le_of_ble_eq_true rfl) rfl ?_
  have i8 := i8.obj (by decide) [.ref q1, .int 0, .ref q4, .ref q5, .ref q7, .null, .null, .null, .null, .null]
  refine g_aload_n d_Sen_init_50 rfl ?_
  refine g_new d_Sen_init_51 nw_Sen_34 (Nat.le_of_ble_eq_true rfl) (Nat.le_of_ble_eq_true rfl) (fun q9 hq9 => ?_)
  refine g_dup d_Sen_init_54 rfl ?_
  refine g_callR (c_Ins_init hst) gm_Ins_init d_Sen_init_55 (gInv_i (As := []) (rest := [.ref q9, .ref a]) d_Sen_init_55 gm_Ins_init gi_Sen_36 rfl) (Nat.le_of_ble_eq_true rfl) (Nat.le_of_ble_eq_true rfl) (Nat.le_of_ble_eq_true rfl) (Nat.le_of_ble_eq_true rfl) (Nat.le_of_ble_eq_true rfl) ?_
  have i9 := i8.add (by decide) hq9 (.inr (6, [.int 0, .int 0]))
  refine g_putF (k := 5) (fs' := [_, _, _, _, _, _, _, _, _, _]) d_Sen_init_58 gc_Sen (by decide) rfl rfl fl_Sen_37 rfl rfl (i9.2.2.1) rfl rfl (Nat.le_of_ble_eq_true rfl) rfl ?_
  have i9 := i9.obj (by decide) [.ref q1, .int 0, .ref q4, .ref q5, .ref q7, .ref q9, .null, .null, .null, .null]
  refine g_aload_n d_Sen_init_61 rfl ?_
  refine g_bipush (v := nI 12) d_Sen_init_62 (by decide) ?_
  refine g_anew (t := 5) d_Sen_init_64 na_Sen_41 (by decide) (fun _ => rfl) rfl (by decide) (Nat.le_of_ble_eq_true rfl) (Nat.le_of_ble_eq_true rfl) (fun q10 hq10 => ?_)
  refine g_putF (k := 6) (fs' := [_, _, _, _, _, _, _, _, _, _]) d_Sen_init_67 gc_Sen (by decide) rfl rfl fl_Sen_43 rfl rfl ((gup_n (gne0 i9.2.2.1 hq10)).trans i9.2.2.1) rfl rfl (Nat.le_of_ble_eq_true rfl) rfl ?_
  have i10 := (i9.add (by decide) hq10 (.inl (5, 12, .inr (.inr (.inr (.inr fun _ => none)))))).obj (by decide) [.ref q1, .int 0, .ref q4, .ref q5, .ref q7, .ref q9, .ref q10, .null, .null, .null]
  refine g_aload_n d_Sen_init_70 rfl ?_
  refine g_new d_Sen_init_71 nw_Sen_41 (Nat.le_of_ble_eq_true rfl) (Nat.le_of_ble_eq_true rfl) (fun q11 hq11 => ?_)
  refine g_dup d_Sen_init_74 rfl ?_
  refine g_callX (c_Tab_init hst (gup_s _ _ _)) gm_Tab_init d_Sen_init_75 (gInv_i (As := []) (rest := [.ref q11, .ref a]) d_Sen_init_75 gm_Tab_init gi_Sen_47 rfl) (Nat.le_of_ble_eq_true rfl) (Nat.le_of_ble_eq_true rfl) (Nat.le_of_ble_eq_true rfl) (Nat.le_of_ble_eq_true rfl) (Nat.le_of_ble_eq_true rfl) (fun v11 h11 hp => ?_)
  obtain ⟨rfl, q12, hq12, ⟨t11, u11, f12, hs11, hs12⟩, k11⟩ := hp
  have m12 := nw_2 hq12
  have e := eq_2 k11 hs11 hs12
  subst e
  have i12 := (i10.add (by decide) hq11 (.inr (8, [.ref q12, t11, u11]))).add (by decide) ((gup_n m12.1).trans m12.2) (.inl (1, 64, .inr (.inl f12)))
  refine g_putF (k := 7) (fs' := [_, _, _, _, _, _, _, _, _, _]) d_Sen_init_78 gc_Sen (by decide) rfl rfl fl_Sen_48 rfl rfl (i12.2.2.1) rfl rfl (Nat.le_of_ble_eq_true rfl) rfl ?_
  have i12 := i12.obj (by decide) [.ref q1, .int 0, .ref q4, .ref q5, .ref q7, .ref q9, .ref q10, .ref q11, .null, .null]
  refine g_aload_n d_Sen_init_81 rfl ?_
  refine g_new d_Sen_init_82 nw_Sen_41 (Nat.le_of_ble_eq_true rfl) (Nat.le_of_ble_eq_true rfl) (fun q13 hq13 => ?_)
  refine g_dup d_Sen_init_85 rfl ?_
  refine g_callX (c_Tab_init hst (gup_s _ _ _)) gm_Tab_init d_Sen_init_86 (gInv_i (As := []) (rest := [.ref q13, .ref a]) d_Sen_init_86 gm_Tab_init gi_Sen_47 rfl) (Nat.le_of_ble_eq_true rfl) (Nat.le_of_ble_eq_true rfl) (Nat.le_of_ble_eq_true rfl) (Nat.le_of_ble_eq_true rfl) (Nat.le_of_ble_eq_true rfl) (fun v13 h13 hp => ?_)
  obtain ⟨rfl, q14, hq14, ⟨t13, u13, f14, hs13, hs14⟩, k13⟩ := hp
  have m14 := nw_2 hq14
  have e := eq_2 k13 hs13 hs14
  subst e
  have i14 := (i12.add (by decide) hq13 (.inr (8, [.ref q14, t13, u13]))).add (by decide) ((gup_n m14.1).trans m14.2) (.inl (1, 64, .inr (.inl f14)))
  refine g_putF (k := 8) (fs' := [_, _, _, _, _, _, _, _, _, _]) d_Sen_init_89 gc_Sen (by decide) rfl rfl fl_Sen_52 rfl rfl (i14.2.2.1) rfl rfl (Nat.le_of_ble_eq_true rfl) rfl ?_
  have i14 := i14.obj (by decide) [.ref q1, .int 0, .ref q4, .ref q5, .ref q7, .ref q9, .ref q10, .ref q11, .ref q13, .null]
  refine g_aload_n d_Sen_init_92 rfl ?_
  refine g_bipush (v := nI 6) d_Sen_init_93 (by decide) ?_
  refine g_newI d_Sen_init_95 ac_int rfl (by decide) (Nat.le_of_ble_eq_true rfl) (Nat.le_of_ble_eq_true rfl) (fun q15 hq15 => ?_)
  refine g_putF (k := 9) (fs' := [_, _, _, _, _, _, _, _, _, _]) d_Sen_init_97 gc_Sen (by decide) rfl rfl fl_Sen_55 rfl rfl ((gup_n (gne0 i14.2.2.1 hq15)).trans i14.2.2.1) rfl rfl (Nat.le_of_ble_eq_true rfl) rfl ?_
  have i15 := (i14.add (by decide) hq15 (.inl (0, 6, .inl fun _ => 0))).obj (by decide) [.ref q1, .int 0, .ref q4, .ref q5, .ref q7, .ref q9, .ref q10, .ref q11, .ref q13, .ref q15]
  refine g_iconst (v := nI 0) d_Sen_init_100 (by decide) ?_
  refine g_istore_n d_Sen_init_101 rfl (Nat.le_of_ble_eq_true rfl) rfl ?_
  refine g_less (kc' := 2 * 12) (ks' := 67 * 12) (Nat.le_of_ble_eq_true rfl) (Nat.le_of_ble_eq_true rfl) ?_
  refine l_Sen_init hst (h0 := h) (a := a) (t := q10) rfl 12 0 _ _ rfl (i15.sIn rfl rfl) fun h' R' hs hR => ?_
  · obtain ⟨r1, r2, r3, r4, r5, r6, r7, fl, r8, r9⟩ := hs
    have d12 : ∀ {n}, n < 40 → sdm 12 n := fun hn => by
      unfold sdm
      omega
    have e1 : R' 1 = q1 := hR 1 (by decide)
    have e2 : R' 2 = q2 := hR 2 (by decide)
    have e3 : R' 3 = q3 := hR 3 (by decide)
    have e4 : R' 4 = q4 := hR 4 (by decide)
    have e5 : R' 5 = q5 := hR 5 (by decide)
    have e6 : R' 6 = q6 := hR 6 (by decide)
    have e7 : R' 7 = q7 := hR 7 (by decide)
    have e8 : R' 8 = q8 := hR 8 (by decide)
    have e9 : R' 9 = q9 := hR 9 (by decide)
    have e11 : R' 11 = q11 := hR 11 (by decide)
    have e12 : R' 12 = q12 := hR 12 (by decide)
    have e13 : R' 13 = q13 := hR 13 (by decide)
    have e14 : R' 14 = q14 := hR 14 (by decide)
    have e15 : R' 15 = q15 := hR 15 (by decide)
    have c0 : h' (R' 0) = some (.inr (5, [.ref q1, .int 0, .ref q4, .ref q5, .ref q7, .ref q9, .ref q10, .ref q11, .ref q13, .ref q15])) := r7 0 (by decide) (by decide)
    have c1 : h' (R' 1) = some (.inr (2, [.ref q2, .ref q3, .int (nI 0), .int 0, .int (nI 0)])) := r7 1 (by decide) (by decide)
    have c2 : h' (R' 2) = some (.inl (0, 4, .inl w)) := r7 2 (by decide) (by decide)
    have c3 : h' (R' 3) = some (.inl (0, 4, .inl f3)) := r7 3 (by decide) (by decide)
    have c4 : h' (R' 4) = some (.inl (0, 12, .inl fun _ => 0)) := r7 4 (by decide) (by decide)
    have c5 : h' (R' 5) = some (.inr (7, [.ref q6, .int (nI 0)])) := r7 5 (by decide) (by decide)
    have c6 : h' (R' 6) = some (.inl (0, 324, .inl f6)) := r7 6 (by decide) (by decide)
    have c7 : h' (R' 7) = some (.inr (7, [.ref q8, .int (nI 0)])) := r7 7 (by decide) (by decide)
    have c8 : h' (R' 8) = some (.inl (0, 27, .inl f8)) := r7 8 (by decide) (by decide)
    have c9 : h' (R' 9) = some (.inr (6, [.int 0, .int 0])) := r7 9 (by decide) (by decide)
    have c11 : h' (R' 11) = some (.inr (8, [.ref q12, t11, u11])) := r7 11 (by decide) (by decide)
    have c12 : h' (R' 12) = some (.inl (1, 64, .inr (.inl f12))) := r7 12 (by decide) (by decide)
    have c13 : h' (R' 13) = some (.inr (8, [.ref q14, t13, u13])) := r7 13 (by decide) (by decide)
    have c14 : h' (R' 14) = some (.inl (1, 64, .inr (.inl f14))) := r7 14 (by decide) (by decide)
    have c15 : h' (R' 15) = some (.inl (0, 6, .inl fun _ => 0)) := r7 15 (by decide) (by decide)
    have hwk : wok w := fun p hp => Or.inl (hw p hp)
    have n23' : R' 2 ≠ R' 3 := by
      rw [e2, e3]
      exact n23
    refine ⟨_, rfl, rfl, R', w, r5, fun i hi j hj e => r1 i (d12 hi) j (d12 hj) e, hw, fun CS => ⟨⟨?_, by decide, by decide⟩, ⟨⟨.int 0, ?_⟩, ⟨hwk, by decide, n23', f3, .int 0, .int (nI 0), ?_, c2, c3⟩, fun p hp h9 => absurd (hw p hp) h9⟩, ⟨⟨_, c15⟩, fl, r8, fun j hj => (r9 j hj).1⟩, ⟨_, c4, fun u hu => absurd hu (Nat.not_lt_zero _)⟩, ⟨[], ⟨by decide, by decide, fun c hc => (by cases hc), f6, ?_, c6, fun i hi => absurd hi (Nat.not_lt_zero _)⟩, List.nodup_nil, fun e => ⟨fun z => (by cases z), fun ⟨u, hu, _⟩ => absurd hu (Nat.not_lt_zero _)⟩⟩, ⟨⟨[], ⟨by decide, by decide, fun c hc => (by cases hc), f8, ?_, c8, fun i hi => absurd hi (Nat.not_lt_zero _)⟩⟩, ⟨0, 0, c9, by decide, by decide⟩, ⟨t11, u11, _, ?_, c12⟩⟩, ⟨fun u hu => (r9 u hu).2, fun u hu => absurd hu (Nat.not_lt_zero _)⟩, ⟨t13, u13, _, ?_, c14⟩⟩, fun n n1 n2 => r3 n (d12 n2) (by omega), fun x hx => r4 x fun n hn e => hx ⟨n, by unfold sdm at hn; omega, e⟩⟩
    · rw [c0, e1, e4, e5, e7, e9, r6, e11, e13, e15]
      rfl
    · rw [c1, e2, e3]
    · rw [c1, e2, e3]
    · rw [c5, e6]
      rfl
    · rw [c7, e8]
      rfl
    · rw [c11, e12]
    · rw [c13, e14]
