/-! ===== JDK: Arrays.fill, Integer.bitCount, Math.max ===== -/
theorem l_fillI {K : gK} {a n : Nat} (hn : n < 2 ^ 31) (x : Int32) : ∀ (r i : Nat) (h : gH) (f : Nat → Int32), i + r = n → h a = some (.inl (0, n, .inl f)) → Go K M_Arr_fillI r_Arr_fillI 5 [(0, .ref a), (1, .int x), (2, .int (nI i)), (3, .int (nI n))] [] h 0 0 (gRt none (gup h a (.inl (0, n, .inl (fun j => if i ≤ j ∧ j < n then x else f j))))) := by
  intro r
  induction r with
  | zero =>
    intro i h f hi h1
    refine g_iload_n d_Arr_fillI_5 rfl ?_
    refine g_iload_n d_Arr_fillI_6 rfl ?_
    refine g_icmpN_ge (tgt := 20) d_Arr_fillI_7 (by decide) (rfl) (rfl) (by omega) (by omega) (fun q => ?_) (fun q => ?_)
    · refine g_ret_v d_Arr_fillI_20 rfl ⟨rfl, ?_⟩
      have e : (fun j => if i ≤ j ∧ j < n then x else f j) = f := by
        funext j
        rw [if_neg (by omega)]
      rw [e, gup_id h1]
    · omega
  | succ r ih =>
    intro i h f hi h1
    refine g_iload_n d_Arr_fillI_5 rfl ?_
    refine g_iload_n d_Arr_fillI_6 rfl ?_
    refine g_icmpN_ge (tgt := 20) d_Arr_fillI_7 (by decide) (rfl) (rfl) (by omega) (by omega) (fun q => ?_) (fun q => ?_)
    · omega
    · refine g_aload_n d_Arr_fillI_10 rfl ?_
      refine g_iload_n d_Arr_fillI_11 rfl ?_
      refine g_iload_n d_Arr_fillI_12 rfl ?_
      refine g_iast d_Arr_fillI_13 h1 rfl q hn ?_
      refine g_iinc d_Arr_fillI_14 rfl (nI_inc _) (Nat.le_of_ble_eq_true rfl) rfl ?_
      refine g_goto (tgt := 5) d_Arr_fillI_17 (by decide) ?_
      refine g_post ?_ (ih (i + 1) _ (va_up f i x) (by omega) (gup_s _ _ _))
      rintro o h' ⟨rfl, rfl⟩
      refine ⟨rfl, ?_⟩
      rw [gup_up]
      refine congrArg (fun z : Nat → Int32 => gup h a (.inl (0, n, .inl z))) (funext fun j => ?_)
      unfold va_up
      by_cases e : j = i
      · subst e
        rw [if_neg (by omega), if_pos rfl, if_pos (by omega)]
      · by_cases e2 : i + 1 ≤ j ∧ j < n
        · rw [if_pos e2, if_pos (by omega)]
        · rw [if_neg e2, if_neg e, if_neg (by omega)]
theorem c_fillI {K : gK} {h : gH} (hst : K.1.stackTraces = false) {a n : Nat} (hn : n < 2 ^ 31) (x : Int32) {f : Nat → Int32} (h1 : h a = some (.inl (0, n, .inl f))) : Ct K r_Arr_fillI M_Arr_fillI [.ref a, .int x] h (gRt none (gup h a (.inl (0, n, .inl (fun j => if j < n then x else f j))))) := by
  refine Ct.of hst (by decide) (Or.inl rfl) (Nat.le_of_ble_eq_true rfl) ?_
  refine g_iconst (v := nI 0) d_Arr_fillI_0 (by decide) ?_
  refine g_istore_n d_Arr_fillI_1 rfl (Nat.le_of_ble_eq_true rfl) rfl ?_
  refine g_aload_n d_Arr_fillI_2 rfl ?_
  refine g_alen d_Arr_fillI_3 (by decide) (h1) ?_
  refine g_istore_n d_Arr_fillI_4 rfl (Nat.le_of_ble_eq_true rfl) rfl ?_
  have e : (fun j => if j < n then x else f j) = (fun j => if 0 ≤ j ∧ j < n then x else f j) := by
    funext j
    simp
  rw [e]
  exact l_fillI hn x n 0 h f (by omega) h1
theorem l_fillJ {K : gK} {a n : Nat} (hn : n < 2 ^ 31) (x : Int64) : ∀ (r i : Nat) (h : gH) (f : Nat → Int64), i + r = n → h a = some (.inl (1, n, .inr (.inl f))) → Go K M_Arr_fillJ r_Arr_fillJ 6 [(0, .ref a), (1, .long x), (3, .int (nI i)), (4, .int (nI n))] [] h 0 0 (gRt none (gup h a (.inl (1, n, .inr (.inl (fun j => if i ≤ j ∧ j < n then x else f j)))))) := by
  intro r
  induction r with
  | zero =>
    intro i h f hi h1
    refine g_iload_n d_Arr_fillJ_6 rfl ?_
    refine g_iload d_Arr_fillJ_7 rfl ?_
    refine g_icmpN_ge (tgt := 22) d_Arr_fillJ_9 (by decide) (rfl) (rfl) (by omega) (by omega) (fun q => ?_) (fun q => ?_)
    · refine g_ret_v d_Arr_fillJ_22 rfl ⟨rfl, ?_⟩
      have e : (fun j => if i ≤ j ∧ j < n then x else f j) = f := by
        funext j
        rw [if_neg (by omega)]
      rw [e, gup_id h1]
    · omega
  | succ r ih =>
    intro i h f hi h1
    refine g_iload_n d_Arr_fillJ_6 rfl ?_
    refine g_iload d_Arr_fillJ_7 rfl ?_
    refine g_icmpN_ge (tgt := 22) d_Arr_fillJ_9 (by decide) (rfl) (rfl) (by omega) (by omega) (fun q => ?_) (fun q => ?_)
    · omega
    · refine g_aload_n d_Arr_fillJ_12 rfl ?_
      refine g_iload_n d_Arr_fillJ_13 rfl ?_
      refine g_lload_n d_Arr_fillJ_14 rfl ?_
      refine g_last d_Arr_fillJ_15 h1 rfl q hn ?_
      refine g_iinc d_Arr_fillJ_16 rfl (nI_inc _) (Nat.le_of_ble_eq_true rfl) rfl ?_
      refine g_goto (tgt := 6) d_Arr_fillJ_19 (by decide) ?_
      refine g_post ?_ (ih (i + 1) _ (va_up f i x) (by omega) (gup_s _ _ _))
      rintro o h' ⟨rfl, rfl⟩
      refine ⟨rfl, ?_⟩
      rw [gup_up]
      refine congrArg (fun z : Nat → Int64 => gup h a (.inl (1, n, .inr (.inl z)))) (funext fun j => ?_)
      unfold va_up
      by_cases e : j = i
      · subst e
        rw [if_neg (by omega), if_pos rfl, if_pos (by omega)]
      · by_cases e2 : i + 1 ≤ j ∧ j < n
        · rw [if_pos e2, if_pos (by omega)]
        · rw [if_neg e2, if_neg e, if_neg (by omega)]
theorem c_fillJ {K : gK} {h : gH} (hst : K.1.stackTraces = false) {a n : Nat} (hn : n < 2 ^ 31) (x : Int64) {f : Nat → Int64} (h1 : h a = some (.inl (1, n, .inr (.inl f)))) : Ct K r_Arr_fillJ M_Arr_fillJ [.ref a, .long x] h (gRt none (gup h a (.inl (1, n, .inr (.inl (fun j => if j < n then x else f j)))))) := by
  refine Ct.of hst (by decide) (Or.inl rfl) (Nat.le_of_ble_eq_true rfl) ?_
  refine g_iconst (v := nI 0) d_Arr_fillJ_0 (by decide) ?_
  refine g_istore_n d_Arr_fillJ_1 rfl (Nat.le_of_ble_eq_true rfl) rfl ?_
  refine g_aload_n d_Arr_fillJ_2 rfl ?_
  refine g_alen d_Arr_fillJ_3 (by decide) (h1) ?_
  refine g_istore d_Arr_fillJ_4 (Nat.le_of_ble_eq_true rfl) rfl ?_
  have e : (fun j => if j < n then x else f j) = (fun j => if 0 ≤ j ∧ j < n then x else f j) := by
    funext j
    simp
  rw [e]
  exact l_fillJ hn x n 0 h f (by omega) h1
/-- Integer.bitCount as it reckons -/
def bcu (a b : Int32) : Int32 := (a.toUInt32 >>> (b.toUInt32 &&& Int32.toUInt32 31)).toInt32
def bc1 (x : Int32) : Int32 := x - (bcu x (nI 1) &&& 1431655765)
def bc2 (a : Int32) : Int32 := (a &&& 858993459) + (bcu a (nI 2) &&& 858993459)
def bc3 (b : Int32) : Int32 := (b + bcu b (nI 4)) &&& 252645135
def bc4 (c : Int32) : Int32 := c + bcu c (nI 8)
def bc5 (d : Int32) : Int32 := d + bcu d (nI 16)
def bcI (x : Int32) : Int32 := bc5 (bc4 (bc3 (bc2 (bc1 x)))) &&& nI 63
theorem c_bitCount {K : gK} {h : gH} (hst : K.1.stackTraces = false) (x : Int32) : Ct K r_Int_bitCount M_Int_bitCount [.int x] h (gRt (some (.int (bcI x))) h) := by
  refine Ct.of hst (by decide) (Or.inl rfl) (Nat.le_of_ble_eq_true rfl) ?_
  refine g_iload_n d_Int_bitCount_0 rfl ?_
  refine g_iload_n d_Int_bitCount_1 rfl ?_
  refine g_iconst (v := nI 1) d_Int_bitCount_2 (by decide) ?_
  refine g_iushr d_Int_bitCount_3 ?_
  refine g_ldcw d_Int_bitCount_4 k_Int_265 ?_
  refine g_iand d_Int_bitCount_7 ?_
  refine g_isub d_Int_bitCount_8 ?_
  refine g_istore_n d_Int_bitCount_9 rfl (Nat.le_of_ble_eq_true rfl) rfl ?_
  refine g_iload_n d_Int_bitCount_10 rfl ?_
  refine g_ldcw d_Int_bitCount_11 k_Int_266 ?_
  refine g_iand d_Int_bitCount_14 ?_
  refine g_iload_n d_Int_bitCount_15 rfl ?_
  refine g_iconst (v := nI 2) d_Int_bitCount_16 (by decide) ?_
  refine g_iushr d_Int_bitCount_17 ?_
  refine g_ldcw d_Int_bitCount_18 k_Int_266 ?_
  refine g_iand d_Int_bitCount_21 ?_
  refine g_iadd d_Int_bitCount_22 ?_
  refine g_istore_n d_Int_bitCount_23 rfl (Nat.le_of_ble_eq_true rfl) rfl ?_
  refine g_iload_n d_Int_bitCount_24 rfl ?_
  refine g_iload_n d_Int_bitCount_25 rfl ?_
  refine g_iconst (v := nI 4) d_Int_bitCount_26 (by decide) ?_
  refine g_iushr d_Int_bitCount_27 ?_
  refine g_iadd d_Int_bitCount_28 ?_
  refine g_ldcw d_Int_bitCount_29 k_Int_267 ?_
  refine g_iand d_Int_bitCount_32 ?_
  refine g_istore_n d_Int_bitCount_33 rfl (Nat.le_of_ble_eq_true rfl) rfl ?_
  refine g_iload_n d_Int_bitCount_34 rfl ?_
  refine g_iload_n d_Int_bitCount_35 rfl ?_
  refine g_bipush (v := nI 8) d_Int_bitCount_36 (by decide) ?_
  refine g_iushr d_Int_bitCount_38 ?_
  refine g_iadd d_Int_bitCount_39 ?_
  refine g_istore_n d_Int_bitCount_40 rfl (Nat.le_of_ble_eq_true rfl) rfl ?_
  refine g_iload_n d_Int_bitCount_41 rfl ?_
  refine g_iload_n d_Int_bitCount_42 rfl ?_
  refine g_bipush (v := nI 16) d_Int_bitCount_43 (by decide) ?_
  refine g_iushr d_Int_bitCount_45 ?_
  refine g_iadd d_Int_bitCount_46 ?_
  refine g_istore_n d_Int_bitCount_47 rfl (Nat.le_of_ble_eq_true rfl) rfl ?_
  refine g_iload_n d_Int_bitCount_48 rfl ?_
  refine g_bipush (v := nI 63) d_Int_bitCount_49 (by decide) ?_
  refine g_iand d_Int_bitCount_51 ?_
  exact g_ret_i d_Int_bitCount_52 rfl rfl ⟨rfl, rfl⟩
/-- how many of three -/
def pc3 (c : Nat) : Nat := c % 2 + c / 2 % 2 + c / 4 % 2
theorem bcI_8 : ∀ c, c < 8 → bcI (nI c) = nI (pc3 c) := by decide
