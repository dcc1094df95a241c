/-! ===== the reference: its cells are numbered, Y 0 itself, Y 1 to Y 16 its rows; F i is what row i holds ===== -/
abbrev mob (Y : Nat → Nat) (cd ty td nc nt th k tg A : Int32) : gE := .inr (9, [.int cd, .int ty, .ref (Y 1), .int td, .int nc, .ref (Y 2), .ref (Y 3), .ref (Y 4), .ref (Y 5), .ref (Y 6), .ref (Y 7), .int nt, .int th, .int k, .ref (Y 8), .ref (Y 9), .ref (Y 10), .ref (Y 11), .ref (Y 12), .ref (Y 13), .int tg, .int A, .ref (Y 14), .ref (Y 15), .ref (Y 16)])
def mkk (i : Nat) : Nat := match i with
  | 4 => 3
  | 10 => 3
  | _ => 0
def mkl (i : Nat) : Nat := match i with
  | 1 => 97
  | 2 => 12
  | 7 => 4
  | 8 => 12
  | 13 => 4
  | 14 => 324
  | 15 => 12
  | 16 => 1536
  | _ => 48
def gMa (h : gH) (Y : Nat → Nat) (F : Nat → Nat → Int32) : Prop := (gNj Y 17 ∧ ∀ j, F 4 j = 0 ∨ F 4 j = 1) ∧ ∀ i, 1 ≤ i → i < 17 → h (Y i) = some (.inl (mkk i, mkl i, .inl (F i)))
def gMb (h : gH) (Y : Nat → Nat) (F : Nat → Nat → Int32) (cd ty td nc nt th k tg A : Int32) : Prop := gMa h Y F ∧ h (Y 0) = some (mob Y cd ty td nc nt th k tg A)
section MODEL
variable {K : gK} {h : gH} {Y : Nat → Nat} {F : Nat → Nat → Int32} {cd ty td nc nt th kk tg AA : Int32}
theorem gMa.a1 (hm : gMa h Y F) : h (Y 1) = some (.inl (0, 97, .inl (F 1))) := hm.2 1 (by decide) (by decide)
theorem gMa.a2 (hm : gMa h Y F) : h (Y 2) = some (.inl (0, 12, .inl (F 2))) := hm.2 2 (by decide) (by decide)
theorem gMa.a3 (hm : gMa h Y F) : h (Y 3) = some (.inl (0, 48, .inl (F 3))) := hm.2 3 (by decide) (by decide)
theorem gMa.a4 (hm : gMa h Y F) : h (Y 4) = some (.inl (3, 48, .inl (F 4))) := hm.2 4 (by decide) (by decide)
theorem gMa.a5 (hm : gMa h Y F) : h (Y 5) = some (.inl (0, 48, .inl (F 5))) := hm.2 5 (by decide) (by decide)
theorem gMa.a6 (hm : gMa h Y F) : h (Y 6) = some (.inl (0, 48, .inl (F 6))) := hm.2 6 (by decide) (by decide)
theorem gMa.a7 (hm : gMa h Y F) : h (Y 7) = some (.inl (0, 4, .inl (F 7))) := hm.2 7 (by decide) (by decide)
theorem gMa.a8 (hm : gMa h Y F) : h (Y 8) = some (.inl (0, 12, .inl (F 8))) := hm.2 8 (by decide) (by decide)
theorem gMa.a9 (hm : gMa h Y F) : h (Y 9) = some (.inl (0, 48, .inl (F 9))) := hm.2 9 (by decide) (by decide)
theorem gMa.a10 (hm : gMa h Y F) : h (Y 10) = some (.inl (3, 48, .inl (F 10))) := hm.2 10 (by decide) (by decide)
theorem gMa.a11 (hm : gMa h Y F) : h (Y 11) = some (.inl (0, 48, .inl (F 11))) := hm.2 11 (by decide) (by decide)
theorem gMa.a12 (hm : gMa h Y F) : h (Y 12) = some (.inl (0, 48, .inl (F 12))) := hm.2 12 (by decide) (by decide)
theorem gMa.a13 (hm : gMa h Y F) : h (Y 13) = some (.inl (0, 4, .inl (F 13))) := hm.2 13 (by decide) (by decide)
theorem gMa.a14 (hm : gMa h Y F) : h (Y 14) = some (.inl (0, 324, .inl (F 14))) := hm.2 14 (by decide) (by decide)
theorem gMa.a15 (hm : gMa h Y F) : h (Y 15) = some (.inl (0, 12, .inl (F 15))) := hm.2 15 (by decide) (by decide)
theorem gMa.a16 (hm : gMa h Y F) : h (Y 16) = some (.inl (0, 1536, .inl (F 16))) := hm.2 16 (by decide) (by decide)
theorem gMa.upG (hm : gMa h Y F) {i : Nat} (h1 : 1 ≤ i) (h2 : i < 17) (g : Nat → Int32) (hb : ∀ j, va_up F i g 4 j = 0 ∨ va_up F i g 4 j = 1) : gMa (gup h (Y i) (.inl (mkk i, mkl i, .inl g))) Y (va_up F i g) := by
  refine ⟨⟨hm.1.1, hb⟩, fun j j1 j2 => ?_⟩
  unfold va_up
  by_cases e : j = i
  · subst e
    rw [if_pos rfl]
    exact gup_s _ _ _
  · rw [if_neg e]
    exact (gup_n (hm.1.1.ne j2 h2 e)).trans (hm.2 j j1 j2)
theorem gMb.up (hm : gMb h Y F cd ty td nc nt th kk tg AA) {i : Nat} (h1 : 1 ≤ i) (h2 : i < 17) (g : Nat → Int32) (h4 : ¬ 4 = i := by decide) : gMb (gup h (Y i) (.inl (mkk i, mkl i, .inl g))) Y (va_up F i g) cd ty td nc nt th kk tg AA := ⟨hm.1.upG h1 h2 g fun j => by
    rw [show va_up F i g 4 = F 4 from if_neg h4]
    exact hm.1.1.2 j, (gup_n (hm.1.1.1.ne (by decide) h2 (by omega))).trans hm.2⟩
theorem gMb.up4 (hm : gMb h Y F cd ty td nc nt th kk tg AA) (g : Nat → Int32) (hb : ∀ j, g j = 0 ∨ g j = 1) : gMb (gup h (Y 4) (.inl (3, 48, .inl g))) Y (va_up F 4 g) cd ty td nc nt th kk tg AA := ⟨hm.1.upG (i := 4) (by decide) (by decide) g hb, (gup_n (hm.1.1.1.ne (by decide) (by decide) (by decide))).trans hm.2⟩
theorem gMb.o (hm : gMb h Y F cd ty td nc nt th kk tg AA) (cd' ty' td' nc' nt' th' kk' tg' AA' : Int32) : gMb (gup h (Y 0) (mob Y cd' ty' td' nc' nt' th' kk' tg' AA')) Y F cd' ty' td' nc' nt' th' kk' tg' AA' := ⟨⟨hm.1.1, fun i h1 h2 => (gup_n (hm.1.1.1.ne h2 (by decide) (by omega))).trans (hm.1.2 i h1 h2)⟩, gup_s _ _ _⟩
theorem mK0 {h' : gH} (hk : gKP h h' (gOf Y 17)) {e : gE} {i : Nat} (hi : i < 17) : gKP h (gup h' (Y i) e) (gOf Y 17) := fun x hx => (gup_n fun z => hx ⟨i, hi, z⟩).trans (hk x hx)
/-- the text that was typed -/
def mtx (F : Nat → Nat → Int32) (ty : Int32) (tx : List Nat) : Prop := ty = nI tx.length ∧ tx.length ≤ 96 ∧ (∀ i, i < tx.length → F 1 i = nI (tx.getD i 0)) ∧ ∀ c ∈ tx, 33 ≤ c ∧ c ≤ 126
theorem mtx.chr {tx : List Nat} (ht : mtx F ty tx) (p : Nat) : tx.getD p 0 < 127 := by
  by_cases hp : p < tx.length
  · rw [List.getD_eq_getElem?_getD, List.getElem?_eq_getElem hp]
    have := (ht.2.2.2 _ (List.getElem_mem hp)).2
    simp only [Option.getD_some]
    omega
  · rw [List.getD_eq_getElem?_getD, List.getElem?_eq_none (by omega)]
    decide
theorem c_Mod_charAt (hst : K.1.stackTraces = false) (hm : gMb h Y F cd ty td nc nt th kk tg AA) {tx : List Nat} (ht : mtx F ty tx) {p : Nat} (hp : p < 65536) : Ct K r_Mod_charAt M_Mod_charAt [.ref (Y 0), .int (nI p)] h (gRt (some (.int (nI (tx.getD p 0)))) h) := by
  obtain ⟨rfl, t2, t3, t4⟩ := ht
  refine Ct.of hst (by decide) (Or.inl rfl) (Nat.le_of_ble_eq_true rfl) ?_
  refine g_iload_n d_Mod_charAt_0 rfl ?_
  refine g_aload_n d_Mod_charAt_1 rfl ?_
  refine g_get d_Mod_charAt_2 f_Mod_68 (hm.2) rfl ?_
  refine g_icmpN_ge (tgt := 17) d_Mod_charAt_5 (by decide) (rfl) (rfl) (by omega) (by omega) (fun q => ?_) (fun q => ?_)
  · refine g_iconst (v := nI 0) d_Mod_charAt_17 (by decide) ?_
    refine g_ret_i d_Mod_charAt_18 rfl rfl ⟨?_, rfl⟩
    rw [List.getD_eq_getElem?_getD, List.getElem?_eq_none (by omega)]
    rfl
  · refine g_aload_n d_Mod_charAt_8 rfl ?_
    refine g_get d_Mod_charAt_9 f_Mod_7 (hm.2) rfl ?_
    refine g_iload_n d_Mod_charAt_12 rfl ?_
    refine g_iald d_Mod_charAt_13 (hm.1.a1) (rfl) (by omega) (by decide) ?_
    refine g_goto (tgt := 18) d_Mod_charAt_14 (by decide) ?_
    rw [t3 p q]
    exact g_ret_i d_Mod_charAt_18 rfl rfl ⟨rfl, rfl⟩
def bsm (c : Nat) : Nat → Nat
  | 0 => 0
  | i + 1 => bsm c i + c / 2 ^ i % 2
theorem bsm_8 : ∀ c, c < 8 → bsm c 12 = pc3 c := by decide
theorem l_Mod_bits {c : Nat} (hc : c < 2 ^ 31) : ∀ (r i : Nat), i + r = 12 → Go K M_Mod_bits r_Mod_bits 4 [(0, .int (nI c)), (1, .int (nI (bsm c i))), (2, .int (nI i))] [] h 0 0 (gRt (some (.int (nI (bsm c 12)))) h) := by
  intro r
  induction r with
  | zero =>
    intro i hi
    refine g_iload_n d_Mod_bits_4 rfl ?_
    refine g_bipush (v := nI 12) d_Mod_bits_5 (by decide) ?_
    refine g_icmpN_ge (tgt := 24) d_Mod_bits_7 (by decide) (rfl) (rfl) (by omega) (by decide) (fun q => ?_) (fun q => ?_)
    · refine g_iload_n d_Mod_bits_24 rfl ?_
      have e : i = 12 := by omega
      subst e
      exact g_ret_i d_Mod_bits_25 rfl rfl ⟨rfl, rfl⟩
    · omega
  | succ r ih =>
    intro i hi
    refine g_iload_n d_Mod_bits_4 rfl ?_
    refine g_bipush (v := nI 12) d_Mod_bits_5 (by decide) ?_
    refine g_icmpN_ge (tgt := 24) d_Mod_bits_7 (by decide) (rfl) (rfl) (by omega) (by decide) (fun q => ?_) (fun q => ?_)
    · omega
    · refine g_iload_n d_Mod_bits_10 rfl ?_
      refine g_iload_n d_Mod_bits_11 rfl ?_
      refine g_iload_n d_Mod_bits_12 rfl ?_
      refine g_ishr d_Mod_bits_13 ?_
      refine g_iconst (v := nI 1) d_Mod_bits_14 (by decide) ?_
      refine g_iand d_Mod_bits_15 ?_
      refine g_iadd d_Mod_bits_16 ?_
      rw [nI_bit hc (by omega), nI_add]
      refine g_istore_n d_Mod_bits_17 rfl (Nat.le_of_ble_eq_true rfl) rfl ?_
      refine g_iinc d_Mod_bits_18 rfl (nI_inc _) (Nat.le_of_ble_eq_true rfl) rfl ?_
      refine g_goto (tgt := 4) d_Mod_bits_21 (by decide) ?_
      exact ih (i + 1) (by omega)
theorem c_Mod_bits (hst : K.1.stackTraces = false) {c : Nat} (hc : c < 8) : Ct K r_Mod_bits M_Mod_bits [.int (nI c)] h (gRt (some (.int (nI (pc3 c)))) h) := by
  refine Ct.of hst (by decide) (Or.inl rfl) (Nat.le_of_ble_eq_true rfl) ?_
  rw [← bsm_8 c hc]
  refine g_iconst (v := nI 0) d_Mod_bits_0 (by decide) ?_
  refine g_istore_n d_Mod_bits_1 rfl (Nat.le_of_ble_eq_true rfl) rfl ?_
  refine g_iconst (v := nI 0) d_Mod_bits_2 (by decide) ?_
  refine g_istore_n d_Mod_bits_3 rfl (Nat.le_of_ble_eq_true rfl) rfl ?_
  exact l_Mod_bits (by omega) 12 0 rfl
theorem pc3_tcn : ∀ c, c < 8 → (pc3 c < 1 → tcn c = 1) ∧ (1 ≤ pc3 c → tcn c = pc3 c) ∧ pc3 (thg c) = tcn c ∧ tcn (thg c) = tcn c := by decide
/-- what one predicate adds -/
theorem cnt_x {n : Nat} {x : Int32} (hx : x = -1 ∨ x = 0 ∨ x = 1 ∨ x = 2) : (x < 0 → cnt n x = 0) ∧ (x = 0 → cnt n x = 1) ∧ (x = 1 → cnt n x = n) ∧ (0 ≤ x → ¬ x = 0 → ¬ x = 1 → cnt n x = n * n) := by
  rcases hx with e | e | e | e <;> subst e
  · exact ⟨fun _ => rfl, fun z => absurd z (by decide), fun z => absurd z (by decide), fun z => absurd z (by decide)⟩
  · exact ⟨fun z => absurd z (by decide), fun _ => rfl, fun z => absurd z (by decide), fun _ z => absurd rfl z⟩
  · exact ⟨fun z => absurd z (by decide), fun z => absurd z (by decide), fun _ => rfl, fun _ _ z => absurd rfl z⟩
  · exact ⟨fun z => absurd z (by decide), fun z => absurd z (by decide), fun z => absurd z (by decide), fun _ _ _ => rfl⟩
theorem fat_cg {n : Nat} {f w : Nat → Int32} : ∀ {p : Nat}, (∀ i, i < p → f i = w i) → fat n f p = fat n w p := by
  intro p
  induction p with
  | zero => exact fun _ => rfl
  | succ p ih =>
    intro hf
    unfold fat
    rw [ih fun i hi => hf i (by omega), hf p (by omega)]
theorem l_Mod_atomsOf {a n c : Nat} {f w : Nat → Int32} (hw : wok w) (hf : ∀ i, i < 4 → f i = w i) (ha : h a = some (.inl (0, 4, .inl f))) : ∀ (r i : Nat), i + r = 4 → Go K M_Mod_atomsOf r_Mod_atomsOf 22 [(0, .ref a), (1, .int (nI c)), (2, .int (nI n)), (3, .int (nI (fat n w i))), (4, .int (nI i))] [] h 0 0 (gRt (some (.int (nI (fat n w 4)))) h) := by
  intro r
  induction r with
  | zero =>
    intro i hi
    refine g_iload d_Mod_atomsOf_22 rfl ?_
    refine g_iconst (v := nI 4) d_Mod_atomsOf_24 (by decide) ?_
    refine g_icmpN_ge (tgt := 74) d_Mod_atomsOf_25 (by decide) (rfl) (rfl) (by omega) (by decide) (fun q => ?_) (fun q => ?_)
    · refine g_iload_n d_Mod_atomsOf_74 rfl ?_
      have e : i = 4 := by omega
      subst e
      exact g_ret_i d_Mod_atomsOf_75 rfl rfl ⟨rfl, rfl⟩
    · omega
  | succ r ih =>
    intro i hi
    have hx := cnt_x (n := n) (hw i (by omega))
    have fin : ∀ m : Nat, m = cnt n (w i) → Go K M_Mod_atomsOf r_Mod_atomsOf 66 [(0, .ref a), (1, .int (nI c)), (2, .int (nI n)), (3, .int (nI (fat n w i))), (4, .int (nI i))] [.int (nI m), .int (nI (fat n w i))] h 0 0 (gRt (some (.int (nI (fat n w 4)))) h) := by
      rintro m rfl
      refine g_iadd d_Mod_atomsOf_66 ?_
      rw [nI_add]
      refine g_istore_n d_Mod_atomsOf_67 rfl (Nat.le_of_ble_eq_true rfl) rfl ?_
      refine g_iinc d_Mod_atomsOf_68 rfl (nI_inc _) (Nat.le_of_ble_eq_true rfl) rfl ?_
      refine g_goto (tgt := 22) d_Mod_atomsOf_71 (by decide) ?_
      exact ih (i + 1) (by omega)
    refine g_iload d_Mod_atomsOf_22 rfl ?_
    refine g_iconst (v := nI 4) d_Mod_atomsOf_24 (by decide) ?_
    refine g_icmpN_ge (tgt := 74) d_Mod_atomsOf_25 (by decide) (rfl) (rfl) (by omega) (by decide) (fun q => ?_) (fun q => ?_)
    · omega
    · refine g_aload_n d_Mod_atomsOf_28 rfl ?_
      refine g_iload d_Mod_atomsOf_29 rfl ?_
      refine g_iald d_Mod_atomsOf_31 (ha) (rfl) (q) (by decide) ?_
      rw [hf i q]
      refine g_if_ge (tgt := 39) d_Mod_atomsOf_32 (by decide) (fun q => ?_) (fun q => ?_)
      · refine g_iload_n d_Mod_atomsOf_39 rfl ?_
        refine g_aload_n d_Mod_atomsOf_40 rfl ?_
        refine g_iload d_Mod_atomsOf_41 rfl ?_
        refine g_iald d_Mod_atomsOf_43 (ha) (rfl) (by omega) (by decide) ?_
        rw [hf i (by omega)]
        refine g_if_ne (tgt := 51) d_Mod_atomsOf_44 (by decide) (fun q => ?_) (fun q => ?_)
        · refine g_aload_n d_Mod_atomsOf_51 rfl ?_
          refine g_iload d_Mod_atomsOf_52 rfl ?_
          refine g_iald d_Mod_atomsOf_54 (ha) (rfl) (by omega) (by decide) ?_
          refine g_iconst (v := nI 1) d_Mod_atomsOf_55 (by decide) ?_
          rw [hf i (by omega)]
          refine g_icmp_ne (tgt := 63) d_Mod_atomsOf_56 (by decide) (fun q => ?_) (fun q => ?_)
          · refine g_iload_n d_Mod_atomsOf_63 rfl ?_
            refine g_iload_n d_Mod_atomsOf_64 rfl ?_
            refine g_imul d_Mod_atomsOf_65 ?_
            rw [pk_mul]
            exact fin _ (hx.2.2.2 (by assumption) (by assumption) (by assumption)).symm
          · refine g_iload_n d_Mod_atomsOf_59 rfl ?_
            refine g_goto (tgt := 66) d_Mod_atomsOf_60 (by decide) ?_
            exact fin _ (hx.2.2.1 (by assumption)).symm
        · refine g_iconst (v := nI 1) d_Mod_atomsOf_47 (by decide) ?_
          refine g_goto (tgt := 66) d_Mod_atomsOf_48 (by decide) ?_
          exact fin _ (hx.2.1 (by assumption)).symm
      · have e := hx.1 (Int32.not_le.mp q)
        refine g_iload_n d_Mod_atomsOf_35 rfl ?_
        refine g_goto (tgt := 67) d_Mod_atomsOf_36 (by decide) ?_
        refine g_istore_n d_Mod_atomsOf_67 rfl (Nat.le_of_ble_eq_true rfl) rfl ?_
        refine g_iinc d_Mod_atomsOf_68 rfl (nI_inc _) (Nat.le_of_ble_eq_true rfl) rfl ?_
        refine g_goto (tgt := 22) d_Mod_atomsOf_71 (by decide) ?_
        have e2 : fat n w i = fat n w (i + 1) := by
          show _ = fat n w i + cnt n (w i)
          rw [e]
          rfl
        rw [e2]
        exact ih (i + 1) (by omega)
theorem c_Mod_atomsOf (hst : K.1.stackTraces = false) {a c : Nat} {f w : Nat → Int32} (hw : wok w) (hf : ∀ i, i < 4 → f i = w i) (ha : h a = some (.inl (0, 4, .inl f))) (hc : c < 8) : Ct K r_Mod_atomsOf M_Mod_atomsOf [.ref a, .int (nI c)] h (gRt (some (.int (nI (atc w c)))) h) := by
  have h3 := pc3_le c
  have hp := pc3_tcn c hc
  refine Ct.of hst (by decide) (Or.inl rfl) (Nat.le_of_ble_eq_true rfl) ?_
  unfold atc
  refine g_iload_n d_Mod_atomsOf_0 rfl ?_
  refine g_callR (c_Mod_bits hst hc) gm_Mod_bits d_Mod_atomsOf_1 (gInv_s (As := [.int (nI c)]) (rest := []) d_Mod_atomsOf_1 gm_Mod_bits gs_Mod_71) (Nat.le_of_ble_eq_true rfl) (Nat.le_of_ble_eq_true rfl) (Nat.le_of_ble_eq_true rfl) (Nat.le_of_ble_eq_true rfl) (Nat.le_of_ble_eq_true rfl) ?_
  refine g_iconst (v := nI 1) d_Mod_atomsOf_4 (by decide) ?_
  refine g_icmpN_ge (tgt := 12) d_Mod_atomsOf_5 (by decide) (rfl) (rfl) (by omega) (by decide) (fun q => ?_) (fun q => ?_)
  · refine g_iload_n d_Mod_atomsOf_12 rfl ?_
    refine g_callR (c_Mod_bits hst hc) gm_Mod_bits d_Mod_atomsOf_13 (gInv_s (As := [.int (nI c)]) (rest := []) d_Mod_atomsOf_13 gm_Mod_bits gs_Mod_71) (Nat.le_of_ble_eq_true rfl) (Nat.le_of_ble_eq_true rfl) (Nat.le_of_ble_eq_true rfl) (Nat.le_of_ble_eq_true rfl) (Nat.le_of_ble_eq_true rfl) ?_
    refine g_istore_n d_Mod_atomsOf_16 rfl (Nat.le_of_ble_eq_true rfl) rfl ?_
    refine g_iconst (v := nI 0) d_Mod_atomsOf_17 (by decide) ?_
    refine g_istore_n d_Mod_atomsOf_18 rfl (Nat.le_of_ble_eq_true rfl) rfl ?_
    refine g_iconst (v := nI 0) d_Mod_atomsOf_19 (by decide) ?_
    refine g_istore d_Mod_atomsOf_20 (Nat.le_of_ble_eq_true rfl) rfl ?_
    rw [hp.2.1 q]
    exact l_Mod_atomsOf hw hf ha 4 0 rfl
  · refine g_iconst (v := nI 1) d_Mod_atomsOf_8 (by decide) ?_
    refine g_goto (tgt := 16) d_Mod_atomsOf_9 (by decide) ?_
    refine g_istore_n d_Mod_atomsOf_16 rfl (Nat.le_of_ble_eq_true rfl) rfl ?_
    refine g_iconst (v := nI 0) d_Mod_atomsOf_17 (by decide) ?_
    refine g_istore_n d_Mod_atomsOf_18 rfl (Nat.le_of_ble_eq_true rfl) rfl ?_
    refine g_iconst (v := nI 0) d_Mod_atomsOf_19 (by decide) ?_
    refine g_istore d_Mod_atomsOf_20 (Nat.le_of_ble_eq_true rfl) rfl ?_
    rw [hp.1 q]
    exact l_Mod_atomsOf hw hf ha 4 0 rfl
end MODEL
