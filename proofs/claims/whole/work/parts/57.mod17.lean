/-! ===== the reference tries every table ===== -/
theorem bt_one : ∀ j, j < 32 → ∀ i, i < 32 → bt (nI 1 <<< (nI j &&& 31)) i = decide (i = j) := by decide +kernel
section MODEL17
variable {K : gK} {h : gH} {Y : Nat → Nat} {F : Nat → Nat → Int32} {cd ty td nc nt th kk tg : Int32} {A : Nat}
/-- what trying the tables of clause u leaves -/
def ttI (F0 F : Nat → Nat → Int32) (u : Nat) : Prop := (∀ m, m ≠ 16 → F m = F0 m) ∧ ∀ j, j < 128 * u ∨ 128 * u + 128 ≤ j → F 16 j = F0 16 j
theorem ttI.up {F0 F : Nat → Nat → Int32} {u j : Nat} {x : Int32} (hI : ttI F0 F u) (hj : j < 128) : ttI F0 (va_up F 16 (va_up (F 16) (128 * u + j) x)) u := by
  refine ⟨fun m hm => ?_, fun i hi => ?_⟩
  · show (if m = 16 then _ else F m) = _
    rw [if_neg hm]
    exact hI.1 m hm
  · show (if i = 128 * u + j then _ else F 16 i) = _
    rw [if_neg (by omega)]
    exact hI.2 i hi
theorem l_Mod_try1 {h0 : gH} {F0 : Nat → Nat → Int32} {u : Nat} (hu : u < 12) {Q : Outcome → gH → Prop} (kq : ∀ (h : gH) (F : Nat → Nat → Int32), gMb h Y F cd ty td nc nt th kk tg (nI A) → gKP h0 h (gOf Y 17) → ttI F0 F u → (∀ j, j < 128 → F 16 (128 * u + j) = 0) → Go K M_Mod_tryTables r_Mod_tryTables 28 [(0, .ref (Y 0)), (1, .int (nI u)), (2, .int (nI 128))] [] h 0 0 Q) : ∀ (r i : Nat) (h : gH) (F : Nat → Nat → Int32), i + r = 128 → gMb h Y F cd ty td nc nt th kk tg (nI A) → gKP h0 h (gOf Y 17) → ttI F0 F u → (∀ j, j < i → F 16 (128 * u + j) = 0) → Go K M_Mod_tryTables r_Mod_tryTables 2 [(0, .ref (Y 0)), (1, .int (nI u)), (2, .int (nI i))] [] h 0 0 Q := by
  intro r
  induction r with
  | zero =>
    intro i h F hi hm hK hI h0
    have e : i = 128 := by omega
    subst e
    refine g_iload_n d_Mod_tryTables_2 rfl ?_
    refine g_sipush (v := nI 128) d_Mod_tryTables_3 (by decide) ?_
    refine g_icmpN_ge (tgt := 28) d_Mod_tryTables_6 (by decide) (rfl) (rfl) (by decide) (by decide) (fun q => ?_) (fun q => ?_)
    · exact kq h F hm hK hI h0
    · omega
  | succ r ih =>
    intro i h F hi hm hK hI h0
    refine g_iload_n d_Mod_tryTables_2 rfl ?_
    refine g_sipush (v := nI 128) d_Mod_tryTables_3 (by decide) ?_
    refine g_icmpN_ge (tgt := 28) d_Mod_tryTables_6 (by decide) (rfl) (rfl) (by omega) (by decide) (fun q => ?_) (fun q => ?_)
    · omega
    · refine g_aload_n d_Mod_tryTables_9 rfl ?_
      refine g_get d_Mod_tryTables_10 f_Mod_60 (hm.2) rfl ?_
      refine g_sipush (v := nI 128) d_Mod_tryTables_13 (by decide) ?_
      refine g_iload_n d_Mod_tryTables_16 rfl ?_
      refine g_imul d_Mod_tryTables_17 ?_
      refine g_iload_n d_Mod_tryTables_18 rfl ?_
      refine g_iadd d_Mod_tryTables_19 ?_
      refine g_iconst (v := nI 0) d_Mod_tryTables_20 (by decide) ?_
      refine g_iast d_Mod_tryTables_21 (hm.1.a16) (by rw [pk_mul, nI_add]) (by omega) (by decide) ?_
      refine g_iinc d_Mod_tryTables_22 rfl (nI_inc _) (Nat.le_of_ble_eq_true rfl) rfl ?_
      refine g_goto (tgt := 2) d_Mod_tryTables_25 (by decide) ?_
      refine ih (i + 1) _ _ (by omega) (hm.up (i := 16) (by decide) (by decide) (va_up (F 16) (128 * u + i) (nI 0))) (mK0 hK (by decide)) (hI.up q) fun j hj => ?_
      show (if 128 * u + j = 128 * u + i then nI 0 else F 16 (128 * u + j)) = 0
      by_cases e : j = i
      · rw [if_pos (by omega)]
        rfl
      · rw [if_neg (by omega)]
        exact h0 j (by omega)
theorem l_Mod_try_i (hst : K.1.stackTraces = false) {u t : Nat} {l : List Nat} (hu : u < 12) (ht : t < 4096) (hm : gMb h Y F cd ty td nc nt th kk tg (nI A)) (hl : mls F u l) {Q : Outcome → gH → Prop} (kq : ∀ (b : Bool) (z : Int32), (b = true ↔ ∀ e, e ∈ l → rgt e t = true) → Go K M_Mod_tryTables r_Mod_tryTables 83 [(0, .ref (Y 0)), (1, .int (nI u)), (2, .int (nI t)), (3, .int (bI b)), (4, .int z)] [] h 0 0 Q) : ∀ (r i : Nat) (b : Bool), i + r = l.length → (b = true ↔ ∀ e, e ∈ l.take i → rgt e t = true) → Go K M_Mod_tryTables r_Mod_tryTables 45 [(0, .ref (Y 0)), (1, .int (nI u)), (2, .int (nI t)), (3, .int (bI b)), (4, .int (nI i))] [] h 0 0 Q := by
  have h27 := hl.2.1
  intro r
  induction r with
  | zero =>
    intro i b hi hb
    refine g_iload d_Mod_tryTables_45 rfl ?_
    refine g_aload_n d_Mod_tryTables_47 rfl ?_
    refine g_get d_Mod_tryTables_48 f_Mod_57 (hm.2) rfl ?_
    refine g_iload_n d_Mod_tryTables_51 rfl ?_
    refine g_iald d_Mod_tryTables_52 (hm.1.a15) (rfl) (hu) (by decide) ?_
    rw [hl.1]
    refine g_icmpN_ge (tgt := 83) d_Mod_tryTables_53 (by decide) (rfl) (rfl) (by omega) (by omega) (fun q => ?_) (fun q => ?_)
    · rw [List.take_of_length_le (by omega)] at hb
      exact kq b _ hb
    · omega
  | succ r ih =>
    intro i b hi hb
    refine g_iload d_Mod_tryTables_45 rfl ?_
    refine g_aload_n d_Mod_tryTables_47 rfl ?_
    refine g_get d_Mod_tryTables_48 f_Mod_57 (hm.2) rfl ?_
    refine g_iload_n d_Mod_tryTables_51 rfl ?_
    refine g_iald d_Mod_tryTables_52 (hm.1.a15) (rfl) (hu) (by decide) ?_
    rw [hl.1]
    refine g_icmpN_ge (tgt := 83) d_Mod_tryTables_53 (by decide) (rfl) (rfl) (by omega) (by omega) (fun q => ?_) (fun q => ?_)
    · omega
    · have qi := q
      refine g_iload_n d_Mod_tryTables_56 rfl ?_
      refine g_if_eq (tgt := 83) d_Mod_tryTables_57 (by decide) (fun q => ?_) (fun q => ?_)
      · refine kq b _ ⟨fun z => ?_, fun z => hb.mpr fun e he => z e (List.mem_of_mem_take he)⟩
        rw [(bI_z _).mp q] at z
        cases z
      · have qb := bI_t q
        refine g_aload_n d_Mod_tryTables_60 rfl ?_
        refine g_get d_Mod_tryTables_61 f_Mod_54 (hm.2) rfl ?_
        refine g_bipush (v := nI 27) d_Mod_tryTables_64 (by decide) ?_
        refine g_iload_n d_Mod_tryTables_66 rfl ?_
        refine g_imul d_Mod_tryTables_67 ?_
        refine g_iload d_Mod_tryTables_68 rfl ?_
        refine g_iadd d_Mod_tryTables_70 ?_
        refine g_iald d_Mod_tryTables_71 (hm.1.a14) (by rw [pk_mul, nI_add]) (by omega) (by decide) ?_
        refine g_iload_n d_Mod_tryTables_72 rfl ?_
        rw [hl.2.2.1 i qi]
        refine g_callR (c_Mod_isRight hst (e := l.getD i 0) (hl.lt i) ht) gm_Mod_isRight d_Mod_tryTables_73 (gInv_s (As := [.int (nI (l.getD i 0)), .int (nI t)]) (rest := []) d_Mod_tryTables_73 gm_Mod_isRight gs_Mod_129) (Nat.le_of_ble_eq_true rfl) (Nat.le_of_ble_eq_true rfl) (Nat.le_of_ble_eq_true rfl) (Nat.le_of_ble_eq_true rfl) (Nat.le_of_ble_eq_true rfl) ?_
        refine g_istore_n d_Mod_tryTables_76 rfl (Nat.le_of_ble_eq_true rfl) rfl ?_
        refine g_iinc d_Mod_tryTables_77 rfl (nI_inc _) (Nat.le_of_ble_eq_true rfl) rfl ?_
        refine g_goto (tgt := 45) d_Mod_tryTables_80 (by decide) ?_
        refine ih (i + 1) _ (by omega) ⟨fun z e he => ?_, fun z => z _ ((mem_take_s qi).mpr (Or.inr rfl))⟩
        rcases (mem_take_s qi).mp he with y | y
        · exact hb.mp qb e y
        · rw [← y]
          exact z
/-- the bits so far -/
def ttB (F : Nat → Nat → Int32) (u t : Nat) (l : List Nat) : Prop := ∀ s, s < 4096 → (mhb F u s = true ↔ s < t ∧ ∀ e, e ∈ l → rgt e s = true)
theorem l_Mod_try2 (hst : K.1.stackTraces = false) {h0 : gH} {F0 : Nat → Nat → Int32} {u : Nat} {l : List Nat} (hu : u < 12) (hA : A ≤ 12) (hl0 : mls F0 u l) {Q : Outcome → gH → Prop} (kq : ∀ (h : gH) (F : Nat → Nat → Int32), gMb h Y F cd ty td nc nt th kk tg (nI A) → gKP h0 h (gOf Y 17) → ttI F0 F u → ttB F u (2 ^ A) l → Q (.returned none) h) : ∀ (r t : Nat) (h : gH) (F : Nat → Nat → Int32), t + r = 2 ^ A → gMb h Y F cd ty td nc nt th kk tg (nI A) → gKP h0 h (gOf Y 17) → ttI F0 F u → ttB F u t l → Go K M_Mod_tryTables r_Mod_tryTables 30 [(0, .ref (Y 0)), (1, .int (nI u)), (2, .int (nI t))] [] h 0 0 Q := by
  have h12 := pwA hA
  intro r
  induction r with
  | zero =>
    intro t h F hr hm hK hI hB
    have e : t = 2 ^ A := by omega
    subst e
    refine g_iload_n d_Mod_tryTables_30 rfl ?_
    refine g_iconst (v := nI 1) d_Mod_tryTables_31 (by decide) ?_
    refine g_aload_n d_Mod_tryTables_32 rfl ?_
    refine g_get d_Mod_tryTables_33 f_Mod_108 (hm.2) rfl ?_
    refine g_ishl d_Mod_tryTables_36 ?_
    rw [nI_shl1 (by omega)]
    refine g_icmpN_ge (tgt := 130) d_Mod_tryTables_37 (by decide) (rfl) (rfl) (by omega) (by omega) (fun q => ?_) (fun q => ?_)
    · exact g_ret_v d_Mod_tryTables_130 rfl (kq h F hm hK hI hB)
    · omega
  | succ r ih =>
    intro t h F hr hm hK hI hB
    have hl : mls F u l := by
      unfold mls at hl0 ⊢
      rw [hI.1 14 (by decide), hI.1 15 (by decide)]
      exact hl0
    refine g_iload_n d_Mod_tryTables_30 rfl ?_
    refine g_iconst (v := nI 1) d_Mod_tryTables_31 (by decide) ?_
    refine g_aload_n d_Mod_tryTables_32 rfl ?_
    refine g_get d_Mod_tryTables_33 f_Mod_108 (hm.2) rfl ?_
    refine g_ishl d_Mod_tryTables_36 ?_
    rw [nI_shl1 (by omega)]
    refine g_icmpN_ge (tgt := 130) d_Mod_tryTables_37 (by decide) (rfl) (rfl) (by omega) (by omega) (fun q => ?_) (fun q => ?_)
    · omega
    · refine g_iconst (v := nI 1) d_Mod_tryTables_40 (by decide) ?_
      refine g_istore_n d_Mod_tryTables_41 rfl (Nat.le_of_ble_eq_true rfl) rfl ?_
      refine g_iconst (v := nI 0) d_Mod_tryTables_42 (by decide) ?_
      refine g_istore d_Mod_tryTables_43 (Nat.le_of_ble_eq_true rfl) rfl ?_
      refine l_Mod_try_i hst hu (by omega) hm hl (fun b z hb => ?_) l.length 0 true (by omega) ⟨fun _ e he => (by cases he), fun _ => rfl⟩
      refine g_iload_n d_Mod_tryTables_83 rfl ?_
      refine g_if_eq (tgt := 124) d_Mod_tryTables_84 (by decide) (fun q => ?_) (fun q => ?_)
      · have hbf := (bI_z _).mp q
        refine g_iinc d_Mod_tryTables_124 rfl (nI_inc _) (Nat.le_of_ble_eq_true rfl) rfl ?_
        refine g_goto (tgt := 30) d_Mod_tryTables_127 (by decide) ?_
        refine g_drop [(0, .ref (Y 0)), (1, .int (nI u)), (2, .int (nI (t + 1)))] ⟨rfl, rfl, rfl, trivial⟩ (ih (t + 1) h F (by omega) hm hK hI fun s hs => (hB s hs).trans ⟨fun y => ⟨by omega, y.2⟩, fun y => ⟨?_, y.2⟩⟩)
        by_cases e : s = t
        · subst e
          have := hb.mpr y.2
          rw [hbf] at this
          cases this
        · omega
      · have hbt := hb.mp (bI_t q)
        have hm1 := hm.up (i := 16) (by decide) (by decide) (va_up (F 16) (128 * u + t / 32) (F 16 (128 * u + t / 32) ||| (nI 1 <<< (nI (t % 32) &&& 31))))
        refine g_aload_n d_Mod_tryTables_87 rfl ?_
        refine g_get d_Mod_tryTables_88 f_Mod_60 (hm.2) rfl ?_
        refine g_sipush (v := nI 128) d_Mod_tryTables_91 (by decide) ?_
        refine g_iload_n d_Mod_tryTables_94 rfl ?_
        refine g_imul d_Mod_tryTables_95 ?_
        refine g_iload_n d_Mod_tryTables_96 rfl ?_
        refine g_bipush (v := nI 32) d_Mod_tryTables_97 (by decide) ?_
        refine g_idiv d_Mod_tryTables_99 (by decide) ?_
        rw [pk_mul, pk_div (by omega) (by decide) (by decide)]
        refine g_iadd d_Mod_tryTables_100 ?_
        rw [nI_add]
        refine g_aload_n d_Mod_tryTables_101 rfl ?_
        refine g_get d_Mod_tryTables_102 f_Mod_60 (hm.2) rfl ?_
        refine g_sipush (v := nI 128) d_Mod_tryTables_105 (by decide) ?_
        refine g_iload_n d_Mod_tryTables_108 rfl ?_
        refine g_imul d_Mod_tryTables_109 ?_
        refine g_iload_n d_Mod_tryTables_110 rfl ?_
        refine g_bipush (v := nI 32) d_Mod_tryTables_111 (by decide) ?_
        refine g_idiv d_Mod_tryTables_113 (by decide) ?_
        rw [pk_mul, pk_div (by omega) (by decide) (by decide)]
        refine g_iadd d_Mod_tryTables_114 ?_
        rw [nI_add]
        refine g_iald d_Mod_tryTables_115 (hm.1.a16) (rfl) (by omega) (by decide) ?_
        refine g_iconst (v := nI 1) d_Mod_tryTables_116 (by decide) ?_
        refine g_iload_n d_Mod_tryTables_117 rfl ?_
        refine g_bipush (v := nI 32) d_Mod_tryTables_118 (by decide) ?_
        refine g_irem d_Mod_tryTables_120 (by decide) ?_
        rw [pk_rem (by omega) (by decide) (by decide)]
        refine g_ishl d_Mod_tryTables_121 ?_
        refine g_ior d_Mod_tryTables_122 ?_
        refine g_iast d_Mod_tryTables_123 (hm.1.a16) (rfl) (by omega) (by decide) ?_
        refine g_iinc d_Mod_tryTables_124 rfl (nI_inc _) (Nat.le_of_ble_eq_true rfl) rfl ?_
        refine g_goto (tgt := 30) d_Mod_tryTables_127 (by decide) ?_
        refine g_drop [(0, .ref (Y 0)), (1, .int (nI u)), (2, .int (nI (t + 1)))] ⟨rfl, rfl, rfl, trivial⟩ (ih (t + 1) _ _ (by omega) hm1 (mK0 hK (by decide)) (hI.up (by omega)) fun s hs => ?_)
        have em : mhb (va_up F 16 (va_up (F 16) (128 * u + t / 32) (F 16 (128 * u + t / 32) ||| (nI 1 <<< (nI (t % 32) &&& 31))))) u s = (mhb F u s || decide (s = t)) := by
          show bt (if 128 * u + s / 32 = 128 * u + t / 32 then F 16 (128 * u + t / 32) ||| (nI 1 <<< (nI (t % 32) &&& 31)) else F 16 (128 * u + s / 32)) (s % 32) = (bt (F 16 (128 * u + s / 32)) (s % 32) || decide (s = t))
          by_cases e : s / 32 = t / 32
          · rw [if_pos (by omega), b_or, bt_one _ (Nat.mod_lt _ (by decide)) _ (Nat.mod_lt _ (by decide)), e]
            congr 1
            exact decide_eq_decide.mpr ⟨fun _ => by omega, fun _ => by omega⟩
          · rw [if_neg (by omega), decide_eq_false (show ¬ s = t from fun y => e (by rw [y])), Bool.or_false]
        rw [em, Bool.or_eq_true, decide_eq_true_iff, hB s hs]
        constructor
        · rintro (y | y)
          · exact ⟨by omega, y.2⟩
          · exact ⟨by omega, y ▸ hbt⟩
        · rintro ⟨y1, y2⟩
          by_cases e : s = t
          · exact Or.inr e
          · exact Or.inl ⟨by omega, y2⟩
theorem c_Mod_tryTables (hst : K.1.stackTraces = false) {u : Nat} {l : List Nat} (hu : u < 12) (hA : A ≤ 12) (hm : gMb h Y F cd ty td nc nt th kk tg (nI A)) (hl : mls F u l) : Ct K r_Mod_tryTables M_Mod_tryTables [.ref (Y 0), .int (nI u)] h (gRx fun o h' => o = none ∧ ∃ F', gMb h' Y F' cd ty td nc nt th kk tg (nI A) ∧ gKP h h' (gOf Y 17) ∧ ttI F F' u ∧ ∀ t, t < 2 ^ A → (mhb F' u t = true ↔ ∀ e, e ∈ l → rgt e t = true)) := by
  have h12 := pwA hA
  refine Ct.of hst (by decide) (Or.inl rfl) (Nat.le_of_ble_eq_true rfl) ?_
  refine g_iconst (v := nI 0) d_Mod_tryTables_0 (by decide) ?_
  refine g_istore_n d_Mod_tryTables_1 rfl (Nat.le_of_ble_eq_true rfl) rfl ?_
  refine l_Mod_try1 (F0 := F) (h0 := h) hu (fun h1 F1 hm1 hK1 hI1 hz => ?_) 128 0 h F rfl hm gKP.rf ⟨fun _ _ => rfl, fun _ _ => rfl⟩ fun j hj => absurd hj (Nat.not_lt_zero _)
  refine g_iconst (v := nI 0) d_Mod_tryTables_28 (by decide) ?_
  refine g_istore_n d_Mod_tryTables_29 rfl (Nat.le_of_ble_eq_true rfl) rfl ?_
  have hl1 : mls F1 u l := by
    unfold mls at hl ⊢
    rw [hI1.1 14 (by decide), hI1.1 15 (by decide)]
    exact hl
  refine l_Mod_try2 hst (F0 := F1) (h0 := h) hu hA hl1 (fun h2 F2 hm2 hK2 hI2 hB2 => ?_) (2 ^ A) 0 h1 F1 (by omega) hm1 hK1 ⟨fun _ _ => rfl, fun _ _ => rfl⟩ fun s hs => ?_
  · refine ⟨_, rfl, rfl, F2, hm2, hK2, ⟨fun m hm => (hI2.1 m hm).trans (hI1.1 m hm), fun j hj => (hI2.2 j hj).trans (hI1.2 j hj)⟩, fun t ht => (hB2 t (by omega)).trans ⟨fun y => y.2, fun y => ⟨ht, y⟩⟩⟩
  · unfold mhb
    rw [hz (s / 32) (by omega), b_0]
    exact ⟨fun y => (by cases y), fun y => absurd y.1 (Nat.not_lt_zero _)⟩
end MODEL17
