/-! ===== the reference reads the text ===== -/
theorem mn_1 : ∀ q, q < 128 → ((-1 : Int32) - nI q < 0) ∧ (-1 : Int32) - (-1 - nI q) = nI q := by decide +kernel
theorem arg_j {tx : List Nat} {p k s : Nat} (h : ¬ arg (tx.getD p 0) = none) : p < tx.length ∧ rdJ tx k p s = none := by
  cases ha : arg (tx.getD p 0) with
  | none => exact absurd ha h
  | some a =>
    refine ⟨getD_len (arg_lt ha).2, ?_⟩
    unfold arg at ha
    unfold rdJ
    have h1 : ¬ tx.getD p 0 = 38 := fun z => by
      rw [z] at ha
      cases ha
    have h2 : ¬ tx.getD p 0 = 124 := fun z => by
      rw [z] at ha
      cases ha
    rw [if_neg fun z => h1 z.1, if_neg fun z => h2 z.1]
section MODEL13
variable {K : gK} {Y : Nat → Nat} {cd ty td th kk tg AA : Int32} {tx : List Nat}
/-- what has been read: k clauses have begun -/
def rtI (F : Nat → Nat → Int32) (k c : Nat) (w : Nat → Int32) (sz : Nat → Nat) (lt : Nat → gLD) : Prop := (∀ q, q < 4 → F 7 q = w q) ∧ (∀ u, u < k → F 2 u = nI (sz u)) ∧ ∀ u, u < k → ∀ i, i < sz u → mlt F (4 * u + i) (lt (4 * u + i))
def rtM (h0 : gH) (Y : Nat → Nat) (F0 : Nat → Nat → Int32) (cd ty td th kk tg AA : Int32) (z : Option Nat × Nat × Nat × (Nat → Int32) × (Nat → Nat) × (Nat → gLD)) (v : Option Value) (h' : gH) : Prop := ∃ (F : Nat → Nat → Int32) (nc nt : Int32), gMb h' Y F cd ty td nc nt th kk tg AA ∧ gKP h0 h' (gOf Y 17) ∧ (∀ i, i = 1 ∨ 7 < i → F i = F0 i) ∧ v = some (.int (rcv z.1)) ∧ (z.1 = none → nc = nI z.2.1 ∧ nt = nI z.2.2.1 ∧ rtI F z.2.1 z.2.2.1 z.2.2.2.1 z.2.2.2.2.1 z.2.2.2.2.2)
theorem mlt_cg {F F' : Nat → Nat → Int32} {j : Nat} {z : gLD} (hl : mlt F j z) (he : ∀ i, 3 ≤ i → i ≤ 6 → F' i j = F i j) : mlt F' j z := by
  obtain ⟨h1, h2, h3, h4⟩ := hl
  exact ⟨(he 3 (by decide) (by decide)).trans h1, (he 4 (by decide) (by decide)).trans h2, fun y => (he 5 (by decide) (by decide)).trans (h3 y), fun y => (he 6 (by decide) (by decide)).trans (h4 y)⟩
theorem l_Mod_readText (hst : K.1.stackTraces = false) {h0 : gH} {F0 : Nat → Nat → Int32} (ht : mtx F0 ty tx) : ∀ (r i k p c : Nat) (w : Nat → Int32) (sz : Nat → Nat) (lt : Nat → gLD) (h : gH) (F : Nat → Nat → Int32), i + r = 48 → i ≤ 4 * (k - 1) + sz (k - 1) → 1 ≤ k ∧ k ≤ 12 → sz (k - 1) < 4 → (∀ j, sz j ≤ 4 ∧ (k ≤ j → sz j = 0)) → p ≤ tx.length → c < 8 → wok w → atc w c ≤ 12 → gMb h Y F cd ty td (nI k) (nI c) th kk tg AA → gKP h0 h (gOf Y 17) → (∀ i, i = 1 ∨ 7 < i → F i = F0 i) → rtI F k c w sz lt →
    Go K M_Mod_readText r_Mod_readText 41 [(0, .ref (Y 0)), (1, .int (nI p)), (2, .int (nI 1))] [] h 0 0 (gRx (rtM h0 Y F0 cd ty td th kk tg AA (rdG tx r k p c w sz lt))) := by
  have t96 := ht.2.1
  intro r
  induction r with
  | zero =>
    intro i k p c w sz lt h F hi hi2 hk hsz
    omega
  | succ r ih =>
    intro i k p c w sz lt h F hi hi2 hk hsz hs4 hp hc hw hat hm hK hF hI
    have htF : mtx F ty tx := ⟨ht.1, ht.2.1, fun j hh => by rw [hF 1 (Or.inl rfl)]; exact ht.2.2.1 j hh, ht.2.2.2⟩
    have hLo := rdL_ok (tx := tx) (w := w) (c := c) hp hat
    have e : rdG tx (r + 1) k p c w sz lt = if (rdL tx w c p).1 = false then (some (rdL tx w c p).2.1, k, c, w, sz, lt)
        else if (rdL tx w c p).2.1 = tx.length then (none, k, (rdL tx w c p).2.2.2.1, (rdL tx w c p).2.2.1, va_up sz (k - 1) (sz (k - 1) + 1), va_up lt (4 * (k - 1) + sz (k - 1)) (rdL tx w c p).2.2.2.2)
        else match rdJ tx k (rdL tx w c p).2.1 (sz (k - 1) + 1) with
          | none => (some (rdL tx w c p).2.1, k, c, w, sz, lt)
          | some k' => rdG tx r k' ((rdL tx w c p).2.1 + 1) (rdL tx w c p).2.2.2.1 (rdL tx w c p).2.2.1 (va_up sz (k - 1) (sz (k - 1) + 1)) (va_up lt (4 * (k - 1) + sz (k - 1)) (rdL tx w c p).2.2.2.2) := rfl
    rw [e]
    refine g_iload_n d_Mod_readText_41 rfl ?_
    refine g_if_eq (tgt := 199) d_Mod_readText_42 (by decide) (fun q => ?_) (fun q => ?_)
    · exact absurd q (by decide)
    · refine g_aload_n d_Mod_readText_45 rfl ?_
      refine g_get d_Mod_readText_46 f_Mod_91 (hm.2) rfl ?_
      refine g_iconst (v := nI 1) d_Mod_readText_49 (by decide) ?_
      refine g_isub d_Mod_readText_50 ?_
      rw [pk_sub hk.1]
      refine g_istore_n d_Mod_readText_51 rfl (Nat.le_of_ble_eq_true rfl) rfl ?_
      refine g_aload_n d_Mod_readText_52 rfl ?_
      refine g_iconst (v := nI 4) d_Mod_readText_53 (by decide) ?_
      refine g_iload_n d_Mod_readText_54 rfl ?_
      refine g_imul d_Mod_readText_55 ?_
      refine g_aload_n d_Mod_readText_56 rfl ?_
      refine g_get d_Mod_readText_57 f_Mod_17 (hm.2) rfl ?_
      refine g_iload_n d_Mod_readText_60 rfl ?_
      refine g_iald d_Mod_readText_61 (hm.1.a2) (rfl) (by omega) (by decide) ?_
      refine g_iadd d_Mod_readText_62 ?_
      refine g_iload_n d_Mod_readText_63 rfl ?_
      rw [hI.2.1 (k - 1) (by omega), pk_mul, nI_add]
      refine g_callX (c_Mod_readLiteral hst (j0 := 4 * (k - 1) + sz (k - 1)) (p := p) (by omega) hp hw hc hat hI.1 htF hm) gm_Mod_readLiteral d_Mod_readText_64 (gInv_v (As := [.int (nI (4 * (k - 1) + sz (k - 1))), .int (nI p)]) (rest := []) d_Mod_readText_64 gm_Mod_readLiteral gv_Mod_94 (hm.2) rfl) (Nat.le_of_ble_eq_true rfl) (Nat.le_of_ble_eq_true rfl) (Nat.le_of_ble_eq_true rfl) (Nat.le_of_ble_eq_true rfl) (Nat.le_of_ble_eq_true rfl) (fun v2 h2 hp => ?_)
      obtain ⟨F2, nt2, hm2, hK2, hF2, hor⟩ := hp
      have hF2' : ∀ i, i = 1 ∨ 7 < i → F2 i = F0 i := fun i hi => (hF2 i (by omega)).trans (hF i hi)
      have hK' : gKP h0 h2 (gOf Y 17) := hK.tr hK2
      rcases hor with ⟨rfl, hb⟩ | ⟨rfl, hz, ha, rfl, hw2, hl2, ho2⟩
      · have hq := hLo.1
        have hmn := mn_1 (rdL tx w c p).2.1 (by omega)
        refine g_istore_n d_Mod_readText_67 rfl (Nat.le_of_ble_eq_true rfl) rfl ?_
        refine g_iload_n d_Mod_readText_68 rfl ?_
        refine g_if_ge (tgt := 76) d_Mod_readText_69 (by decide) (fun q => ?_) (fun q => ?_)
        · exact absurd hmn.1 (Int32.not_lt.mpr q)
        · refine g_iconst (v := -1) d_Mod_readText_72 (by decide) ?_
          refine g_iload_n d_Mod_readText_73 rfl ?_
          refine g_isub d_Mod_readText_74 ?_
          have eG : (if (rdL tx w c p).1 = false then (some (rdL tx w c p).2.1, k, c, w, sz, lt)
              else if (rdL tx w c p).2.1 = tx.length then (none, k, (rdL tx w c p).2.2.2.1, (rdL tx w c p).2.2.1, va_up sz (k - 1) (sz (k - 1) + 1), va_up lt (4 * (k - 1) + sz (k - 1)) (rdL tx w c p).2.2.2.2)
              else match rdJ tx k (rdL tx w c p).2.1 (sz (k - 1) + 1) with
                | none => (some (rdL tx w c p).2.1, k, c, w, sz, lt)
                | some k' => rdG tx r k' ((rdL tx w c p).2.1 + 1) (rdL tx w c p).2.2.2.1 (rdL tx w c p).2.2.1 (va_up sz (k - 1) (sz (k - 1) + 1)) (va_up lt (4 * (k - 1) + sz (k - 1)) (rdL tx w c p).2.2.2.2)) = (some (rdL tx w c p).2.1, k, c, w, sz, lt) := by
            by_cases h1 : (rdL tx w c p).1 = false
            · rw [if_pos h1]
            · obtain ⟨j1, j2⟩ := arg_j (k := k) (s := sz (k - 1) + 1) (hb.resolve_left h1)
              rw [if_neg h1, if_neg (by omega), j2]
          rw [eG]
          refine g_ret_i d_Mod_readText_75 rfl rfl ⟨_, rfl, F2, _, _, hm2, hK', hF2', ?_, fun z => (by cases z)⟩
          rw [hmn.2]
          rfl
      · obtain ⟨hlok, hc', -, -, hw'⟩ := rdL_lok hw hc hz
        obtain ⟨hq, hq2⟩ := hLo
        obtain ⟨hpq, hat'⟩ := hq2 hz
        rw [if_neg (by rw [hz]; decide)]
        generalize hZ : rdL tx w c p = Z at *
        have hch := ht.chr Z.2.1
        refine g_istore_n d_Mod_readText_67 rfl (Nat.le_of_ble_eq_true rfl) rfl ?_
        refine g_iload_n d_Mod_readText_68 rfl ?_
        refine g_if_ge (tgt := 76) d_Mod_readText_69 (by decide) (fun q => ?_) (fun q => ?_)
        · have hs2 : F2 2 (k - 1) = nI (sz (k - 1)) := by rw [hF2 2 (by decide)]; exact hI.2.1 (k - 1) (by omega)
          refine g_aload_n d_Mod_readText_76 rfl ?_
          refine g_get d_Mod_readText_77 f_Mod_17 (hm2.2) rfl ?_
          refine g_iload_n d_Mod_readText_80 rfl ?_
          refine g_aload_n d_Mod_readText_81 rfl ?_
          refine g_get d_Mod_readText_82 f_Mod_17 (hm2.2) rfl ?_
          refine g_iload_n d_Mod_readText_85 rfl ?_
          refine g_iald d_Mod_readText_86 (hm2.1.a2) (rfl) (by omega) (by decide) ?_
          rw [hs2]
          refine g_iconst (v := nI 1) d_Mod_readText_87 (by decide) ?_
          refine g_iadd d_Mod_readText_88 ?_
          rw [nI_add]
          refine g_iast d_Mod_readText_89 (hm2.1.a2) (rfl) (by omega) (by decide) ?_
          have hm3 : gMb (gup h2 (Y 2) (.inl (0, 12, .inl (va_up (F2 2) (k - 1) (nI (sz (k - 1) + 1)))))) Y (va_up F2 2 (va_up (F2 2) (k - 1) (nI (sz (k - 1) + 1)))) cd ty td (nI k) (nI Z.2.2.2.1) th kk tg AA := hm2.up (i := 2) (by decide) (by decide) (va_up (F2 2) (k - 1) (nI (sz (k - 1) + 1)))
          have hK3 : gKP h0 (gup h2 (Y 2) (.inl (0, 12, .inl (va_up (F2 2) (k - 1) (nI (sz (k - 1) + 1)))))) (gOf Y 17) := mK0 hK' (by decide)
          have hI3 : rtI (va_up F2 2 (va_up (F2 2) (k - 1) (nI (sz (k - 1) + 1)))) k Z.2.2.2.1 Z.2.2.1 (va_up sz (k - 1) (sz (k - 1) + 1)) (va_up lt (4 * (k - 1) + sz (k - 1)) Z.2.2.2.2) := by
            refine ⟨hw2, fun u hu => ?_, fun u hu j hj => ?_⟩
            · show (if u = k - 1 then _ else F2 2 u) = nI (if u = k - 1 then _ else sz u)
              by_cases e1 : u = k - 1
              · rw [if_pos e1, if_pos e1]
              · rw [if_neg e1, if_neg e1, hF2 2 (by decide)]
                exact hI.2.1 u hu
            · have hj' : j < (if u = k - 1 then sz (k - 1) + 1 else sz u) := hj
              show mlt _ _ (if 4 * u + j = 4 * (k - 1) + sz (k - 1) then _ else lt (4 * u + j))
              have hcg : ∀ z, mlt F2 (4 * u + j) z → mlt (va_up F2 2 (va_up (F2 2) (k - 1) (nI (sz (k - 1) + 1)))) (4 * u + j) z := fun z hz => hz
              refine hcg _ ?_
              by_cases e1 : 4 * u + j = 4 * (k - 1) + sz (k - 1)
              · rw [if_pos e1, e1]
                exact hl2
              · rw [if_neg e1]
                have hsz4 := (hs4 u).1
                have hjs : j < sz u := by
                  by_cases e2 : u = k - 1
                  · rw [if_pos e2] at hj'
                    subst e2
                    omega
                  · rw [if_neg e2] at hj'
                    exact hj'
                exact mlt_cg (hI.2.2 u hu j hjs) fun m h3 h6 => ho2 m h3 h6 _ e1
          have hF3 : ∀ i, i = 1 ∨ 7 < i → va_up F2 2 (va_up (F2 2) (k - 1) (nI (sz (k - 1) + 1))) i = F0 i := fun i hi => by
            show (if i = 2 then _ else F2 i) = _
            rw [if_neg (by omega)]
            exact hF2' i hi
          have hs3 : va_up F2 2 (va_up (F2 2) (k - 1) (nI (sz (k - 1) + 1))) 2 (k - 1) = nI (sz (k - 1) + 1) := if_pos rfl
          have ht3 : mtx (va_up F2 2 (va_up (F2 2) (k - 1) (nI (sz (k - 1) + 1)))) ty tx := ⟨ht.1, ht.2.1, fun j hh => by rw [hF3 1 (Or.inl rfl)]; exact ht.2.2.1 j hh, ht.2.2.2⟩
          generalize va_up F2 2 (va_up (F2 2) (k - 1) (nI (sz (k - 1) + 1))) = F3 at *
          generalize gup h2 (Y 2) (.inl (0, 12, .inl (va_up (F2 2) (k - 1) (nI (sz (k - 1) + 1))))) = h3 at *
          have hsz' : ∀ j, va_up sz (k - 1) (sz (k - 1) + 1) j ≤ 4 ∧ (k ≤ j → va_up sz (k - 1) (sz (k - 1) + 1) j = 0) := fun j => by
            show (if j = k - 1 then _ else sz j) ≤ 4 ∧ (k ≤ j → (if j = k - 1 then _ else sz j) = 0)
            by_cases e1 : j = k - 1
            · rw [if_pos e1]
              exact ⟨by omega, fun z => by omega⟩
            · rw [if_neg e1]
              exact hs4 j
          have eszk : va_up sz (k - 1) (sz (k - 1) + 1) (k - 1) = sz (k - 1) + 1 := if_pos rfl
          have eszn : va_up sz (k - 1) (sz (k - 1) + 1) k = 0 := (if_neg (show k ≠ k - 1 by omega)).trans ((hs4 k).2 (Nat.le_refl _))
          have go : ∀ o a : Bool, (o = true ↔ tx.getD Z.2.1 0 = 124 ∧ sz (k - 1) + 1 < 4) → (a = true ↔ tx.getD Z.2.1 0 = 38 ∧ k < 12) → Go K M_Mod_readText r_Mod_readText 141 [(0, .ref (Y 0)), (1, .int (nI Z.2.1)), (2, .int (nI 1)), (3, .int (nI (k - 1))), (4, .int (bI o))] [.int (bI a)] h3 0 0 (gRx (rtM h0 Y F0 cd ty td th kk tg AA (if Z.2.1 = tx.length then (none, k, Z.2.2.2.1, Z.2.2.1, va_up sz (k - 1) (sz (k - 1) + 1), va_up lt (4 * (k - 1) + sz (k - 1)) Z.2.2.2.2)
              else match rdJ tx k Z.2.1 (sz (k - 1) + 1) with
                | none => (some Z.2.1, k, c, w, sz, lt)
                | some k' => rdG tx r k' (Z.2.1 + 1) Z.2.2.2.1 Z.2.2.1 (va_up sz (k - 1) (sz (k - 1) + 1)) (va_up lt (4 * (k - 1) + sz (k - 1)) Z.2.2.2.2)))) := by
            intro o a ho9 ha9
            have hlt0 : ∀ {x : Nat}, x ≠ 0 → tx.getD Z.2.1 0 = x → ¬ Z.2.1 = tx.length := fun hx hy hz => by
              rw [hz, List.getD_eq_getElem?_getD, List.getElem?_eq_none (Nat.le_refl _)] at hy
              exact hx hy.symm
            cases a with
            | true =>
              have hj := ha9.mp rfl
              have eo : o = false := ts_nt fun z => by have := (ho9.mp z).1; omega
              subst eo
              have hne := hlt0 (by decide) hj.1
              have eJ : rdJ tx k Z.2.1 (sz (k - 1) + 1) = some (k + 1) := if_pos hj
              rw [if_neg hne, eJ]
              have hm4 := hm3.up (i := 2) (by decide) (by decide) (va_up (F3 2) k (nI 0))
              have hm5 := hm4.o cd ty td (nI (k + 1)) (nI Z.2.2.2.1) th kk tg AA
              refine g_istore d_Mod_readText_141 (Nat.le_of_ble_eq_true rfl) rfl ?_
              refine g_iload d_Mod_readText_143 rfl ?_
              refine g_if_ne (tgt := 153) d_Mod_readText_145 (by decide) (fun q => ?_) (fun q => ?_)
              · exact absurd q (by decide)
              · refine g_iload d_Mod_readText_148 rfl ?_
                refine g_if_eq (tgt := 157) d_Mod_readText_150 (by decide) (fun q => ?_) (fun q => ?_)
                · exact absurd q (by decide)
                · refine g_iconst (v := nI 1) d_Mod_readText_153 (by decide) ?_
                  refine g_goto (tgt := 158) d_Mod_readText_154 (by decide) ?_
                  refine g_istore_n d_Mod_readText_158 rfl (Nat.le_of_ble_eq_true rfl) rfl ?_
                  refine g_iload d_Mod_readText_159 rfl ?_
                  refine g_if_eq (tgt := 184) d_Mod_readText_161 (by decide) (fun q => ?_) (fun q => ?_)
                  · exact absurd q (by decide)
                  · refine g_aload_n d_Mod_readText_164 rfl ?_
                    refine g_get d_Mod_readText_165 f_Mod_17 (hm3.2) rfl ?_
                    refine g_aload_n d_Mod_readText_168 rfl ?_
                    refine g_get d_Mod_readText_169 f_Mod_91 (hm3.2) rfl ?_
                    refine g_iconst (v := nI 0) d_Mod_readText_172 (by decide) ?_
                    refine g_iast d_Mod_readText_173 (hm3.1.a2) (rfl) (hj.2) (by decide) ?_
                    refine g_aload_n d_Mod_readText_174 rfl ?_
                    refine g_aload_n d_Mod_readText_175 rfl ?_
                    refine g_get d_Mod_readText_176 f_Mod_91 (hm4.2) rfl ?_
                    refine g_iconst (v := nI 1) d_Mod_readText_179 (by decide) ?_
                    refine g_iadd d_Mod_readText_180 ?_
                    rw [nI_add]
                    refine g_put (fs' := [_, _, _, _, _, _, _, _, _, _, _, _, _, _, _, _, _, _, _, _, _, _, _, _, _]) d_Mod_readText_181 f_Mod_91 (hm4.2) rfl rfl (Nat.le_of_ble_eq_true rfl) rfl ?_
                    refine g_iload_n d_Mod_readText_184 rfl ?_
                    refine g_if_eq (tgt := 194) d_Mod_readText_185 (by decide) (fun q => ?_) (fun q => ?_)
                    · exact absurd q (by decide)
                    · refine g_iload_n d_Mod_readText_188 rfl ?_
                      refine g_iconst (v := nI 1) d_Mod_readText_189 (by decide) ?_
                      refine g_iadd d_Mod_readText_190 ?_
                      rw [nI_add]
                      refine g_goto (tgt := 195) d_Mod_readText_191 (by decide) ?_
                      refine g_istore_n d_Mod_readText_195 rfl (Nat.le_of_ble_eq_true rfl) rfl ?_
                      refine g_goto (tgt := 41) d_Mod_readText_196 (by decide) ?_
                      refine g_drop [(0, .ref (Y 0)), (1, .int (nI (Z.2.1 + 1))), (2, .int (nI 1))] ⟨rfl, rfl, rfl, trivial⟩ (ih (i + 1) (k + 1) (Z.2.1 + 1) Z.2.2.2.1 Z.2.2.1 _ _ _ (va_up F3 2 (va_up (F3 2) k (nI 0))) (by omega) ?_ (by omega) ?_ (fun j => ⟨(hsz' j).1, fun z => (hsz' j).2 (by omega)⟩) (by omega) hc' hw' hat' hm5 (mK0 (mK0 hK3 (by decide)) (by decide)) (fun m hm => ?_) ⟨hI3.1, fun u hu => ?_, fun u hu j hj2 => ?_⟩)
                      · rw [show k + 1 - 1 = k by omega, eszn]
                        omega
                      · rw [show k + 1 - 1 = k by omega, eszn]
                        decide
                      · show (if m = 2 then _ else F3 m) = _
                        rw [if_neg (by omega)]
                        exact hF3 m hm
                      · show (if u = k then nI 0 else F3 2 u) = _
                        by_cases e1 : u = k
                        · rw [if_pos e1, e1, eszn]
                        · rw [if_neg e1]
                          exact hI3.2.1 u (by omega)
                      · by_cases e1 : u = k
                        · rw [e1, eszn] at hj2
                          exact absurd hj2 (Nat.not_lt_zero _)
                        · exact hI3.2.2 u (by omega) j hj2
            | false =>
              have hna : ¬ (tx.getD Z.2.1 0 = 38 ∧ k < 12) := fun z => by have := ha9.mpr z; cases this
              refine g_istore d_Mod_readText_141 (Nat.le_of_ble_eq_true rfl) rfl ?_
              refine g_iload d_Mod_readText_143 rfl ?_
              refine g_if_ne (tgt := 153) d_Mod_readText_145 (by decide) (fun q => ?_) (fun q => ?_)
              · have eo := bI_t q
                subst eo
                have hj := ho9.mp rfl
                have hne := hlt0 (by decide) hj.1
                have eJ : rdJ tx k Z.2.1 (sz (k - 1) + 1) = some k := (if_neg hna).trans (if_pos hj)
                rw [if_neg hne, eJ]
                refine g_iconst (v := nI 1) d_Mod_readText_153 (by decide) ?_
                refine g_goto (tgt := 158) d_Mod_readText_154 (by decide) ?_
                refine g_istore_n d_Mod_readText_158 rfl (Nat.le_of_ble_eq_true rfl) rfl ?_
                refine g_iload d_Mod_readText_159 rfl ?_
                refine g_if_eq (tgt := 184) d_Mod_readText_161 (by decide) (fun q => ?_) (fun q => ?_)
                · refine g_iload_n d_Mod_readText_184 rfl ?_
                  refine g_if_eq (tgt := 194) d_Mod_readText_185 (by decide) (fun q => ?_) (fun q => ?_)
                  · exact absurd q (by decide)
                  · refine g_iload_n d_Mod_readText_188 rfl ?_
                    refine g_iconst (v := nI 1) d_Mod_readText_189 (by decide) ?_
                    refine g_iadd d_Mod_readText_190 ?_
                    rw [nI_add]
                    refine g_goto (tgt := 195) d_Mod_readText_191 (by decide) ?_
                    refine g_istore_n d_Mod_readText_195 rfl (Nat.le_of_ble_eq_true rfl) rfl ?_
                    refine g_goto (tgt := 41) d_Mod_readText_196 (by decide) ?_
                    refine g_drop [(0, .ref (Y 0)), (1, .int (nI (Z.2.1 + 1))), (2, .int (nI 1))] ⟨rfl, rfl, rfl, trivial⟩ (ih (i + 1) k (Z.2.1 + 1) Z.2.2.2.1 Z.2.2.1 _ _ _ F3 (by omega) ?_ hk ?_ hsz' (by omega) hc' hw' hat' hm3 hK3 hF3 hI3)
                    · rw [eszk]
                      omega
                    · rw [eszk]
                      exact hj.2
                · exact absurd (by decide) q
              · have eo := (bI_z _).mp q
                subst eo
                have hno : ¬ (tx.getD Z.2.1 0 = 124 ∧ sz (k - 1) + 1 < 4) := fun z => by have := ho9.mpr z; cases this
                have eJ : rdJ tx k Z.2.1 (sz (k - 1) + 1) = none := (if_neg hna).trans (if_neg hno)
                rw [eJ]
                refine g_iload d_Mod_readText_148 rfl ?_
                refine g_if_eq (tgt := 157) d_Mod_readText_150 (by decide) (fun q => ?_) (fun q => ?_)
                · refine g_iconst (v := nI 0) d_Mod_readText_157 (by decide) ?_
                  refine g_istore_n d_Mod_readText_158 rfl (Nat.le_of_ble_eq_true rfl) rfl ?_
                  refine g_iload d_Mod_readText_159 rfl ?_
                  refine g_if_eq (tgt := 184) d_Mod_readText_161 (by decide) (fun q => ?_) (fun q => ?_)
                  · refine g_iload_n d_Mod_readText_184 rfl ?_
                    refine g_if_eq (tgt := 194) d_Mod_readText_185 (by decide) (fun q => ?_) (fun q => ?_)
                    · refine g_iload_n d_Mod_readText_194 rfl ?_
                      refine g_istore_n d_Mod_readText_195 rfl (Nat.le_of_ble_eq_true rfl) rfl ?_
                      refine g_goto (tgt := 41) d_Mod_readText_196 (by decide) ?_
                      refine g_iload_n d_Mod_readText_41 rfl ?_
                      refine g_if_eq (tgt := 199) d_Mod_readText_42 (by decide) (fun q => ?_) (fun q => ?_)
                      · refine g_iload_n d_Mod_readText_199 rfl ?_
                        refine g_aload_n d_Mod_readText_200 rfl ?_
                        refine g_get d_Mod_readText_201 f_Mod_68 (hm3.2) rfl ?_
                        refine g_icmpN_ne (tgt := 211) d_Mod_readText_204 (by decide) (rfl) (ht.1) (by omega) (by omega) (fun q => ?_) (fun q => ?_)
                        · rw [if_neg q]
                          refine g_iload_n d_Mod_readText_211 rfl ?_
                          exact g_ret_i d_Mod_readText_212 rfl rfl ⟨_, rfl, F3, _, _, hm3, hK3, hF3, rfl, fun z => (by cases z)⟩
                        · rw [if_pos q]
                          refine g_iconst (v := -1) d_Mod_readText_207 (by decide) ?_
                          refine g_goto (tgt := 212) d_Mod_readText_208 (by decide) ?_
                          exact g_ret_i d_Mod_readText_212 rfl rfl ⟨_, rfl, F3, _, _, hm3, hK3, hF3, rfl, fun _ => ⟨rfl, rfl, hI3⟩⟩
                      · exact absurd (by decide) q
                    · exact absurd (by decide) q
                  · exact absurd (by decide) q
                · exact absurd (by decide) q
          have go2 : ∀ o : Bool, (o = true ↔ tx.getD Z.2.1 0 = 124 ∧ sz (k - 1) + 1 < 4) → Go K M_Mod_readText r_Mod_readText 115 [(0, .ref (Y 0)), (1, .int (nI Z.2.1)), (2, .int (nI 1)), (3, .int (nI (k - 1)))] [.int (bI o)] h3 0 0 (gRx (rtM h0 Y F0 cd ty td th kk tg AA (if Z.2.1 = tx.length then (none, k, Z.2.2.2.1, Z.2.2.1, va_up sz (k - 1) (sz (k - 1) + 1), va_up lt (4 * (k - 1) + sz (k - 1)) Z.2.2.2.2)
              else match rdJ tx k Z.2.1 (sz (k - 1) + 1) with
                | none => (some Z.2.1, k, c, w, sz, lt)
                | some k' => rdG tx r k' (Z.2.1 + 1) Z.2.2.2.1 Z.2.2.1 (va_up sz (k - 1) (sz (k - 1) + 1)) (va_up lt (4 * (k - 1) + sz (k - 1)) Z.2.2.2.2)))) := by
            intro o ho9
            refine g_istore d_Mod_readText_115 (Nat.le_of_ble_eq_true rfl) rfl ?_
            refine g_aload_n d_Mod_readText_117 rfl ?_
            refine g_iload_n d_Mod_readText_118 rfl ?_
            refine g_callR (c_Mod_charAt hst hm3 ht3 (p := Z.2.1) (by omega)) gm_Mod_charAt d_Mod_readText_119 (gInv_v (As := [.int (nI Z.2.1)]) (rest := []) d_Mod_readText_119 gm_Mod_charAt gv_Mod_75 (hm3.2) rfl) (Nat.le_of_ble_eq_true rfl) (Nat.le_of_ble_eq_true rfl) (Nat.le_of_ble_eq_true rfl) (Nat.le_of_ble_eq_true rfl) (Nat.le_of_ble_eq_true rfl) ?_
            refine g_bipush (v := nI 38) d_Mod_readText_122 (by decide) ?_
            refine g_icmpN_ne (tgt := 140) d_Mod_readText_124 (by decide) (rfl) (rfl) (by omega) (by decide) (fun q => ?_) (fun q => ?_)
            · refine g_iconst (v := nI 0) d_Mod_readText_140 (by decide) ?_
              exact go o false ho9 ⟨fun z => (by cases z), fun z => absurd z.1 q⟩
            · have q38 := q
              refine g_aload_n d_Mod_readText_127 rfl ?_
              refine g_get d_Mod_readText_128 f_Mod_91 (hm3.2) rfl ?_
              refine g_bipush (v := nI 12) d_Mod_readText_131 (by decide) ?_
              refine g_icmpN_ge (tgt := 140) d_Mod_readText_133 (by decide) (rfl) (rfl) (by omega) (by decide) (fun q => ?_) (fun q => ?_)
              · refine g_iconst (v := nI 0) d_Mod_readText_140 (by decide) ?_
                exact go o false ho9 ⟨fun z => (by cases z), fun z => by omega⟩
              · refine g_iconst (v := nI 1) d_Mod_readText_136 (by decide) ?_
                refine g_goto (tgt := 141) d_Mod_readText_137 (by decide) ?_
                exact go o true ho9 ⟨fun _ => ⟨q38, q⟩, fun _ => rfl⟩
          refine g_aload_n d_Mod_readText_90 rfl ?_
          refine g_iload_n d_Mod_readText_91 rfl ?_
          refine g_callR (c_Mod_charAt hst hm3 ht3 (p := Z.2.1) (by omega)) gm_Mod_charAt d_Mod_readText_92 (gInv_v (As := [.int (nI Z.2.1)]) (rest := []) d_Mod_readText_92 gm_Mod_charAt gv_Mod_75 (hm3.2) rfl) (Nat.le_of_ble_eq_true rfl) (Nat.le_of_ble_eq_true rfl) (Nat.le_of_ble_eq_true rfl) (Nat.le_of_ble_eq_true rfl) (Nat.le_of_ble_eq_true rfl) ?_
          refine g_bipush (v := nI 124) d_Mod_readText_95 (by decide) ?_
          refine g_icmpN_ne (tgt := 114) d_Mod_readText_97 (by decide) (rfl) (rfl) (by omega) (by decide) (fun q => ?_) (fun q => ?_)
          · refine g_iconst (v := nI 0) d_Mod_readText_114 (by decide) ?_
            exact go2 false ⟨fun z => (by cases z), fun z => absurd z.1 q⟩
          · have q124 := q
            refine g_aload_n d_Mod_readText_100 rfl ?_
            refine g_get d_Mod_readText_101 f_Mod_17 (hm3.2) rfl ?_
            refine g_iload_n d_Mod_readText_104 rfl ?_
            refine g_iald d_Mod_readText_105 (hm3.1.a2) (rfl) (by omega) (by decide) ?_
            refine g_iconst (v := nI 4) d_Mod_readText_106 (by decide) ?_
            rw [hs3]
            refine g_icmpN_ge (tgt := 114) d_Mod_readText_107 (by decide) (rfl) (rfl) (by omega) (by decide) (fun q => ?_) (fun q => ?_)
            · refine g_iconst (v := nI 0) d_Mod_readText_114 (by decide) ?_
              exact go2 false ⟨fun z => (by cases z), fun z => by omega⟩
            · refine g_iconst (v := nI 1) d_Mod_readText_110 (by decide) ?_
              refine g_goto (tgt := 115) d_Mod_readText_111 (by decide) ?_
              exact go2 true ⟨fun _ => ⟨q124, q⟩, fun _ => rfl⟩
        · exact absurd (Int32.not_lt.mp (nI_pos (by omega))) q
theorem l_Mod_rt0 {h0 : gH} {F0 : Nat → Nat → Int32} {nc nt : Int32} {Q : Outcome → gH → Prop} (kq : ∀ (h : gH) (F : Nat → Nat → Int32), gMb h Y F cd ty td nc nt th kk tg AA → gKP h0 h (gOf Y 17) → (∀ i, i ≠ 7 → F i = F0 i) → (∀ q, q < 4 → F 7 q = -1) → Go K M_Mod_readText r_Mod_readText 20 [(0, .ref (Y 0)), (1, .int (nI 4))] [] h 0 0 Q) : ∀ (r i : Nat) (h : gH) (F : Nat → Nat → Int32), i + r = 4 → gMb h Y F cd ty td nc nt th kk tg AA → gKP h0 h (gOf Y 17) → (∀ i, i ≠ 7 → F i = F0 i) → (∀ q, q < i → F 7 q = -1) → Go K M_Mod_readText r_Mod_readText 2 [(0, .ref (Y 0)), (1, .int (nI i))] [] h 0 0 Q := by
  intro r
  induction r with
  | zero =>
    intro i h F hi hm hK hF h7
    have e : i = 4 := by omega
    subst e
    refine g_iload_n d_Mod_readText_2 rfl ?_
    refine g_iconst (v := nI 4) d_Mod_readText_3 (by decide) ?_
    refine g_icmpN_ge (tgt := 20) d_Mod_readText_4 (by decide) (rfl) (rfl) (by decide) (by decide) (fun q => ?_) (fun q => ?_)
    · exact kq h F hm hK hF h7
    · omega
  | succ r ih =>
    intro i h F hi hm hK hF h7
    refine g_iload_n d_Mod_readText_2 rfl ?_
    refine g_iconst (v := nI 4) d_Mod_readText_3 (by decide) ?_
    refine g_icmpN_ge (tgt := 20) d_Mod_readText_4 (by decide) (rfl) (rfl) (by omega) (by decide) (fun q => ?_) (fun q => ?_)
    · omega
    · refine g_aload_n d_Mod_readText_7 rfl ?_
      refine g_get d_Mod_readText_8 f_Mod_33 (hm.2) rfl ?_
      refine g_iload_n d_Mod_readText_11 rfl ?_
      refine g_iconst (v := -1) d_Mod_readText_12 (by decide) ?_
      refine g_iast d_Mod_readText_13 (hm.1.a7) (rfl) (q) (by decide) ?_
      refine g_iinc d_Mod_readText_14 rfl (nI_inc _) (Nat.le_of_ble_eq_true rfl) rfl ?_
      refine g_goto (tgt := 2) d_Mod_readText_17 (by decide) ?_
      refine ih (i + 1) _ (va_up F 7 (va_up (F 7) i (-1))) (by omega) (hm.up (i := 7) (by decide) (by decide) _) (mK0 hK (by decide)) (fun j hj => ?_) fun j hj => ?_
      · show (if j = 7 then _ else F j) = _
        rw [if_neg hj]
        exact hF j hj
      · show (if j = i then _ else F 7 j) = _
        by_cases e : j = i
        · rw [if_pos e]
        · rw [if_neg e]
          exact h7 j (by omega)
theorem c_Mod_readText (hst : K.1.stackTraces = false) {h : gH} {F : Nat → Nat → Int32} {nc nt : Int32} (ht : mtx F ty tx) (hm : gMb h Y F cd ty td nc nt th kk tg AA) {w0 : Nat → Int32} (hw0 : ∀ p, p < 4 → w0 p = -1) : Ct K r_Mod_readText M_Mod_readText [.ref (Y 0)] h (gRx (rtM h Y F cd ty td th kk tg AA (rd0 tx w0))) := by
  refine Ct.of hst (by decide) (Or.inl rfl) (Nat.le_of_ble_eq_true rfl) ?_
  refine g_iconst (v := nI 0) d_Mod_readText_0 (by decide) ?_
  refine g_istore_n d_Mod_readText_1 rfl (Nat.le_of_ble_eq_true rfl) rfl ?_
  refine l_Mod_rt0 (F0 := F) (h0 := h) (fun h1 F1 hm1 hK1 hF1 h71 => ?_) 4 0 h F rfl hm gKP.rf (fun _ _ => rfl) fun q hq => absurd hq (Nat.not_lt_zero _)
  have hm2 := hm1.o cd ty td nc (nI 0) th kk tg AA
  have hm3 := hm2.o cd ty td (nI 1) (nI 0) th kk tg AA
  have hm4 := hm3.up (i := 2) (by decide) (by decide) (va_up (F1 2) 0 (nI 0))
  refine g_aload_n d_Mod_readText_20 rfl ?_
  refine g_iconst (v := nI 0) d_Mod_readText_21 (by decide) ?_
  refine g_put (fs' := [_, _, _, _, _, _, _, _, _, _, _, _, _, _, _, _, _, _, _, _, _, _, _, _, _]) d_Mod_readText_22 f_Mod_84 (hm1.2) rfl rfl (Nat.le_of_ble_eq_true rfl) rfl ?_
  refine g_aload_n d_Mod_readText_25 rfl ?_
  refine g_iconst (v := nI 1) d_Mod_readText_26 (by decide) ?_
  refine g_put (fs' := [_, _, _, _, _, _, _, _, _, _, _, _, _, _, _, _, _, _, _, _, _, _, _, _, _]) d_Mod_readText_27 f_Mod_91 (hm2.2) rfl rfl (Nat.le_of_ble_eq_true rfl) rfl ?_
  refine g_aload_n d_Mod_readText_30 rfl ?_
  refine g_get d_Mod_readText_31 f_Mod_17 (hm3.2) rfl ?_
  refine g_iconst (v := nI 0) d_Mod_readText_34 (by decide) ?_
  refine g_iconst (v := nI 0) d_Mod_readText_35 (by decide) ?_
  refine g_iast d_Mod_readText_36 (hm3.1.a2) (rfl) (by decide) (by decide) ?_
  refine g_iconst (v := nI 0) d_Mod_readText_37 (by decide) ?_
  refine g_istore_n d_Mod_readText_38 rfl (Nat.le_of_ble_eq_true rfl) rfl ?_
  refine g_iconst (v := nI 1) d_Mod_readText_39 (by decide) ?_
  refine g_istore_n d_Mod_readText_40 rfl (Nat.le_of_ble_eq_true rfl) rfl ?_
  have hat : atc w0 0 ≤ 12 := by
    unfold atc
    simp only [fat, hw0 0 (by decide), hw0 1 (by decide), hw0 2 (by decide), hw0 3 (by decide)]
    decide
  refine l_Mod_readText hst (F0 := F) ht 48 0 1 0 0 w0 (fun _ => 0) (fun _ => (false, 0, 0, 0, 0)) _ (va_up F1 2 (va_up (F1 2) 0 (nI 0))) rfl (by decide) (by decide) (by decide) (fun j => ⟨by decide, fun _ => rfl⟩) (Nat.zero_le _) (by decide) (fun p hp => Or.inl (hw0 p hp)) hat hm4 (mK0 (mK0 (mK0 hK1 (by decide)) (by decide)) (by decide)) (fun i hi => ?_) ⟨fun q hq => ?_, fun u hu => ?_, fun u hu j hj => absurd hj (Nat.not_lt_zero _)⟩
  · show (if i = 2 then _ else F1 i) = _
    rw [if_neg (by omega)]
    exact hF1 i (by omega)
  · show F1 7 q = _
    rw [h71 q hq, hw0 q hq]
  · have e : u = 0 := by omega
    subst e
    rfl
end MODEL13
