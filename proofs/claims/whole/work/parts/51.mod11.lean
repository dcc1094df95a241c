/-! ===== the reference reads a literal ===== -/
section MODEL11
variable {K : gK} {Y : Nat → Nat} {cd ty td nc th kk tg AA : Int32} {tx : List Nat}
theorem rcv_n {o : Option Nat} (h : rcv o < 0) (ho : ∀ a, o = some a → a < 2 ^ 31) : o = none := by
  cases o with
  | none => rfl
  | some a => exact absurd h (nI_pos (ho a rfl))
theorem rcv_s {o : Option Nat} (h : ¬ rcv o < 0) : ∃ a, o = some a := by
  cases o with
  | none => exact absurd (by decide) h
  | some a => exact ⟨a, rfl⟩
def arI (F0 F : Nat → Nat → Int32) (j0 n a1 a2 : Nat) : Prop := (∀ i, i ≠ 5 → i ≠ 6 → F i = F0 i) ∧ (∀ i j, j ≠ j0 → F i j = F0 i j) ∧ (0 < n → F 5 j0 = nI a1) ∧ (1 < n → F 6 j0 = nI a2)
theorem arI.next {F0 F : Nat → Nat → Int32} {j0 n a1 a2 a : Nat} (hi : arI F0 F j0 n a1 a2) (hn : n ≤ 1) : arI F0 (va_up (va_up F 5 (va_up (F 5) j0 (if n = 0 then nI a else F 5 j0))) 6 (va_up (F 6) j0 (if n = 1 then nI a else F 6 j0))) j0 (n + 1) (if n = 0 then a else a1) (if n = 1 then a else a2) := by
  obtain ⟨i1, i2, i3, i4⟩ := hi
  refine ⟨fun i h5 h6 => ?_, fun i j hj => ?_, fun _ => ?_, fun h1 => ?_⟩
  · show (if i = 6 then _ else if i = 5 then _ else F i) = _
    rw [if_neg h6, if_neg h5]
    exact i1 i h5 h6
  · show (if i = 6 then va_up (F 6) j0 _ else if i = 5 then va_up (F 5) j0 _ else F i) j = _
    by_cases h6 : i = 6
    · subst h6
      rw [if_pos rfl]
      show (if j = j0 then _ else F 6 j) = _
      rw [if_neg hj]
      exact i2 6 j hj
    · rw [if_neg h6]
      by_cases h5 : i = 5
      · subst h5
        rw [if_pos rfl]
        show (if j = j0 then _ else F 5 j) = _
        rw [if_neg hj]
        exact i2 5 j hj
      · rw [if_neg h5]
        exact i2 i j hj
  · show (if j0 = j0 then (if n = 0 then nI a else F 5 j0) else F 5 j0) = _
    rw [if_pos rfl]
    by_cases e : n = 0
    · rw [if_pos e, if_pos e]
    · rw [if_neg e, if_neg e]
      exact i3 (by omega)
  · show (if j0 = j0 then (if n = 1 then nI a else F 6 j0) else F 6 j0) = _
    rw [if_pos rfl, if_pos (by omega), if_pos (by omega)]
theorem l_Mod_args (hst : K.1.stackTraces = false) {h0 : gH} {F0 : Nat → Nat → Int32} {j0 x mo p0 : Nat} {w : Nat → Int32} (hj0 : j0 < 48) (hmo : mo ≤ 2) (hw : wok w) (hw7 : ∀ q, q < 4 → F0 7 q = w q) (ht : mtx F0 ty tx) {Q : Outcome → gH → Prop} {z : Bool × Nat × Nat × Nat × Nat × Nat}
    (kq : z.1 = true → ∀ (h : gH) (F : Nat → Nat → Int32), gMb h Y F cd ty td nc (nI z.2.2.2.1) th kk tg AA → gKP h0 h (gOf Y 17) → arI F0 F j0 z.2.1 z.2.2.2.2.1 z.2.2.2.2.2 → z.2.2.2.1 < 8 → z.2.1 ≤ mo → (z.2.1 < mo → arg (tx.getD z.2.2.1 0) = none) → z.2.2.1 ≤ tx.length → Go K M_Mod_readLiteral r_Mod_readLiteral 229 [(0, .ref (Y 0)), (1, .int (nI j0)), (2, .int (nI p0)), (3, .int (nI z.2.2.1)), (4, .int (nI x)), (5, .int (nI z.2.1)), (6, .int (nI mo))] [] h 0 0 Q)
    (kf : z.1 = false → ∀ (h : gH) (F : Nat → Nat → Int32), gMb h Y F cd ty td nc (nI z.2.2.2.1) th kk tg AA → gKP h0 h (gOf Y 17) → (∀ i, i ≠ 5 → i ≠ 6 → F i = F0 i) → z.2.2.1 ≤ tx.length → Q (.returned (some (.int (-1 - nI z.2.2.1)))) h) : ∀ (r n p c a1 a2 : Nat) (h : gH) (F : Nat → Nat → Int32), n + r = mo → rdA tx w r n p c a1 a2 = z → p ≤ tx.length → c < 8 → gMb h Y F cd ty td nc (nI c) th kk tg AA → gKP h0 h (gOf Y 17) → arI F0 F j0 n a1 a2 → Go K M_Mod_readLiteral r_Mod_readLiteral 97 [(0, .ref (Y 0)), (1, .int (nI j0)), (2, .int (nI p0)), (3, .int (nI p)), (4, .int (nI x)), (5, .int (nI n)), (6, .int (nI mo))] [] h 0 0 Q := by
  have t96 := ht.2.1
  intro r
  induction r with
  | zero =>
    intro n p c a1 a2 h F hn hz hp hc hm hk hi
    have e : n = mo := by omega
    subst e
    subst hz
    refine g_iload d_Mod_readLiteral_97 rfl ?_
    refine g_iload d_Mod_readLiteral_99 rfl ?_
    refine g_icmpN_ge (tgt := 229) d_Mod_readLiteral_101 (by decide) (rfl) (rfl) (by omega) (by omega) (fun q => ?_) (fun q => ?_)
    · exact kq rfl h F hm hk hi hc (Nat.le_refl _) (fun y => absurd y (Nat.lt_irrefl _)) hp
    · omega
  | succ r ih =>
    intro n p c a1 a2 h F hn hz hp hc hm hk hi
    have htF : mtx F ty tx := ⟨ht.1, ht.2.1, fun i hh => by rw [hi.1 1 (by decide) (by decide)]; exact ht.2.2.1 i hh, ht.2.2.2⟩
    have hch := ht.chr p
    refine g_iload d_Mod_readLiteral_97 rfl ?_
    refine g_iload d_Mod_readLiteral_99 rfl ?_
    refine g_icmpN_ge (tgt := 229) d_Mod_readLiteral_101 (by decide) (rfl) (rfl) (by omega) (by omega) (fun q => ?_) (fun q => ?_)
    · omega
    · refine g_aload_n d_Mod_readLiteral_104 rfl ?_
      refine g_iload_n d_Mod_readLiteral_105 rfl ?_
      refine g_callR (c_Mod_charAt hst hm htF (p := p) (by omega)) gm_Mod_charAt d_Mod_readLiteral_106 (gInv_v (As := [.int (nI p)]) (rest := []) d_Mod_readLiteral_106 gm_Mod_charAt gv_Mod_75 (hm.2) rfl) (Nat.le_of_ble_eq_true rfl) (Nat.le_of_ble_eq_true rfl) (Nat.le_of_ble_eq_true rfl) (Nat.le_of_ble_eq_true rfl) (Nat.le_of_ble_eq_true rfl) ?_
      refine g_callR (c_Mod_argument hst (c := tx.getD p 0) (by omega)) gm_Mod_argument d_Mod_readLiteral_109 (gInv_s (As := [.int (nI (tx.getD p 0))]) (rest := []) d_Mod_readLiteral_109 gm_Mod_argument gs_Mod_81) (Nat.le_of_ble_eq_true rfl) (Nat.le_of_ble_eq_true rfl) (Nat.le_of_ble_eq_true rfl) (Nat.le_of_ble_eq_true rfl) (Nat.le_of_ble_eq_true rfl) ?_
      refine g_if_lt (tgt := 229) d_Mod_readLiteral_112 (by decide) (fun q => ?_) (fun q => ?_)
      · have ha := rcv_n q fun a h9 => by have := (arg_lt h9).1; omega
        have e : rdA tx w (r + 1) n p c a1 a2 = (true, n, p, c, a1, a2) := by
          simp only [rdA, ha]
        rw [e] at hz
        subst hz
        exact kq rfl h F hm hk hi hc (by show n ≤ mo; omega) (fun _ => ha) hp
      · obtain ⟨a, ha⟩ := rcv_s q
        have ha6 := arg_lt ha
        have hpl := getD_len ha6.2
        have e : rdA tx w (r + 1) n p c a1 a2 = if 12 < atc w (if a < 3 then c ||| 2 ^ a else c) then (false, n, p, (if a < 3 then c ||| 2 ^ a else c), a1, a2) else rdA tx w r (n + 1) (p + 1) (if a < 3 then c ||| 2 ^ a else c) (if n = 0 then a else a1) (if n = 1 then a else a2) := by
          simp only [rdA, ha]
        rw [e] at hz
        refine g_aload_n d_Mod_readLiteral_115 rfl ?_
        refine g_iload_n d_Mod_readLiteral_116 rfl ?_
        refine g_callR (c_Mod_charAt hst hm htF (p := p) (by omega)) gm_Mod_charAt d_Mod_readLiteral_117 (gInv_v (As := [.int (nI p)]) (rest := []) d_Mod_readLiteral_117 gm_Mod_charAt gv_Mod_75 (hm.2) rfl) (Nat.le_of_ble_eq_true rfl) (Nat.le_of_ble_eq_true rfl) (Nat.le_of_ble_eq_true rfl) (Nat.le_of_ble_eq_true rfl) (Nat.le_of_ble_eq_true rfl) ?_
        refine g_callR (c_Mod_argument hst (c := tx.getD p 0) (by omega)) gm_Mod_argument d_Mod_readLiteral_120 (gInv_s (As := [.int (nI (tx.getD p 0))]) (rest := []) d_Mod_readLiteral_120 gm_Mod_argument gs_Mod_81) (Nat.le_of_ble_eq_true rfl) (Nat.le_of_ble_eq_true rfl) (Nat.le_of_ble_eq_true rfl) (Nat.le_of_ble_eq_true rfl) (Nat.le_of_ble_eq_true rfl) ?_
        rw [ha, show rcv (some a) = nI a from rfl]
        have go : ∀ c', c' < 8 → (if a < 3 then c ||| 2 ^ a else c) = c' → Go K M_Mod_readLiteral r_Mod_readLiteral 148 [(0, .ref (Y 0)), (1, .int (nI j0)), (2, .int (nI p0)), (3, .int (nI p)), (4, .int (nI x)), (5, .int (nI n)), (6, .int (nI mo)), (7, .int (nI a))] [.int (nI c'), .ref (Y 0)] h 0 0 Q := by
          intro c' hc' ec
          rw [ec] at hz
          have hm1 := hm.o cd ty td nc (nI c') th kk tg AA
          have hk1 : gKP h0 (gup h (Y 0) (mob Y cd ty td nc (nI c') th kk tg AA)) (gOf Y 17) := mK0 hk (by decide)
          refine g_put (fs' := [_, _, _, _, _, _, _, _, _, _, _, _, _, _, _, _, _, _, _, _, _, _, _, _, _]) d_Mod_readLiteral_148 f_Mod_84 (hm.2) rfl rfl (Nat.le_of_ble_eq_true rfl) rfl ?_
          refine g_aload_n d_Mod_readLiteral_151 rfl ?_
          refine g_get d_Mod_readLiteral_152 f_Mod_33 (hm1.2) rfl ?_
          refine g_aload_n d_Mod_readLiteral_155 rfl ?_
          refine g_get d_Mod_readLiteral_156 f_Mod_84 (hm1.2) rfl ?_
          refine g_callR (c_Mod_atomsOf hst hw (f := F 7) (fun i hh => by rw [hi.1 7 (by decide) (by decide)]; exact hw7 i hh) hm1.1.a7 hc') gm_Mod_atomsOf d_Mod_readLiteral_159 (gInv_s (As := [.ref (Y 7), .int (nI c')]) (rest := []) d_Mod_readLiteral_159 gm_Mod_atomsOf gs_Mod_87) (Nat.le_of_ble_eq_true rfl) (Nat.le_of_ble_eq_true rfl) (Nat.le_of_ble_eq_true rfl) (Nat.le_of_ble_eq_true rfl) (Nat.le_of_ble_eq_true rfl) ?_
          have h36 := atc_le w c'
          refine g_bipush (v := nI 12) d_Mod_readLiteral_162 (by decide) ?_
          refine g_icmpN_le (tgt := 171) d_Mod_readLiteral_164 (by decide) (rfl) (rfl) (by omega) (by decide) (fun q => ?_) (fun q => ?_)
          · rw [if_neg (by omega)] at hz
            have go2 : ∀ v5 : Int32, v5 = (if n = 0 then nI a else F 5 j0) → Go K M_Mod_readLiteral r_Mod_readLiteral 192 [(0, .ref (Y 0)), (1, .int (nI j0)), (2, .int (nI p0)), (3, .int (nI p)), (4, .int (nI x)), (5, .int (nI n)), (6, .int (nI mo)), (7, .int (nI a))] [.int v5, .int (nI j0), .ref (Y 5)] (gup h (Y 0) (mob Y cd ty td nc (nI c') th kk tg AA)) 0 0 Q := by
              rintro v5 hv5
              have hm2 := hm1.up (i := 5) (by decide) (by decide) (va_up (F 5) j0 v5)
              have go3 : ∀ v6 : Int32, v6 = (if n = 1 then nI a else F 6 j0) → Go K M_Mod_readLiteral r_Mod_readLiteral 215 [(0, .ref (Y 0)), (1, .int (nI j0)), (2, .int (nI p0)), (3, .int (nI p)), (4, .int (nI x)), (5, .int (nI n)), (6, .int (nI mo)), (7, .int (nI a))] [.int v6, .int (nI j0), .ref (Y 6)] (gup (gup h (Y 0) (mob Y cd ty td nc (nI c') th kk tg AA)) (Y 5) (.inl (0, 48, .inl (va_up (F 5) j0 v5)))) 0 0 Q := by
                rintro v6 hv6
                have hm3 := hm2.up (i := 6) (by decide) (by decide) (va_up (F 6) j0 v6)
                refine g_iast d_Mod_readLiteral_215 (hm2.1.a6) (rfl) (hj0) (by decide) ?_
                refine g_iload d_Mod_readLiteral_216 rfl ?_
                refine g_iconst (v := nI 1) d_Mod_readLiteral_218 (by decide) ?_
                refine g_iadd d_Mod_readLiteral_219 ?_
                rw [nI_add]
                refine g_istore d_Mod_readLiteral_220 (Nat.le_of_ble_eq_true rfl) rfl ?_
                refine g_iload_n d_Mod_readLiteral_222 rfl ?_
                refine g_iconst (v := nI 1) d_Mod_readLiteral_223 (by decide) ?_
                refine g_iadd d_Mod_readLiteral_224 ?_
                rw [nI_add]
                refine g_istore_n d_Mod_readLiteral_225 rfl (Nat.le_of_ble_eq_true rfl) rfl ?_
                refine g_goto (tgt := 97) d_Mod_readLiteral_226 (by decide) ?_
                refine g_drop [(0, .ref (Y 0)), (1, .int (nI j0)), (2, .int (nI p0)), (3, .int (nI (p + 1))), (4, .int (nI x)), (5, .int (nI (n + 1))), (6, .int (nI mo))] ⟨rfl, rfl, rfl, rfl, rfl, rfl, rfl, trivial⟩ (ih (n + 1) (p + 1) c' _ _ _ _ (by omega) hz (by omega) hc' hm3 (mK0 (mK0 hk1 (by decide)) (by decide)) ?_)
                subst hv5
                subst hv6
                exact hi.next (by omega)
              refine g_iast d_Mod_readLiteral_192 (hm1.1.a5) (rfl) (hj0) (by decide) ?_
              refine g_aload_n d_Mod_readLiteral_193 rfl ?_
              refine g_get d_Mod_readLiteral_194 f_Mod_30 (hm2.2) rfl ?_
              refine g_iload_n d_Mod_readLiteral_197 rfl ?_
              refine g_iload d_Mod_readLiteral_198 rfl ?_
              refine g_iconst (v := nI 1) d_Mod_readLiteral_200 (by decide) ?_
              refine g_icmpN_ne (tgt := 209) d_Mod_readLiteral_201 (by decide) (rfl) (rfl) (by omega) (by decide) (fun q => ?_) (fun q => ?_)
              · refine g_aload_n d_Mod_readLiteral_209 rfl ?_
                refine g_get d_Mod_readLiteral_210 f_Mod_30 (hm2.2) rfl ?_
                refine g_iload_n d_Mod_readLiteral_213 rfl ?_
                refine g_iald d_Mod_readLiteral_214 (hm2.1.a6) (rfl) (hj0) (by decide) ?_
                exact go3 _ (by rw [if_neg q]; rfl)
              · refine g_iload d_Mod_readLiteral_204 rfl ?_
                refine g_goto (tgt := 215) d_Mod_readLiteral_206 (by decide) ?_
                exact go3 _ (by rw [if_pos q])
            refine g_aload_n d_Mod_readLiteral_171 rfl ?_
            refine g_get d_Mod_readLiteral_172 f_Mod_27 (hm1.2) rfl ?_
            refine g_iload_n d_Mod_readLiteral_175 rfl ?_
            refine g_iload d_Mod_readLiteral_176 rfl ?_
            refine g_if_ne (tgt := 186) d_Mod_readLiteral_178 (by decide) (fun q => ?_) (fun q => ?_)
            · refine g_aload_n d_Mod_readLiteral_186 rfl ?_
              refine g_get d_Mod_readLiteral_187 f_Mod_27 (hm1.2) rfl ?_
              refine g_iload_n d_Mod_readLiteral_190 rfl ?_
              refine g_iald d_Mod_readLiteral_191 (hm1.1.a5) (rfl) (hj0) (by decide) ?_
              exact go2 _ (by rw [if_neg fun y => q (by rw [y]; rfl)])
            · refine g_iload d_Mod_readLiteral_181 rfl ?_
              refine g_goto (tgt := 192) d_Mod_readLiteral_183 (by decide) ?_
              exact go2 _ (by rw [if_pos ((nI_z (by omega)).mp q)])
          · rw [if_pos q] at hz
            subst hz
            refine g_iconst (v := -1) d_Mod_readLiteral_167 (by decide) ?_
            refine g_iload_n d_Mod_readLiteral_168 rfl ?_
            refine g_isub d_Mod_readLiteral_169 ?_
            exact g_ret_i d_Mod_readLiteral_170 rfl rfl (kf rfl _ F hm1 hk1 hi.1 hp)
        refine g_istore d_Mod_readLiteral_123 (Nat.le_of_ble_eq_true rfl) rfl ?_
        refine g_aload_n d_Mod_readLiteral_125 rfl ?_
        refine g_iload d_Mod_readLiteral_126 rfl ?_
        refine g_iconst (v := nI 3) d_Mod_readLiteral_128 (by decide) ?_
        refine g_icmpN_ge (tgt := 144) d_Mod_readLiteral_129 (by decide) (rfl) (rfl) (by omega) (by decide) (fun q => ?_) (fun q => ?_)
        · refine g_aload_n d_Mod_readLiteral_144 rfl ?_
          refine g_get d_Mod_readLiteral_145 f_Mod_84 (hm.2) rfl ?_
          exact go c hc (if_neg (by omega))
        · refine g_aload_n d_Mod_readLiteral_132 rfl ?_
          refine g_get d_Mod_readLiteral_133 f_Mod_84 (hm.2) rfl ?_
          refine g_iconst (v := nI 1) d_Mod_readLiteral_136 (by decide) ?_
          refine g_iload d_Mod_readLiteral_137 rfl ?_
          refine g_ishl d_Mod_readLiteral_139 ?_
          refine g_ior d_Mod_readLiteral_140 ?_
          rw [nI_shl1 (by omega), nI_or]
          refine g_goto (tgt := 148) d_Mod_readLiteral_141 (by decide) ?_
          exact go (c ||| 2 ^ a) (bt_or c hc a q 0 (by decide)).2.2 (if_pos q)
end MODEL11
