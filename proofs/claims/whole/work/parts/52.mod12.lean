/-- row j of the literals says z -/
def mlt (F : Nat → Nat → Int32) (j : Nat) (z : gLD) : Prop := F 3 j = nI z.2.1 ∧ F 4 j = bI z.1 ∧ (0 < z.2.2.1 → F 5 j = nI z.2.2.2.1) ∧ (1 < z.2.2.1 → F 6 j = nI z.2.2.2.2)
section MODEL12
variable {K : gK} {h : gH} {Y : Nat → Nat} {F : Nat → Nat → Int32} {cd ty td nc th kk tg AA : Int32} {tx : List Nat} {w : Nat → Int32} {c : Nat}
/-- what readLiteral leaves -/
def rlM (h0 : gH) (Y : Nat → Nat) (F0 : Nat → Nat → Int32) (cd ty td nc th kk tg AA : Int32) (tx : List Nat) (j0 : Nat) (z : Bool × Nat × (Nat → Int32) × Nat × Bool × Nat × Nat × Nat × Nat) (v : Option Value) (h' : gH) : Prop := ∃ (F : Nat → Nat → Int32) (nt : Int32), gMb h' Y F cd ty td nc nt th kk tg AA ∧ gKP h0 h' (gOf Y 17) ∧ (∀ i, i < 3 ∨ 7 < i → F i = F0 i) ∧
  ((v = some (.int (-1 - nI z.2.1)) ∧ (z.1 = false ∨ ¬ arg (tx.getD z.2.1 0) = none)) ∨
   (v = some (.int (nI z.2.1)) ∧ z.1 = true ∧ arg (tx.getD z.2.1 0) = none ∧ nt = nI z.2.2.2.1 ∧ (∀ q, q < 4 → F 7 q = z.2.2.1 q) ∧ mlt F j0 z.2.2.2.2 ∧ ∀ i, 3 ≤ i → i ≤ 6 → ∀ j, j ≠ j0 → F i j = F0 i j))
theorem l_Mod_lit_end (hst : K.1.stackTraces = false) {h0 : gH} {F0 : Nat → Nat → Int32} {j0 x mo p0 p n a1 a2 c : Nat} {neg : Bool} (hx : x < 4) (hw : wok w) (hmo : mo ≤ 2) (hmw : ¬ w x = -1 → w x = nI mo) (hw7 : ∀ q, q < 4 → F 7 q = w q) (ht : mtx F ty tx) (hm : gMb h Y F cd ty td nc (nI c) th kk tg AA) (hk : gKP h0 h (gOf Y 17)) (hc : c < 8) (hn : n ≤ mo) (hp : p ≤ tx.length) (hat : atc w c ≤ 12)
    (hF : ∀ i, i < 3 ∨ 7 < i → F i = F0 i) (hl : mlt F j0 (neg, x, n, a1, a2)) (ho : ∀ i, 3 ≤ i → i ≤ 6 → ∀ j, j ≠ j0 → F i j = F0 i j) : Go K M_Mod_readLiteral r_Mod_readLiteral 229 [(0, .ref (Y 0)), (1, .int (nI j0)), (2, .int (nI p0)), (3, .int (nI p)), (4, .int (nI x)), (5, .int (nI n)), (6, .int (nI mo))] [] h 0 0 (gRx (rlM h0 Y F0 cd ty td nc th kk tg AA tx j0 ((rdT w x (true, n, p, c, a1, a2)).1, (rdT w x (true, n, p, c, a1, a2)).2.1, (rdT w x (true, n, p, c, a1, a2)).2.2.1, (rdT w x (true, n, p, c, a1, a2)).2.2.2.1, neg, x, (rdT w x (true, n, p, c, a1, a2)).2.2.2.2.1, (rdT w x (true, n, p, c, a1, a2)).2.2.2.2.2.1, (rdT w x (true, n, p, c, a1, a2)).2.2.2.2.2.2))) := by
  have t96 := ht.2.1
  have hch := ht.chr p
  -- the end, with widths w2 laid and few told
  have fin : ∀ (w2 : Nat → Int32) (g7 : Nat → Int32) (few : Bool), wok w2 → (∀ q, q < 4 → g7 q = w2 q) → rdT w x (true, n, p, c, a1, a2) = (!few && decide (atc w2 c ≤ 12), p, w2, c, n, a1, a2) → Go K M_Mod_readLiteral r_Mod_readLiteral 287 [(0, .ref (Y 0)), (1, .int (nI j0)), (2, .int (nI p0)), (3, .int (nI p)), (4, .int (nI x)), (5, .int (nI n)), (6, .int (nI mo)), (7, .int (bI few))] [] (gup h (Y 7) (.inl (0, 4, .inl g7))) 0 0 (gRx (rlM h0 Y F0 cd ty td nc th kk tg AA tx j0 ((rdT w x (true, n, p, c, a1, a2)).1, (rdT w x (true, n, p, c, a1, a2)).2.1, (rdT w x (true, n, p, c, a1, a2)).2.2.1, (rdT w x (true, n, p, c, a1, a2)).2.2.2.1, neg, x, (rdT w x (true, n, p, c, a1, a2)).2.2.2.2.1, (rdT w x (true, n, p, c, a1, a2)).2.2.2.2.2.1, (rdT w x (true, n, p, c, a1, a2)).2.2.2.2.2.2))) := by
    intro w2 g7 few hw2 hg7 eT
    rw [eT]
    have hm7 := hm.up (i := 7) (by decide) (by decide) g7
    have hF7 : ∀ i, i ≠ 7 → va_up F 7 g7 i = F i := fun i hi => if_neg hi
    have ht7 : mtx (va_up F 7 g7) ty tx := ht
    have hFa : ∀ i, i < 3 ∨ 7 < i → va_up F 7 g7 i = F0 i := fun i hi => (hF7 i (by omega)).trans (hF i hi)
    have bad : (!few && decide (atc w2 c ≤ 12)) = false ∨ ¬ arg (tx.getD p 0) = none → Go K M_Mod_readLiteral r_Mod_readLiteral 319 [(0, .ref (Y 0)), (1, .int (nI j0)), (2, .int (nI p0)), (3, .int (nI p)), (4, .int (nI x)), (5, .int (nI n)), (6, .int (nI mo)), (7, .int (bI few))] [] (gup h (Y 7) (.inl (0, 4, .inl g7))) 0 0 (gRx (rlM h0 Y F0 cd ty td nc th kk tg AA tx j0 (!few && decide (atc w2 c ≤ 12), p, w2, c, neg, x, n, a1, a2))) := by
      intro hb
      refine g_iconst (v := -1) d_Mod_readLiteral_319 (by decide) ?_
      refine g_iload_n d_Mod_readLiteral_320 rfl ?_
      refine g_isub d_Mod_readLiteral_321 ?_
      refine g_goto (tgt := 326) d_Mod_readLiteral_322 (by decide) ?_
      exact g_ret_i d_Mod_readLiteral_326 rfl rfl ⟨_, rfl, _, _, hm7, mK0 hk (by decide), hFa, Or.inl ⟨rfl, hb⟩⟩
    refine g_iload d_Mod_readLiteral_287 rfl ?_
    refine g_if_ne (tgt := 319) d_Mod_readLiteral_289 (by decide) (fun q => ?_) (fun q => ?_)
    · exact bad (Or.inl (by rw [bI_t q]; rfl))
    · have hfew := (bI_z _).mp q
      subst hfew
      refine g_aload_n d_Mod_readLiteral_292 rfl ?_
      refine g_iload_n d_Mod_readLiteral_293 rfl ?_
      refine g_callR (c_Mod_charAt hst hm7 ht7 (p := p) (by omega)) gm_Mod_charAt d_Mod_readLiteral_294 (gInv_v (As := [.int (nI p)]) (rest := []) d_Mod_readLiteral_294 gm_Mod_charAt gv_Mod_75 (hm7.2) rfl) (Nat.le_of_ble_eq_true rfl) (Nat.le_of_ble_eq_true rfl) (Nat.le_of_ble_eq_true rfl) (Nat.le_of_ble_eq_true rfl) (Nat.le_of_ble_eq_true rfl) ?_
      refine g_callR (c_Mod_argument hst (c := tx.getD p 0) (by omega)) gm_Mod_argument d_Mod_readLiteral_297 (gInv_s (As := [.int (nI (tx.getD p 0))]) (rest := []) d_Mod_readLiteral_297 gm_Mod_argument gs_Mod_81) (Nat.le_of_ble_eq_true rfl) (Nat.le_of_ble_eq_true rfl) (Nat.le_of_ble_eq_true rfl) (Nat.le_of_ble_eq_true rfl) (Nat.le_of_ble_eq_true rfl) ?_
      refine g_if_ge (tgt := 319) d_Mod_readLiteral_300 (by decide) (fun q => ?_) (fun q => ?_)
      · refine bad (Or.inr fun z => ?_)
        rw [z] at q
        exact absurd q (by decide)
      · have ha : arg (tx.getD p 0) = none := rcv_n (Int32.not_le.mp q) fun a h9 => by have := (arg_lt h9).1; omega
        refine g_aload_n d_Mod_readLiteral_303 rfl ?_
        refine g_get d_Mod_readLiteral_304 f_Mod_33 (hm7.2) rfl ?_
        refine g_aload_n d_Mod_readLiteral_307 rfl ?_
        refine g_get d_Mod_readLiteral_308 f_Mod_84 (hm7.2) rfl ?_
        refine g_callR (c_Mod_atomsOf hst hw2 hg7 hm7.1.a7 hc) gm_Mod_atomsOf d_Mod_readLiteral_311 (gInv_s (As := [.ref (Y 7), .int (nI c)]) (rest := []) d_Mod_readLiteral_311 gm_Mod_atomsOf gs_Mod_87) (Nat.le_of_ble_eq_true rfl) (Nat.le_of_ble_eq_true rfl) (Nat.le_of_ble_eq_true rfl) (Nat.le_of_ble_eq_true rfl) (Nat.le_of_ble_eq_true rfl) ?_
        have h36 := atc_le w2 c
        refine g_bipush (v := nI 12) d_Mod_readLiteral_314 (by decide) ?_
        refine g_icmpN_le (tgt := 325) d_Mod_readLiteral_316 (by decide) (rfl) (rfl) (by omega) (by decide) (fun q => ?_) (fun q => ?_)
        · refine g_iload_n d_Mod_readLiteral_325 rfl ?_
          refine g_ret_i d_Mod_readLiteral_326 rfl rfl ⟨_, rfl, _, _, hm7, mK0 hk (by decide), hFa, Or.inr ⟨rfl, by rw [decide_eq_true q]; rfl, ha, rfl, hg7, ?_, fun i h1 h2 j hj => ?_⟩⟩
          · exact hl
          · rw [hF7 i (by omega)]
            exact ho i h1 h2 j hj
        · exact bad (Or.inl (by rw [decide_eq_false (by omega)]; rfl))
  refine g_aload_n d_Mod_readLiteral_229 rfl ?_
  refine g_get d_Mod_readLiteral_230 f_Mod_33 (hm.2) rfl ?_
  refine g_iload d_Mod_readLiteral_233 rfl ?_
  refine g_iald d_Mod_readLiteral_235 (hm.1.a7) (rfl) (hx) (by decide) ?_
  rw [hw7 x hx]
  by_cases e1 : w x = -1
  · have hnw : nI n = 0 ∨ nI n = 1 ∨ nI n = 2 := nI_012 (by omega)
    have hw2 : wok (va_up w x (nI n)) := fun i hi => by
      show (if i = x then _ else w i) = _ ∨ (if i = x then _ else w i) = _ ∨ (if i = x then _ else w i) = _ ∨ (if i = x then _ else w i) = _
      by_cases e : i = x
      · rw [if_pos e]
        exact Or.inr hnw
      · rw [if_neg e]
        exact hw i hi
    refine g_if_lt (tgt := 255) d_Mod_readLiteral_236 (by decide) (fun q => ?_) (fun q => ?_)
    · refine g_iconst (v := nI 0) d_Mod_readLiteral_255 (by decide) ?_
      refine g_istore d_Mod_readLiteral_256 (Nat.le_of_ble_eq_true rfl) rfl ?_
      refine g_aload_n d_Mod_readLiteral_258 rfl ?_
      refine g_get d_Mod_readLiteral_259 f_Mod_33 (hm.2) rfl ?_
      refine g_iload d_Mod_readLiteral_262 rfl ?_
      refine g_aload_n d_Mod_readLiteral_264 rfl ?_
      refine g_get d_Mod_readLiteral_265 f_Mod_33 (hm.2) rfl ?_
      refine g_iload d_Mod_readLiteral_268 rfl ?_
      refine g_iald d_Mod_readLiteral_270 (hm.1.a7) (rfl) (hx) (by decide) ?_
      rw [hw7 x hx]
      refine g_if_ge (tgt := 279) d_Mod_readLiteral_271 (by decide) (fun q => ?_) (fun q => ?_)
      · rw [e1] at q
        exact absurd q (by decide)
      · refine g_iload d_Mod_readLiteral_274 rfl ?_
        refine g_goto (tgt := 286) d_Mod_readLiteral_276 (by decide) ?_
        refine g_iast d_Mod_readLiteral_286 (hm.1.a7) (rfl) (hx) (by decide) ?_
        refine fin (va_up w x (nI n)) _ false hw2 (fun i hi => ?_) ?_
        · show (if i = x then _ else F 7 i) = (if i = x then _ else w i)
          rw [hw7 i hi]
        · unfold rdT
          rw [if_neg (fun z => Bool.noConfusion z), if_pos e1]
          rfl
    · rw [e1] at q
      exact absurd (by decide) q
  · have ew := hmw e1
    refine g_if_lt (tgt := 255) d_Mod_readLiteral_236 (by decide) (fun q => ?_) (fun q => ?_)
    · rw [ew] at q
      exact absurd q (nI_pos (by omega))
    · have go : ∀ few : Bool, (few = true ↔ n < mo) → Go K M_Mod_readLiteral r_Mod_readLiteral 256 [(0, .ref (Y 0)), (1, .int (nI j0)), (2, .int (nI p0)), (3, .int (nI p)), (4, .int (nI x)), (5, .int (nI n)), (6, .int (nI mo))] [.int (bI few)] h 0 0 (gRx (rlM h0 Y F0 cd ty td nc th kk tg AA tx j0 ((rdT w x (true, n, p, c, a1, a2)).1, (rdT w x (true, n, p, c, a1, a2)).2.1, (rdT w x (true, n, p, c, a1, a2)).2.2.1, (rdT w x (true, n, p, c, a1, a2)).2.2.2.1, neg, x, (rdT w x (true, n, p, c, a1, a2)).2.2.2.2.1, (rdT w x (true, n, p, c, a1, a2)).2.2.2.2.2.1, (rdT w x (true, n, p, c, a1, a2)).2.2.2.2.2.2))) := by
        intro few hfew
        refine g_istore d_Mod_readLiteral_256 (Nat.le_of_ble_eq_true rfl) rfl ?_
        refine g_aload_n d_Mod_readLiteral_258 rfl ?_
        refine g_get d_Mod_readLiteral_259 f_Mod_33 (hm.2) rfl ?_
        refine g_iload d_Mod_readLiteral_262 rfl ?_
        refine g_aload_n d_Mod_readLiteral_264 rfl ?_
        refine g_get d_Mod_readLiteral_265 f_Mod_33 (hm.2) rfl ?_
        refine g_iload d_Mod_readLiteral_268 rfl ?_
        refine g_iald d_Mod_readLiteral_270 (hm.1.a7) (rfl) (hx) (by decide) ?_
        rw [hw7 x hx]
        refine g_if_ge (tgt := 279) d_Mod_readLiteral_271 (by decide) (fun q => ?_) (fun q => ?_)
        · refine g_aload_n d_Mod_readLiteral_279 rfl ?_
          refine g_get d_Mod_readLiteral_280 f_Mod_33 (hm.2) rfl ?_
          refine g_iload d_Mod_readLiteral_283 rfl ?_
          refine g_iald d_Mod_readLiteral_285 (hm.1.a7) (rfl) (hx) (by decide) ?_
          refine g_iast d_Mod_readLiteral_286 (hm.1.a7) (rfl) (hx) (by decide) ?_
          refine fin w _ few hw (fun i hi => ?_) ?_
          · show (if i = x then F 7 x else F 7 i) = _
            by_cases e : i = x
            · rw [if_pos e, e]
              exact hw7 x hx
            · rw [if_neg e]
              exact hw7 i hi
          · unfold rdT
            rw [if_neg (fun z => Bool.noConfusion z), if_neg e1, decide_eq_true hat, Bool.and_true]
            refine congrArg (fun b : Bool => (b, p, w, c, n, a1, a2)) ?_
            show decide (nI n = w x) = !few
            rw [ew]
            cases few with
            | true =>
              refine decide_eq_false fun z => ?_
              have h9 := (nI_eq (by omega) (by omega)).mp z
              have h8 := hfew.mp rfl
              omega
            | false =>
              have h9 : ¬ n < mo := fun z => by
                have := hfew.mpr z
                cases this
              have h8 : n = mo := by omega
              rw [h8]
              exact decide_eq_true rfl
        · rw [ew] at q
          exact absurd (Int32.not_lt.mp (nI_pos (by omega))) q
      refine g_iload d_Mod_readLiteral_239 rfl ?_
      refine g_aload_n d_Mod_readLiteral_241 rfl ?_
      refine g_get d_Mod_readLiteral_242 f_Mod_33 (hm.2) rfl ?_
      refine g_iload d_Mod_readLiteral_245 rfl ?_
      refine g_iald d_Mod_readLiteral_247 (hm.1.a7) (rfl) (hx) (by decide) ?_
      rw [hw7 x hx, ew]
      refine g_icmpN_ge (tgt := 255) d_Mod_readLiteral_248 (by decide) (rfl) (rfl) (by omega) (by omega) (fun q => ?_) (fun q => ?_)
      · refine g_iconst (v := nI 0) d_Mod_readLiteral_255 (by decide) ?_
        exact go false ⟨fun z => (by cases z), fun z => by omega⟩
      · refine g_iconst (v := nI 1) d_Mod_readLiteral_251 (by decide) ?_
        refine g_goto (tgt := 256) d_Mod_readLiteral_252 (by decide) ?_
        exact go true ⟨fun _ => q, fun _ => rfl⟩
theorem c_Mod_readLiteral (hst : K.1.stackTraces = false) {j0 p : Nat} (hj0 : j0 < 48) (hp : p ≤ tx.length) (hw : wok w) (hc : c < 8) (hat : atc w c ≤ 12) (hw7 : ∀ q, q < 4 → F 7 q = w q) (ht : mtx F ty tx) (hm : gMb h Y F cd ty td nc (nI c) th kk tg AA) : Ct K r_Mod_readLiteral M_Mod_readLiteral [.ref (Y 0), .int (nI j0), .int (nI p)] h (gRx (rlM h Y F cd ty td nc th kk tg AA tx j0 (rdL tx w c p))) := by
  have t96 := ht.2.1
  have hch := ht.chr p
  have hN := rdN_le hp
  have hchN := ht.chr (rdN tx p)
  refine Ct.of hst (by decide) (Or.inl rfl) (Nat.le_of_ble_eq_true rfl) ?_
  have go : ∀ b : Bool, b = decide (tx.getD p 0 = 45) → Go K M_Mod_readLiteral r_Mod_readLiteral 22 [(0, .ref (Y 0)), (1, .int (nI j0)), (2, .int (nI p)), (3, .int (nI p))] [.int (bI b), .int (nI j0), .ref (Y 4)] h 0 0 (gRx (rlM h Y F cd ty td nc th kk tg AA tx j0 (rdL tx w c p))) := by
    intro b hb
    have hm4 := hm.up4 (va_up (F 4) j0 (bI b)) fun j => by
      show (if j = j0 then bI b else F 4 j) = 0 ∨ (if j = j0 then bI b else F 4 j) = 1
      by_cases e : j = j0
      · rw [if_pos e]
        cases b
        · exact Or.inl rfl
        · exact Or.inr rfl
      · rw [if_neg e]
        exact hm.1.1.2 j
    have e4 : va_up (F 4) j0 (bI b) j0 = bI b := if_pos rfl
    have go2 : Go K M_Mod_readLiteral r_Mod_readLiteral 39 [(0, .ref (Y 0)), (1, .int (nI j0)), (2, .int (nI p)), (3, .int (nI p))] [.int (nI (rdN tx p))] (gup h (Y 4) (.inl (3, 48, .inl (va_up (F 4) j0 (bI b))))) 0 0 (gRx (rlM h Y F cd ty td nc th kk tg AA tx j0 (rdL tx w c p))) := by
      refine g_istore_n d_Mod_readLiteral_39 rfl (Nat.le_of_ble_eq_true rfl) rfl ?_
      refine g_aload_n d_Mod_readLiteral_40 rfl ?_
      refine g_iload_n d_Mod_readLiteral_41 rfl ?_
      refine g_callR (c_Mod_charAt hst hm4 (tx := tx) ht (p := rdN tx p) (by omega)) gm_Mod_charAt d_Mod_readLiteral_42 (gInv_v (As := [.int (nI (rdN tx p))]) (rest := []) d_Mod_readLiteral_42 gm_Mod_charAt gv_Mod_75 (hm4.2) rfl) (Nat.le_of_ble_eq_true rfl) (Nat.le_of_ble_eq_true rfl) (Nat.le_of_ble_eq_true rfl) (Nat.le_of_ble_eq_true rfl) (Nat.le_of_ble_eq_true rfl) ?_
      refine g_callR (c_Mod_predicateOf hst (c := tx.getD (rdN tx p) 0) (by omega)) gm_Mod_predicateOf d_Mod_readLiteral_45 (gInv_s (As := [.int (nI (tx.getD (rdN tx p) 0))]) (rest := []) d_Mod_readLiteral_45 gm_Mod_predicateOf gs_Mod_78) (Nat.le_of_ble_eq_true rfl) (Nat.le_of_ble_eq_true rfl) (Nat.le_of_ble_eq_true rfl) (Nat.le_of_ble_eq_true rfl) (Nat.le_of_ble_eq_true rfl) ?_
      refine g_istore d_Mod_readLiteral_48 (Nat.le_of_ble_eq_true rfl) rfl ?_
      refine g_iload d_Mod_readLiteral_50 rfl ?_
      refine g_if_ge (tgt := 59) d_Mod_readLiteral_52 (by decide) (fun q => ?_) (fun q => ?_)
      · obtain ⟨x, hx⟩ := rcv_s (o := prd (tx.getD (rdN tx p) 0)) (Int32.not_lt.mpr q)
        have hx4 := prd_lt hx
        have hpl := getD_len hx4.2
        have mo := mst_ok hw hx4.1
        have eL : rdL tx w c p = ((rdT w x (rdA tx w (mst w x) 0 (rdN tx p + 1) c 0 0)).1, (rdT w x (rdA tx w (mst w x) 0 (rdN tx p + 1) c 0 0)).2.1, (rdT w x (rdA tx w (mst w x) 0 (rdN tx p + 1) c 0 0)).2.2.1, (rdT w x (rdA tx w (mst w x) 0 (rdN tx p + 1) c 0 0)).2.2.2.1, decide (tx.getD p 0 = 45), x, (rdT w x (rdA tx w (mst w x) 0 (rdN tx p + 1) c 0 0)).2.2.2.2.1, (rdT w x (rdA tx w (mst w x) 0 (rdN tx p + 1) c 0 0)).2.2.2.2.2.1, (rdT w x (rdA tx w (mst w x) 0 (rdN tx p + 1) c 0 0)).2.2.2.2.2.2) := by
          unfold rdL
          rw [hx]
        rw [hx, show rcv (some x) = nI x from rfl]
        have hm3 := hm4.up (i := 3) (by decide) (by decide) (va_up (F 3) j0 (nI x))
        refine g_aload_n d_Mod_readLiteral_59 rfl ?_
        refine g_get d_Mod_readLiteral_60 f_Mod_20 (hm4.2) rfl ?_
        refine g_iload_n d_Mod_readLiteral_63 rfl ?_
        refine g_iload d_Mod_readLiteral_64 rfl ?_
        refine g_iast d_Mod_readLiteral_66 (hm4.1.a3) (rfl) (hj0) (by decide) ?_
        refine g_iload_n d_Mod_readLiteral_67 rfl ?_
        refine g_iconst (v := nI 1) d_Mod_readLiteral_68 (by decide) ?_
        refine g_iadd d_Mod_readLiteral_69 ?_
        rw [nI_add]
        refine g_istore_n d_Mod_readLiteral_70 rfl (Nat.le_of_ble_eq_true rfl) rfl ?_
        refine g_iconst (v := nI 0) d_Mod_readLiteral_71 (by decide) ?_
        refine g_istore d_Mod_readLiteral_72 (Nat.le_of_ble_eq_true rfl) rfl ?_
        refine g_aload_n d_Mod_readLiteral_74 rfl ?_
        refine g_get d_Mod_readLiteral_75 f_Mod_33 (hm3.2) rfl ?_
        refine g_iload d_Mod_readLiteral_78 rfl ?_
        refine g_iald d_Mod_readLiteral_80 (hm3.1.a7) (rfl) (hx4.1) (by decide) ?_
        have go3 : ∀ m, m = mst w x → Go K M_Mod_readLiteral r_Mod_readLiteral 95 [(0, .ref (Y 0)), (1, .int (nI j0)), (2, .int (nI p)), (3, .int (nI (rdN tx p + 1))), (4, .int (nI x)), (5, .int (nI 0))] [.int (nI m)] (gup (gup h (Y 4) (.inl (3, 48, .inl (va_up (F 4) j0 (bI b))))) (Y 3) (.inl (0, 48, .inl (va_up (F 3) j0 (nI x))))) 0 0 (gRx (rlM h Y F cd ty td nc th kk tg AA tx j0 (rdL tx w c p))) := by
          rintro m rfl
          refine g_istore d_Mod_readLiteral_95 (Nat.le_of_ble_eq_true rfl) rfl ?_
          have hA := rdA_ok (tx := tx) (w := w) (mst w x) 0 (rdN tx p + 1) c 0 0 (by omega) hat
          refine l_Mod_args hst (F0 := va_up (va_up F 4 (va_up (F 4) j0 (bI b))) 3 (va_up (F 3) j0 (nI x))) (h0 := h) (w := w) hj0 mo.1 hw hw7 ht (fun hz h' F' hm' hk' hi' hc' hn' ha' hp' => ?_) (fun hz h' F' hm' hk' hi' hp' => ?_) (mst w x) 0 (rdN tx p + 1) c 0 0 _ _ (by omega) rfl (by omega) hc hm3 (mK0 (mK0 gKP.rf (by decide)) (by decide)) ⟨fun _ _ _ => rfl, fun _ _ _ => rfl, fun z => absurd z (Nat.lt_irrefl _), fun z => absurd z (by decide)⟩
          · rw [eL]
            generalize hZ : rdA tx w (mst w x) 0 (rdN tx p + 1) c 0 0 = Z at *
            obtain ⟨g, n, p', c', a1, a2⟩ := Z
            simp only at hz hm' hk' hi' hc' hn' ha' hp' hA
            subst hz
            refine l_Mod_lit_end hst hx4.1 hw mo.1 mo.2 (fun q hq => by rw [hi'.1 7 (by decide) (by decide)]; exact hw7 q hq) ⟨ht.1, ht.2.1, fun i hh => by rw [hi'.1 1 (by decide) (by decide)]; exact ht.2.2.1 i hh, ht.2.2.2⟩ hm' hk' hc' hn' hp' (hA.2.2 rfl) (fun i hi => ?_) ⟨?_, ?_, hi'.2.2.1, hi'.2.2.2⟩ (fun i h1 h2 j hj => ?_)
            · rw [hi'.1 i (by omega) (by omega)]
              show (if i = 3 then _ else if i = 4 then _ else F i) = _
              rw [if_neg (by omega), if_neg (by omega)]
            · rw [hi'.1 3 (by decide) (by decide)]
              exact if_pos rfl
            · rw [hi'.1 4 (by decide) (by decide), ← hb]
              exact if_pos rfl
            · rw [hi'.2.1 i j hj]
              show (if i = 3 then va_up (F 3) j0 _ else if i = 4 then va_up (F 4) j0 _ else F i) j = _
              by_cases h3 : i = 3
              · subst h3
                rw [if_pos rfl]
                exact if_neg hj
              · rw [if_neg h3]
                by_cases h4 : i = 4
                · subst h4
                  rw [if_pos rfl]
                  exact if_neg hj
                · rw [if_neg h4]
          · rw [eL]
            have eT : rdT w x (rdA tx w (mst w x) 0 (rdN tx p + 1) c 0 0) = (false, (rdA tx w (mst w x) 0 (rdN tx p + 1) c 0 0).2.2.1, w, (rdA tx w (mst w x) 0 (rdN tx p + 1) c 0 0).2.2.2.1, (rdA tx w (mst w x) 0 (rdN tx p + 1) c 0 0).2.1, (rdA tx w (mst w x) 0 (rdN tx p + 1) c 0 0).2.2.2.2.1, (rdA tx w (mst w x) 0 (rdN tx p + 1) c 0 0).2.2.2.2.2) := by
              unfold rdT
              rw [if_pos hz]
            rw [eT]
            refine ⟨_, rfl, F', _, hm', hk', fun i hi => ?_, Or.inl ⟨rfl, Or.inl rfl⟩⟩
            rw [hi' i (by omega) (by omega)]
            show (if i = 3 then _ else if i = 4 then _ else F i) = _
            rw [if_neg (by omega), if_neg (by omega)]
        show Go K _ _ _ _ (.int (F 7 x) :: _) _ _ _ _
        rw [hw7 x hx4.1]
        refine g_if_ge (tgt := 88) d_Mod_readLiteral_81 (by decide) (fun q => ?_) (fun q => ?_)
        · have e1 : ¬ w x = -1 := fun z => by
            rw [z] at q
            exact absurd q (by decide)
          refine g_aload_n d_Mod_readLiteral_88 rfl ?_
          refine g_get d_Mod_readLiteral_89 f_Mod_33 (hm3.2) rfl ?_
          refine g_iload d_Mod_readLiteral_92 rfl ?_
          refine g_iald d_Mod_readLiteral_94 (hm3.1.a7) (rfl) (hx4.1) (by decide) ?_
          show Go K _ _ _ _ (.int (F 7 x) :: _) _ _ _ _
          rw [hw7 x hx4.1, mo.2 e1]
          exact go3 _ rfl
        · refine g_iconst (v := nI 2) d_Mod_readLiteral_84 (by decide) ?_
          refine g_goto (tgt := 95) d_Mod_readLiteral_85 (by decide) ?_
          refine go3 2 ?_
          have e1 : w x = -1 := by
            rcases hw x hx4.1 with e | e | e | e
            · exact e
            · rw [e] at q
              exact absurd (by decide) q
            · rw [e] at q
              exact absurd (by decide) q
            · rw [e] at q
              exact absurd (by decide) q
          unfold mst
          rw [if_pos e1]
      · have hx : prd (tx.getD (rdN tx p) 0) = none := rcv_n (Int32.not_le.mp q) fun a h9 => by have := (prd_lt h9).1; omega
        have eL : rdL tx w c p = (false, rdN tx p, w, c, decide (tx.getD p 0 = 45), 0, 0, 0, 0) := by
          unfold rdL
          rw [hx]
        refine g_iconst (v := -1) d_Mod_readLiteral_55 (by decide) ?_
        refine g_iload_n d_Mod_readLiteral_56 rfl ?_
        refine g_isub d_Mod_readLiteral_57 ?_
        rw [eL]
        refine g_ret_i d_Mod_readLiteral_58 rfl rfl ⟨_, rfl, _, _, hm4, mK0 gKP.rf (by decide), fun i hi => if_neg (by omega), Or.inl ⟨rfl, Or.inl rfl⟩⟩
    refine g_zast d_Mod_readLiteral_22 (hm.1.a4) (rfl) (hj0) (by decide) (bI_n b) ?_
    refine g_aload_n d_Mod_readLiteral_23 rfl ?_
    refine g_get d_Mod_readLiteral_24 f_Mod_23 (hm4.2) rfl ?_
    refine g_iload_n d_Mod_readLiteral_27 rfl ?_
    refine g_zald d_Mod_readLiteral_28 (hm4.1.a4) (rfl) (hj0) (by decide) ?_
    rw [show va_up F 4 (va_up (F 4) j0 (bI b)) 4 j0 = bI b from if_pos rfl]
    refine g_if_eq (tgt := 38) d_Mod_readLiteral_29 (by decide) (fun q => ?_) (fun q => ?_)
    · refine g_iload_n d_Mod_readLiteral_38 rfl ?_
      have eN : rdN tx p = p := if_neg (of_decide_eq_false (hb ▸ (bI_z _).mp q))
      rw [eN] at go2
      exact go2
    · refine g_iload_n d_Mod_readLiteral_32 rfl ?_
      refine g_iconst (v := nI 1) d_Mod_readLiteral_33 (by decide) ?_
      refine g_iadd d_Mod_readLiteral_34 ?_
      rw [nI_add]
      refine g_goto (tgt := 39) d_Mod_readLiteral_35 (by decide) ?_
      have eN : rdN tx p = p + 1 := if_pos (of_decide_eq_true (hb ▸ bI_t q))
      rw [eN] at go2
      exact go2
  refine g_iload_n d_Mod_readLiteral_0 rfl ?_
  refine g_istore_n d_Mod_readLiteral_1 rfl (Nat.le_of_ble_eq_true rfl) rfl ?_
  refine g_aload_n d_Mod_readLiteral_2 rfl ?_
  refine g_get d_Mod_readLiteral_3 f_Mod_23 (hm.2) rfl ?_
  refine g_iload_n d_Mod_readLiteral_6 rfl ?_
  refine g_aload_n d_Mod_readLiteral_7 rfl ?_
  refine g_iload_n d_Mod_readLiteral_8 rfl ?_
  refine g_callR (c_Mod_charAt hst hm ht (p := p) (by omega)) gm_Mod_charAt d_Mod_readLiteral_9 (gInv_v (As := [.int (nI p)]) (rest := [.int (nI j0), .ref (Y 4)]) d_Mod_readLiteral_9 gm_Mod_charAt gv_Mod_75 (hm.2) rfl) (Nat.le_of_ble_eq_true rfl) (Nat.le_of_ble_eq_true rfl) (Nat.le_of_ble_eq_true rfl) (Nat.le_of_ble_eq_true rfl) (Nat.le_of_ble_eq_true rfl) ?_
  refine g_bipush (v := nI 45) d_Mod_readLiteral_12 (by decide) ?_
  refine g_icmpN_ne (tgt := 21) d_Mod_readLiteral_14 (by decide) (rfl) (rfl) (by omega) (by decide) (fun q => ?_) (fun q => ?_)
  · refine g_iconst (v := nI 0) d_Mod_readLiteral_21 (by decide) ?_
    exact go false (decide_eq_false q).symm
  · refine g_iconst (v := nI 1) d_Mod_readLiteral_17 (by decide) ?_
    refine g_goto (tgt := 22) d_Mod_readLiteral_18 (by decide) ?_
    exact go true (decide_eq_true q).symm
end MODEL12
