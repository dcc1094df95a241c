section MODEL16
variable {K : gK} {h : gH} {Y : Nat → Nat} {F : Nat → Nat → Int32} {cd ty td nc nt th kk tg AA : Int32} {k c : Nat} {w : Nat → Int32} {sz : Nat → Nat} {lt : Nat → gLD}
theorem c_Mod_isT (hst : K.1.stackTraces = false) (hm : gMb h Y F cd ty td nc nt th kk (nI (thg c)) AA) (hc : c < 8) {a : Nat} (ha : a < 3) : Ct K r_Mod_isThing M_Mod_isThing [.ref (Y 0), .int (nI a)] h (gRt (some (.int (bI (decide (thg c / 2 ^ a % 2 = 1))))) h) := by
  have hx := c_Mod_isThing hst hm (thg_lt hc) (nI a)
  have e : (¬ nI a < 0 ∧ nI a < nI 3 ∧ thg c / 2 ^ (nI a).toNatClampNeg % 2 = 1) ↔ thg c / 2 ^ a % 2 = 1 := by
    rw [nI_clamp (by omega)]
    exact ⟨fun z => z.2.2, fun z => ⟨nI_pos (by omega), nI_lt ha (by decide), z⟩⟩
  rw [decide_eq_decide.mpr e] at hx
  exact hx
/-- the three things of number i are things -/
def m3T (c i : Nat) : Prop := thg c / 2 ^ (i % 3) % 2 = 1 ∧ thg c / 2 ^ (i / 3 % 3) % 2 = 1 ∧ thg c / 2 ^ (i / 9) % 2 = 1
def m3V (c i : Nat) : Nat → Nat := vof c (rnk c (i % 3)) (rnk c (i / 3 % 3)) (rnk c (i / 9))
/-- the codes found below i -/
def mset (c : Nat) (w : Nat → Int32) (sz : Nat → Nat) (lt : Nat → gLD) (u i e : Nat) : Prop := ∃ j, j < i ∧ m3T c j ∧ cod c w sz lt u (m3V c j) = some e
theorem mset_s {u i e : Nat} : mset c w sz lt u (i + 1) e ↔ mset c w sz lt u i e ∨ (m3T c i ∧ cod c w sz lt u (m3V c i) = some e) := by
  constructor
  · rintro ⟨j, h1, h2⟩
    by_cases z : j = i
    · subst z
      exact Or.inr h2
    · exact Or.inl ⟨j, by omega, h2⟩
  · rintro (⟨j, h1, h2⟩ | h2)
    · exact ⟨j, by omega, h2⟩
    · exact ⟨i, by omega, h2⟩
theorem rk_on : ∀ c, c < 8 → ∀ r, r < tcn c → ∃ a, a < 3 ∧ thg c / 2 ^ a % 2 = 1 ∧ rnk c a = r := by decide
theorem mset_cset (hc : c < 8) {u e : Nat} : mset c w sz lt u 27 e ↔ cset c w sz lt u e := by
  constructor
  · rintro ⟨j, h1, ⟨h2, h3, h4⟩, h5⟩
    exact ⟨_, rnk_lt c hc _ (Nat.mod_lt _ (by decide)) h2, _, rnk_lt c hc _ (Nat.mod_lt _ (by decide)) h3, _, rnk_lt c hc _ (by omega) h4, h5⟩
  · rintro ⟨x, hx, y, hy, z, hz, h5⟩
    obtain ⟨a, a1, a2, rfl⟩ := rk_on c hc x hx
    obtain ⟨b, b1, b2, rfl⟩ := rk_on c hc y hy
    obtain ⟨d, d1, d2, rfl⟩ := rk_on c hc z hz
    have e1 : (a + 3 * b + 9 * d) % 3 = a := by omega
    have e2 : (a + 3 * b + 9 * d) / 3 % 3 = b := by omega
    have e3 : (a + 3 * b + 9 * d) / 9 = d := by omega
    refine ⟨a + 3 * b + 9 * d, by omega, ?_, ?_⟩
    · unfold m3T
      rw [e1, e2, e3]
      exact ⟨a2, b2, d2⟩
    · unfold m3V
      rw [e1, e2, e3]
      exact h5
/-- what making clause u's instances leaves -/
def miI (F0 F : Nat → Nat → Int32) (u : Nat) : Prop := (∀ m, m ≠ 14 → m ≠ 15 → F m = F0 m) ∧ (∀ v, v ≠ u → F 15 v = F0 15 v) ∧ ∀ j, j < 27 * u ∨ 27 * u + 27 ≤ j → F 14 j = F0 14 j
theorem mtk.cg {F' : Nat → Nat → Int32} (hT : mtk F k w sz lt) (he : ∀ m, m < 14 → F' m = F m) : mtk F' k w sz lt := by
  unfold mtk mlT at *
  rw [he 8 (by decide), he 9 (by decide), he 10 (by decide), he 11 (by decide), he 12 (by decide), he 13 (by decide)]
  exact hT
theorem mls.add {u e : Nat} {l : List Nat} (hl : mls F u l) (h27 : l.length < 27) (he : e < 16777216) : mls (va_up (va_up F 14 (va_up (F 14) (27 * u + l.length) (nI e))) 15 (va_up (F 15) u (nI (l.length + 1)))) u (l ++ [e]) := by
  obtain ⟨l1, l2, l3, l4⟩ := hl
  have hlen : (l ++ [e]).length = l.length + 1 := by simp
  refine ⟨?_, by omega, fun i hi => ?_, fun x hx => ?_⟩
  · rw [hlen]
    exact if_pos rfl
  · rw [hlen] at hi
    show (if 27 * u + i = 27 * u + l.length then nI e else F 14 (27 * u + i)) = _
    rw [app_get]
    by_cases z : i < l.length
    · rw [if_neg (by omega), if_pos z]
      exact l3 i z
    · have z2 : i = l.length := by omega
      rw [if_pos (by omega), if_neg z, z2, Nat.sub_self]
      rfl
  · rcases List.mem_append.mp hx with z | z
    · exact l4 x z
    · rw [List.mem_singleton.mp z]
      exact he
theorem l_Mod_make (hst : K.1.stackTraces = false) {h0 : gH} {F0 : Nat → Nat → Int32} {u : Nat} (hk : k ≤ 12) (hu : u < k) (hT0 : mtk F0 k w sz lt) (hc : c < 8) (hw : wok w) (hA : atc w c ≤ 12) (hs4 : sz u ≤ 4) (hl : ∀ i, i < sz u → lok c w (lt (4 * u + i))) {Q : Outcome → gH → Prop}
    (kq : ∀ (h : gH) (F : Nat → Nat → Int32) (l : List Nat), gMb h Y F cd ty td nc nt th kk (nI (thg c)) AA → gKP h0 h (gOf Y 17) → miI F0 F u → mls F u l → l.Nodup → (∀ e, e ∈ l ↔ mset c w sz lt u 27 e) → Q (.returned none) h) : ∀ (r i : Nat) (h : gH) (F : Nat → Nat → Int32) (l : List Nat), i + r = 27 → gMb h Y F cd ty td nc nt th kk (nI (thg c)) AA → gKP h0 h (gOf Y 17) → miI F0 F u → mls F u l → l.Nodup → l.length ≤ i → (∀ e, e ∈ l ↔ mset c w sz lt u i e) → Go K M_Mod_makeInstances r_Mod_makeInstances 9 [(0, .ref (Y 0)), (1, .int (nI u)), (2, .int (nI i))] [] h 0 0 Q := by
  intro r
  induction r with
  | zero =>
    intro i h F l hi hm hK hI hls hnd hli hms
    have e : i = 27 := by omega
    subst e
    refine g_iload_n d_Mod_makeInstances_9 rfl ?_
    refine g_bipush (v := nI 27) d_Mod_makeInstances_10 (by decide) ?_
    refine g_icmpN_ge (tgt := 145) d_Mod_makeInstances_12 (by decide) (rfl) (rfl) (by decide) (by decide) (fun q => ?_) (fun q => ?_)
    · exact g_ret_v d_Mod_makeInstances_145 rfl (kq h F l hm hK hI hls hnd hms)
    · omega
  | succ r ih =>
    intro i h F l hi hm hK hI hls hnd hli hms
    have hT : mtk F k w sz lt := hT0.cg fun m hm => hI.1 m (by omega) (by omega)
    have x3 : i % 3 < 3 := Nat.mod_lt _ (by decide)
    have y3 : i / 3 % 3 < 3 := Nat.mod_lt _ (by decide)
    have z3 : i / 9 < 3 := by omega
    have skip : ∀ (z3 z4 : Int32) (o : Option Nat), (∀ e, o = some e ↔ m3T c i ∧ cod c w sz lt u (m3V c i) = some e) → (∀ e, o = some e → e ∈ l) → Go K M_Mod_makeInstances r_Mod_makeInstances 139 [(0, .ref (Y 0)), (1, .int (nI u)), (2, .int (nI i)), (3, .int z3), (4, .int z4), (5, .int (rcv o))] [] h 0 0 Q := by
      intro z3 z4 o ho hin
      refine g_iinc d_Mod_makeInstances_139 rfl (nI_inc _) (Nat.le_of_ble_eq_true rfl) rfl ?_
      refine g_goto (tgt := 9) d_Mod_makeInstances_142 (by decide) ?_
      refine g_drop [(0, .ref (Y 0)), (1, .int (nI u)), (2, .int (nI (i + 1)))] ⟨rfl, rfl, rfl, trivial⟩ (ih (i + 1) h F l (by omega) hm hK hI hls hnd (by omega) fun e => ?_)
      rw [mset_s, ← ho, ← hms]
      exact ⟨Or.inl, fun z => z.elim id (hin e)⟩
    have go2 : ∀ (b : Int32) (o : Option Nat), (∀ e, o = some e ↔ m3T c i ∧ cod c w sz lt u (m3V c i) = some e) → (∀ e, o = some e → e < 16777216) → Go K M_Mod_makeInstances r_Mod_makeInstances 90 [(0, .ref (Y 0)), (1, .int (nI u)), (2, .int (nI i)), (3, .int (nI (gvn (i % 3) (i / 3 % 3) (i / 9)))), (4, .int b)] [.int (rcv o)] h 0 0 Q := by
      intro b o ho hlt
      refine g_istore d_Mod_makeInstances_90 (Nat.le_of_ble_eq_true rfl) rfl ?_
      refine g_iload d_Mod_makeInstances_92 rfl ?_
      refine g_if_lt (tgt := 139) d_Mod_makeInstances_94 (by decide) (fun q => ?_) (fun q => ?_)
      · refine skip _ _ o ho fun e he => ?_
        rw [he] at q
        have := hlt e he
        exact absurd q (nI_pos (by omega))
      · obtain ⟨e, rfl⟩ := rcv_s q
        have he := hlt e rfl
        refine g_aload_n d_Mod_makeInstances_97 rfl ?_
        refine g_iload_n d_Mod_makeInstances_98 rfl ?_
        refine g_iload d_Mod_makeInstances_99 rfl ?_
        refine g_callR (c_Mod_has hst hm (by omega) he hls) gm_Mod_has d_Mod_makeInstances_101 (gInv_v (As := [.int (nI u), .int (nI e)]) (rest := []) d_Mod_makeInstances_101 gm_Mod_has gv_Mod_125 (hm.2) rfl) (Nat.le_of_ble_eq_true rfl) (Nat.le_of_ble_eq_true rfl) (Nat.le_of_ble_eq_true rfl) (Nat.le_of_ble_eq_true rfl) (Nat.le_of_ble_eq_true rfl) ?_
        refine g_if_ne (tgt := 139) d_Mod_makeInstances_104 (by decide) (fun q => ?_) (fun q => ?_)
        · refine skip _ _ (some e) ho fun e' he' => ?_
          cases he'
          exact of_decide_eq_true (bI_t q)
        · have hne : ¬ e ∈ l := of_decide_eq_false ((bI_z _).mp q)
          have h27 := hls.2.1
          have hm1 := hm.up (i := 14) (by decide) (by decide) (va_up (F 14) (27 * u + l.length) (nI e))
          have hm2 := hm1.up (i := 15) (by decide) (by decide) (va_up (F 15) u (nI (l.length + 1)))
          refine g_aload_n d_Mod_makeInstances_107 rfl ?_
          refine g_get d_Mod_makeInstances_108 f_Mod_54 (hm.2) rfl ?_
          refine g_bipush (v := nI 27) d_Mod_makeInstances_111 (by decide) ?_
          refine g_iload_n d_Mod_makeInstances_113 rfl ?_
          refine g_imul d_Mod_makeInstances_114 ?_
          refine g_aload_n d_Mod_makeInstances_115 rfl ?_
          refine g_get d_Mod_makeInstances_116 f_Mod_57 (hm.2) rfl ?_
          refine g_iload_n d_Mod_makeInstances_119 rfl ?_
          refine g_iald d_Mod_makeInstances_120 (hm.1.a15) (rfl) (by omega) (by decide) ?_
          rw [hls.1, pk_mul]
          refine g_iadd d_Mod_makeInstances_121 ?_
          rw [nI_add]
          refine g_iload d_Mod_makeInstances_122 rfl ?_
          refine g_iast d_Mod_makeInstances_124 (hm.1.a14) (rfl) (by omega) (by decide) ?_
          refine g_aload_n d_Mod_makeInstances_125 rfl ?_
          refine g_get d_Mod_makeInstances_126 f_Mod_57 (hm1.2) rfl ?_
          refine g_iload_n d_Mod_makeInstances_129 rfl ?_
          refine g_aload_n d_Mod_makeInstances_130 rfl ?_
          refine g_get d_Mod_makeInstances_131 f_Mod_57 (hm1.2) rfl ?_
          refine g_iload_n d_Mod_makeInstances_134 rfl ?_
          refine g_iald d_Mod_makeInstances_135 (hm1.1.a15) (rfl) (by omega) (by decide) ?_
          rw [show va_up F 14 (va_up (F 14) (27 * u + l.length) (nI e)) 15 u = nI l.length from hls.1]
          refine g_iconst (v := nI 1) d_Mod_makeInstances_136 (by decide) ?_
          refine g_iadd d_Mod_makeInstances_137 ?_
          rw [nI_add]
          refine g_iast d_Mod_makeInstances_138 (hm1.1.a15) (rfl) (by omega) (by decide) ?_
          refine g_iinc d_Mod_makeInstances_139 rfl (nI_inc _) (Nat.le_of_ble_eq_true rfl) rfl ?_
          refine g_goto (tgt := 9) d_Mod_makeInstances_142 (by decide) ?_
          refine g_drop [(0, .ref (Y 0)), (1, .int (nI u)), (2, .int (nI (i + 1)))] ⟨rfl, rfl, rfl, trivial⟩ (ih (i + 1) _ _ (l ++ [e]) (by omega) hm2 (mK0 (mK0 hK (by decide)) (by decide)) ⟨fun m h14 h15 => ?_, fun v hv => ?_, fun j hj => ?_⟩ (hls.add (by omega) he) ?_ (by simp; omega) fun e' => ?_)
          · show (if m = 15 then _ else if m = 14 then _ else F m) = _
            rw [if_neg h15, if_neg h14]
            exact hI.1 m h14 h15
          · show (if v = u then _ else F 15 v) = _
            rw [if_neg hv]
            exact hI.2.1 v hv
          · show (if j = 27 * u + l.length then _ else F 14 j) = _
            rw [if_neg (by omega)]
            exact hI.2.2 j hj
          · rw [List.nodup_append]
            refine ⟨hnd, by simp, fun a ha b hb => ?_⟩
            rw [List.mem_singleton.mp hb]
            exact fun z => hne (z ▸ ha)
          · rw [List.mem_append, List.mem_singleton, hms, mset_s, ← ho]
            exact or_congr Iff.rfl ⟨fun z => by rw [z], fun z => (Option.some.inj z).symm⟩
    have go1 : ∀ b : Bool, (b = true ↔ m3T c i) → Go K M_Mod_makeInstances r_Mod_makeInstances 73 [(0, .ref (Y 0)), (1, .int (nI u)), (2, .int (nI i)), (3, .int (nI (gvn (i % 3) (i / 3 % 3) (i / 9))))] [.int (bI b)] h 0 0 Q := by
      intro b hb
      refine g_istore d_Mod_makeInstances_73 (Nat.le_of_ble_eq_true rfl) rfl ?_
      refine g_iload d_Mod_makeInstances_75 rfl ?_
      refine g_if_eq (tgt := 89) d_Mod_makeInstances_77 (by decide) (fun q => ?_) (fun q => ?_)
      · refine g_iconst (v := -1) d_Mod_makeInstances_89 (by decide) ?_
        refine go2 _ none (fun e => ⟨fun z => (by cases z), fun z => ?_⟩) fun e he => (by cases he)
        have := hb.mpr z.1
        rw [(bI_z _).mp q] at this
        cases this
      · have hb1 := hb.mp (bI_t q)
        refine g_aload_n d_Mod_makeInstances_80 rfl ?_
        refine g_iload_n d_Mod_makeInstances_81 rfl ?_
        refine g_iload_n d_Mod_makeInstances_82 rfl ?_
        refine g_callR (c_Mod_instance hst hm hk hu hT hc hw hA hs4 hl x3 y3 z3 hb1.1 hb1.2.1 hb1.2.2) gm_Mod_instance d_Mod_makeInstances_83 (gInv_v (As := [.int (nI u), .int (nI (gvn (i % 3) (i / 3 % 3) (i / 9)))]) (rest := []) d_Mod_makeInstances_83 gm_Mod_instance gv_Mod_122 (hm.2) rfl) (Nat.le_of_ble_eq_true rfl) (Nat.le_of_ble_eq_true rfl) (Nat.le_of_ble_eq_true rfl) (Nat.le_of_ble_eq_true rfl) (Nat.le_of_ble_eq_true rfl) ?_
        refine g_goto (tgt := 90) d_Mod_makeInstances_86 (by decide) ?_
        refine go2 _ (cod c w sz lt u (m3V c i)) (fun e => ⟨fun z => ⟨hb1, z⟩, fun z => z.2⟩) fun e he => ?_
        exact (cod_lt (fun a _ ha => vof_lt hc (rnk_lt c hc _ x3 hb1.1) (rnk_lt c hc _ y3 hb1.2.1) (rnk_lt c hc _ z3 hb1.2.2) ha) hA hl he).2.2
    refine g_iload_n d_Mod_makeInstances_9 rfl ?_
    refine g_bipush (v := nI 27) d_Mod_makeInstances_10 (by decide) ?_
    refine g_icmpN_ge (tgt := 145) d_Mod_makeInstances_12 (by decide) (rfl) (rfl) (by omega) (by decide) (fun q => ?_) (fun q => ?_)
    · omega
    · refine g_iload_n d_Mod_makeInstances_15 rfl ?_
      refine g_iconst (v := nI 3) d_Mod_makeInstances_16 (by decide) ?_
      refine g_irem d_Mod_makeInstances_17 (by decide) ?_
      rw [pk_rem (by omega) (by decide) (by decide)]
      refine g_iload_n d_Mod_makeInstances_18 rfl ?_
      refine g_iconst (v := nI 3) d_Mod_makeInstances_19 (by decide) ?_
      refine g_idiv d_Mod_makeInstances_20 (by decide) ?_
      rw [pk_div (by omega) (by decide) (by decide)]
      refine g_iconst (v := nI 3) d_Mod_makeInstances_21 (by decide) ?_
      refine g_irem d_Mod_makeInstances_22 (by decide) ?_
      rw [pk_rem (by omega) (by decide) (by decide)]
      refine g_iconst (v := nI 4) d_Mod_makeInstances_23 (by decide) ?_
      refine g_ishl d_Mod_makeInstances_24 ?_
      rw [nI_shl (by decide) (by omega)]
      refine g_iadd d_Mod_makeInstances_25 ?_
      rw [nI_add]
      refine g_iload_n d_Mod_makeInstances_26 rfl ?_
      refine g_bipush (v := nI 9) d_Mod_makeInstances_27 (by decide) ?_
      refine g_idiv d_Mod_makeInstances_29 (by decide) ?_
      rw [pk_div (by omega) (by decide) (by decide)]
      refine g_bipush (v := nI 8) d_Mod_makeInstances_30 (by decide) ?_
      refine g_ishl d_Mod_makeInstances_32 ?_
      rw [nI_shl (by decide) (by omega)]
      refine g_iadd d_Mod_makeInstances_33 ?_
      rw [nI_add, show i % 3 + i / 3 % 3 * 2 ^ 4 + i / 9 * 2 ^ 8 = gvn (i % 3) (i / 3 % 3) (i / 9) from rfl]
      refine g_istore_n d_Mod_makeInstances_34 rfl (Nat.le_of_ble_eq_true rfl) rfl ?_
      refine g_aload_n d_Mod_makeInstances_35 rfl ?_
      refine g_iload_n d_Mod_makeInstances_36 rfl ?_
      refine g_iconst (v := nI 3) d_Mod_makeInstances_37 (by decide) ?_
      refine g_irem d_Mod_makeInstances_38 (by decide) ?_
      rw [pk_rem (by omega) (by decide) (by decide)]
      refine g_callR (c_Mod_isT hst hm hc x3) gm_Mod_isThing d_Mod_makeInstances_39 (gInv_v (As := [.int (nI (i % 3))]) (rest := []) d_Mod_makeInstances_39 gm_Mod_isThing gv_Mod_118 (hm.2) rfl) (Nat.le_of_ble_eq_true rfl) (Nat.le_of_ble_eq_true rfl) (Nat.le_of_ble_eq_true rfl) (Nat.le_of_ble_eq_true rfl) (Nat.le_of_ble_eq_true rfl) ?_
      refine g_if_eq (tgt := 72) d_Mod_makeInstances_42 (by decide) (fun q => ?_) (fun q => ?_)
      · refine g_iconst (v := nI 0) d_Mod_makeInstances_72 (by decide) ?_
        exact go1 false ⟨fun z => (by cases z), fun z => absurd z.1 (of_decide_eq_false ((bI_z _).mp q))⟩
      · have q1 := of_decide_eq_true (bI_t q)
        refine g_aload_n d_Mod_makeInstances_45 rfl ?_
        refine g_iload_n d_Mod_makeInstances_46 rfl ?_
        refine g_iconst (v := nI 3) d_Mod_makeInstances_47 (by decide) ?_
        refine g_idiv d_Mod_makeInstances_48 (by decide) ?_
        rw [pk_div (by omega) (by decide) (by decide)]
        refine g_iconst (v := nI 3) d_Mod_makeInstances_49 (by decide) ?_
        refine g_irem d_Mod_makeInstances_50 (by decide) ?_
        rw [pk_rem (by omega) (by decide) (by decide)]
        refine g_callR (c_Mod_isT hst hm hc y3) gm_Mod_isThing d_Mod_makeInstances_51 (gInv_v (As := [.int (nI (i / 3 % 3))]) (rest := []) d_Mod_makeInstances_51 gm_Mod_isThing gv_Mod_118 (hm.2) rfl) (Nat.le_of_ble_eq_true rfl) (Nat.le_of_ble_eq_true rfl) (Nat.le_of_ble_eq_true rfl) (Nat.le_of_ble_eq_true rfl) (Nat.le_of_ble_eq_true rfl) ?_
        refine g_if_eq (tgt := 72) d_Mod_makeInstances_54 (by decide) (fun q => ?_) (fun q => ?_)
        · refine g_iconst (v := nI 0) d_Mod_makeInstances_72 (by decide) ?_
          exact go1 false ⟨fun z => (by cases z), fun z => absurd z.2.1 (of_decide_eq_false ((bI_z _).mp q))⟩
        · have q2 := of_decide_eq_true (bI_t q)
          refine g_aload_n d_Mod_makeInstances_57 rfl ?_
          refine g_iload_n d_Mod_makeInstances_58 rfl ?_
          refine g_bipush (v := nI 9) d_Mod_makeInstances_59 (by decide) ?_
          refine g_idiv d_Mod_makeInstances_61 (by decide) ?_
          rw [pk_div (by omega) (by decide) (by decide)]
          refine g_callR (c_Mod_isT hst hm hc z3) gm_Mod_isThing d_Mod_makeInstances_62 (gInv_v (As := [.int (nI (i / 9))]) (rest := []) d_Mod_makeInstances_62 gm_Mod_isThing gv_Mod_118 (hm.2) rfl) (Nat.le_of_ble_eq_true rfl) (Nat.le_of_ble_eq_true rfl) (Nat.le_of_ble_eq_true rfl) (Nat.le_of_ble_eq_true rfl) (Nat.le_of_ble_eq_true rfl) ?_
          refine g_if_eq (tgt := 72) d_Mod_makeInstances_65 (by decide) (fun q => ?_) (fun q => ?_)
          · refine g_iconst (v := nI 0) d_Mod_makeInstances_72 (by decide) ?_
            exact go1 false ⟨fun z => (by cases z), fun z => absurd z.2.2 (of_decide_eq_false ((bI_z _).mp q))⟩
          · refine g_iconst (v := nI 1) d_Mod_makeInstances_68 (by decide) ?_
            refine g_goto (tgt := 73) d_Mod_makeInstances_69 (by decide) ?_
            exact go1 true ⟨fun _ => ⟨q1, q2, of_decide_eq_true (bI_t q)⟩, fun _ => rfl⟩
theorem c_Mod_makeInstances (hst : K.1.stackTraces = false) {u : Nat} (hm : gMb h Y F cd ty td nc nt th kk (nI (thg c)) AA) (hk : k ≤ 12) (hu : u < k) (hT : mtk F k w sz lt) (hc : c < 8) (hw : wok w) (hA : atc w c ≤ 12) (hs4 : sz u ≤ 4) (hl : ∀ i, i < sz u → lok c w (lt (4 * u + i))) : Ct K r_Mod_makeInstances M_Mod_makeInstances [.ref (Y 0), .int (nI u)] h (gRx fun o h' => o = none ∧ ∃ (F' : Nat → Nat → Int32) (l : List Nat), gMb h' Y F' cd ty td nc nt th kk (nI (thg c)) AA ∧ gKP h h' (gOf Y 17) ∧ miI F F' u ∧ mls F' u l ∧ l.Nodup ∧ ∀ e, e ∈ l ↔ cset c w sz lt u e) := by
  refine Ct.of hst (by decide) (Or.inl rfl) (Nat.le_of_ble_eq_true rfl) ?_
  have hm1 := hm.up (i := 15) (by decide) (by decide) (va_up (F 15) u (nI 0))
  refine g_aload_n d_Mod_makeInstances_0 rfl ?_
  refine g_get d_Mod_makeInstances_1 f_Mod_57 (hm.2) rfl ?_
  refine g_iload_n d_Mod_makeInstances_4 rfl ?_
  refine g_iconst (v := nI 0) d_Mod_makeInstances_5 (by decide) ?_
  refine g_iast d_Mod_makeInstances_6 (hm.1.a15) (rfl) (by omega) (by decide) ?_
  refine g_iconst (v := nI 0) d_Mod_makeInstances_7 (by decide) ?_
  refine g_istore_n d_Mod_makeInstances_8 rfl (Nat.le_of_ble_eq_true rfl) rfl ?_
  refine l_Mod_make hst (F0 := F) (h0 := h) hk hu hT hc hw hA hs4 hl (fun h' F' l hm' hK' hI' hls hnd hms => ⟨_, rfl, rfl, F', l, hm', hK', hI', hls, hnd, fun e => (hms e).trans (mset_cset hc)⟩) 27 0 _ _ [] rfl hm1 (mK0 gKP.rf (by decide)) ⟨fun m h14 h15 => if_neg h15, fun v hv => ?_, fun j _ => rfl⟩ ⟨?_, by decide, fun i hi => absurd hi (Nat.not_lt_zero _), fun e he => by cases he⟩ List.nodup_nil (Nat.le_refl _) fun e => ⟨fun z => (by cases z), fun ⟨j, hj, _⟩ => absurd hj (Nat.not_lt_zero _)⟩
  · show (if v = u then _ else F 15 v) = _
    exact if_neg hv
  · show (if u = u then _ else F 15 u) = _
    exact if_pos rfl
end MODEL16
