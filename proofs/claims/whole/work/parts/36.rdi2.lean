/-! ===== the reader's constructor, from its start ===== -/
def six (a b c d e f n : Nat) : Nat := match n with
  | 0 => a
  | 1 => b
  | 2 => c
  | 3 => d
  | 4 => e
  | _ => f
theorem c_Rd_init {K : gK} {h : gH} (hst : K.1.stackTraces = false) {a : Nat} (ha : h a = some (.inr (4, [.null, .null, .null, .int 0, .int 0]))) : Ct K r_Rd_init M_Rd_init [.ref a] h (gRx fun o h' => o = none ∧ ∃ R' : Nat → Nat, R' 0 = a ∧ gNj R' 102 ∧ gRU h' R' ∧ (∀ n, 1 ≤ n → n < 102 → h (R' n) = none) ∧ gKP h h' (gOf R' 102)) := by
  refine Ct.of hst (by decide) (Or.inl rfl) (Nat.le_of_ble_eq_true rfl) ?_
  refine g_aload_n d_Rd_init_0 rfl ?_
  refine g_obj d_Rd_init_1 go_Rd_3 ob_1 ob_2 (Nat.le_of_ble_eq_true rfl) (Nat.le_of_ble_eq_true rfl) (Nat.le_of_ble_eq_true rfl) ?_
  refine g_aload_n d_Rd_init_4 rfl ?_
  refine g_new d_Rd_init_5 nw_Rd_9 (Nat.le_of_ble_eq_true rfl) (Nat.le_of_ble_eq_true rfl) (fun q1 hq1 => ?_)
  refine g_dup d_Rd_init_8 rfl ?_
  refine g_callX (c_Voc_init hst (gup_s _ _ _)) gm_Voc_init d_Rd_init_9 (gInv_i (As := []) (rest := [.ref q1, .ref a]) d_Rd_init_9 gm_Voc_init gi_Rd_11 rfl) (Nat.le_of_ble_eq_true rfl) (Nat.le_of_ble_eq_true rfl) (Nat.le_of_ble_eq_true rfl) (Nat.le_of_ble_eq_true rfl) (Nat.le_of_ble_eq_true rfl) (fun v1 h1 hp => ?_)
  obtain ⟨rfl, aa, fa, w, haa, hfa, v1, -, -, k1⟩ := hp
  have a1 : a ≠ q1 := gne0 ha hq1
  have a2 : a ≠ aa := gne0 ((gup_n a1).trans ha) haa
  have a3 : a ≠ fa := gne0 ((gup_n a1).trans ha) hfa
  have b2 : q1 ≠ aa := gne0 (gup_s _ _ _) haa
  have b3 : q1 ≠ fa := gne0 (gup_s _ _ _) hfa
  have c3 : aa ≠ fa := v1.2.2.1
  obtain ⟨s1, s2, s3⟩ := v1.sm
  have x1 : h1 a = some (.inr (4, [.null, .null, .null, .int 0, .int 0])) := (k1 a (nm3 a1 a2 a3)).trans ((gup_n a1).trans ha)
  refine g_putF (k := 0) (fs' := [_, _, _, _, _]) d_Rd_init_12 gc_Rd (by decide) rfl rfl fl_Rd_12 rfl rfl (x1) rfl rfl (Nat.le_of_ble_eq_true rfl) rfl ?_
  refine g_aload_n d_Rd_init_15 rfl ?_
  refine g_bipush (v := nI 48) d_Rd_init_16 (by decide) ?_
  refine g_anew (t := 4) d_Rd_init_18 w_1_83 (by decide) (fun _ => rfl) rfl (by decide) (Nat.le_of_ble_eq_true rfl) (Nat.le_of_ble_eq_true rfl) (fun q4 hq4 => ?_)
  have d0 : q4 ≠ a := fun z => by rw [z, gup_s] at hq4; cases hq4
  have hq4' : h1 q4 = none := (gup_n d0).symm.trans hq4
  have d1 : q4 ≠ q1 := fun z => s1 (z ▸ hq4')
  have d2 : q4 ≠ aa := fun z => s2 (z ▸ hq4')
  have d3 : q4 ≠ fa := fun z => s3 (z ▸ hq4')
  refine g_putF (k := 1) (fs' := [_, _, _, _, _]) d_Rd_init_21 gc_Rd (by decide) rfl rfl fl_Rd_20 rfl rfl ((gup_n (Ne.symm d0)).trans (gup_s _ _ _)) rfl rfl (Nat.le_of_ble_eq_true rfl) rfl ?_
  refine g_aload_n d_Rd_init_24 rfl ?_
  refine g_bipush (v := nI 12) d_Rd_init_25 (by decide) ?_
  refine g_newI d_Rd_init_27 ac_int rfl (by decide) (Nat.le_of_ble_eq_true rfl) (Nat.le_of_ble_eq_true rfl) (fun q5 hq5 => ?_)
  have e0 : q5 ≠ a := fun z => by rw [z, gup_s] at hq5; cases hq5
  have e4 : q5 ≠ q4 := fun z => by rw [gup_n e0, z, gup_s] at hq5; cases hq5
  have hq5' : h1 q5 = none := by
    rw [gup_n e0, gup_n e4, gup_n e0] at hq5
    exact hq5
  have e1 : q5 ≠ q1 := fun z => s1 (z ▸ hq5')
  have e2 : q5 ≠ aa := fun z => s2 (z ▸ hq5')
  have e3 : q5 ≠ fa := fun z => s3 (z ▸ hq5')
  refine g_putF (k := 2) (fs' := [_, _, _, _, _]) d_Rd_init_29 gc_Rd (by decide) rfl rfl fl_Rd_24 rfl rfl ((gup_n (Ne.symm e0)).trans (gup_s _ _ _)) rfl rfl (Nat.le_of_ble_eq_true rfl) rfl ?_
  refine g_iconst (v := nI 0) d_Rd_init_32 (by decide) ?_
  refine g_istore_n d_Rd_init_33 rfl (Nat.le_of_ble_eq_true rfl) rfl ?_
  refine g_less (kc' := 2 * 48) (ks' := 5 * 48) (Nat.le_of_ble_eq_true rfl) (Nat.le_of_ble_eq_true rfl) ?_
  refine l_Rd_init hst 48 0 _ (six a q1 aa fa q4 q5) rfl ?_
  have cs : ∀ {n}, rdm 0 n → n = 0 ∨ n = 1 ∨ n = 2 ∨ n = 3 ∨ n = 4 ∨ n = 5 := fun {n} hn => by
    unfold rdm at hn
    omega
  have hx : ∀ {x}, x ≠ a → x ≠ q4 → x ≠ q5 → ∀ {u1 u2 u3 u4 u5 : gE}, gup (gup (gup (gup (gup h1 a u1) q4 u2) a u3) q5 u4) a u5 x = h1 x := by
    intro x y1 y2 y3 u1 u2 u3 u4 u5
    rw [gup_n y1, gup_n y3, gup_n y1, gup_n y2, gup_n y1]
  refine ⟨fun m hm n hn e => ?_, fun n hn => ?_, fun n hn h9 => ?_, fun x hx9 => ?_, rfl, gup_s _ _ _, ⟨w, v1.of (hx (Ne.symm a1) (Ne.symm d1) (Ne.symm e1)) (hx (Ne.symm a2) (Ne.symm d2) (Ne.symm e2)) (hx (Ne.symm a3) (Ne.symm d3) (Ne.symm e3))⟩, ⟨_, (gup_n e0).trans (gup_s _ _ _)⟩, _, (gup_n d0).trans ((gup_n (Ne.symm e4)).trans ((gup_n d0).trans (gup_s _ _ _))), fun j hj => absurd hj (Nat.not_lt_zero _)⟩
  · rcases cs hm with y | y | y | y | y | y <;> rcases cs hn with z | z | z | z | z | z <;> subst y <;> subst z <;> first | rfl | (exfalso; first | exact a1 e | exact a1 e.symm | exact a2 e | exact a2 e.symm | exact a3 e | exact a3 e.symm | exact b2 e | exact b2 e.symm | exact b3 e | exact b3 e.symm | exact c3 e | exact c3 e.symm | exact d0 e | exact d0 e.symm | exact d1 e | exact d1 e.symm | exact d2 e | exact d2 e.symm | exact d3 e | exact d3 e.symm | exact e0 e | exact e0 e.symm | exact e1 e | exact e1 e.symm | exact e2 e | exact e2 e.symm | exact e3 e | exact e3 e.symm | exact e4 e | exact e4 e.symm)
  · rcases cs hn with y | y | y | y | y | y <;> subst y
    · show gup _ a _ a ≠ none
      rw [gup_s]
      simp
    · show gup _ a _ q1 ≠ none
      rw [hx (Ne.symm a1) (Ne.symm d1) (Ne.symm e1)]
      exact s1
    · show gup _ a _ aa ≠ none
      rw [hx (Ne.symm a2) (Ne.symm d2) (Ne.symm e2)]
      exact s2
    · show gup _ a _ fa ≠ none
      rw [hx (Ne.symm a3) (Ne.symm d3) (Ne.symm e3)]
      exact s3
    · show gup _ a _ q4 ≠ none
      rw [gup_n d0, gup_n (Ne.symm e4), gup_n d0, gup_s]
      simp
    · show gup _ a _ q5 ≠ none
      rw [gup_n e0, gup_s]
      simp
  · have k0 : ∀ {x}, x ≠ q1 → x ≠ aa → x ≠ fa → h1 x = h x := fun y1 y2 y3 => (k1 _ (nm3 y1 y2 y3)).trans (gup_n y1)
    rcases cs hn with y | y | y | y | y | y <;> subst y
    · exact absurd rfl h9
    · exact hq1
    · exact (gup_n (Ne.symm b2)).symm.trans haa
    · exact (gup_n (Ne.symm b3)).symm.trans hfa
    · exact (k0 d1 d2 d3).symm.trans hq4'
    · exact (k0 e1 e2 e3).symm.trans hq5'
  · have y : ∀ n, n < 6 → x ≠ six a q1 aa fa q4 q5 n := fun n hn => hx9 n (Or.inl hn)
    rw [hx (y 0 (by decide)) (y 4 (by decide)) (y 5 (by decide))]
    exact (k1 _ (nm3 (y 1 (by decide)) (y 2 (by decide)) (y 3 (by decide)))).trans (gup_n (y 1 (by decide)))
