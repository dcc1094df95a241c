/-! ===== what a text without a fault gives ===== -/
def cbt (c a : Nat) : Prop := c / 2 ^ a % 2 = 1
theorem bt_or : ∀ c, c < 8 → ∀ b, b < 3 → ∀ a, a < 3 → ((c / 2 ^ a % 2 = 1 → (c ||| 2 ^ b) / 2 ^ a % 2 = 1) ∧ (c ||| 2 ^ b) / 2 ^ b % 2 = 1 ∧ c ||| 2 ^ b < 8) := by decide
theorem bt_isT : ∀ c, c < 8 → ∀ a, a < 3 → (c / 2 ^ a % 2 = 1 → thg c / 2 ^ a % 2 = 1) := by decide
def lokB (c : Nat) (w : Nat → Int32) (z : gLD) : Prop := z.2.1 < 4 ∧ z.2.2.1 ≤ 2 ∧ w z.2.1 = nI z.2.2.1 ∧ (0 < z.2.2.1 → z.2.2.2.1 < 6 ∧ (z.2.2.2.1 < 3 → cbt c z.2.2.2.1)) ∧ (1 < z.2.2.1 → z.2.2.2.2 < 6 ∧ (z.2.2.2.2 < 3 → cbt c z.2.2.2.2))
theorem lokB.ok {c : Nat} {w : Nat → Int32} {z : gLD} (hc : c < 8) (hz : lokB c w z) : lok c w z := ⟨hz.1, hz.2.1, hz.2.2.1, fun h => ⟨(hz.2.2.2.1 h).1, fun a => bt_isT c hc _ a ((hz.2.2.2.1 h).2 a)⟩, fun h => ⟨(hz.2.2.2.2 h).1, fun a => bt_isT c hc _ a ((hz.2.2.2.2 h).2 a)⟩⟩
theorem lokB.up {c c' : Nat} {w w' : Nat → Int32} {z : gLD} (hz : lokB c w z) (h1 : ∀ a, a < 3 → cbt c a → cbt c' a) (h2 : ∀ p, p < 4 → ¬ w p = -1 → w' p = w p) : lokB c' w' z := by
  obtain ⟨z1, z2, z3, z4, z5⟩ := hz
  refine ⟨z1, z2, (h2 _ z1 ?_).trans z3, fun h => ⟨(z4 h).1, fun a => h1 _ a ((z4 h).2 a)⟩, fun h => ⟨(z5 h).1, fun a => h1 _ a ((z5 h).2 a)⟩⟩
  rw [z3]
  exact nI_neg1 (by omega)
theorem rdA_lok {tx : List Nat} {w : Nat → Int32} : ∀ (r n p c a1 a2 : Nat), n + r ≤ 2 → c < 8 → (0 < n → a1 < 6 ∧ (a1 < 3 → cbt c a1)) → (1 < n → a2 < 6 ∧ (a2 < 3 → cbt c a2)) →
    (rdA tx w r n p c a1 a2).2.2.2.1 < 8 ∧ (∀ a, a < 3 → cbt c a → cbt (rdA tx w r n p c a1 a2).2.2.2.1 a) ∧ (rdA tx w r n p c a1 a2).2.1 ≤ 2 ∧ (0 < (rdA tx w r n p c a1 a2).2.1 → (rdA tx w r n p c a1 a2).2.2.2.2.1 < 6 ∧ ((rdA tx w r n p c a1 a2).2.2.2.2.1 < 3 → cbt (rdA tx w r n p c a1 a2).2.2.2.1 (rdA tx w r n p c a1 a2).2.2.2.2.1)) ∧ (1 < (rdA tx w r n p c a1 a2).2.1 → (rdA tx w r n p c a1 a2).2.2.2.2.2 < 6 ∧ ((rdA tx w r n p c a1 a2).2.2.2.2.2 < 3 → cbt (rdA tx w r n p c a1 a2).2.2.2.1 (rdA tx w r n p c a1 a2).2.2.2.2.2)) := by
  intro r
  induction r with
  | zero => exact fun n p c a1 a2 hn hc h1 h2 => ⟨hc, fun _ _ z => z, by show n ≤ 2; omega, h1, h2⟩
  | succ r ih =>
    intro n p c a1 a2 hn hc h1 h2
    unfold rdA
    cases e : arg (tx.getD p 0) with
    | none => exact ⟨hc, fun _ _ z => z, by show n ≤ 2; omega, h1, h2⟩
    | some a =>
      have ha := (arg_lt e).1
      have c8 : (if a < 3 then c ||| 2 ^ a else c) < 8 := by
        split
        · exact (bt_or c hc a (by assumption) a (by assumption)).2.2
        · exact hc
      have cm : ∀ b, b < 3 → cbt c b → cbt (if a < 3 then c ||| 2 ^ a else c) b := by
        intro b hb z
        split
        · exact (bt_or c hc a (by assumption) b hb).1 z
        · exact z
      have ca : a < 3 → cbt (if a < 3 then c ||| 2 ^ a else c) a := by
        intro h3
        rw [if_pos h3]
        exact (bt_or c hc a h3 a h3).2.1
      have h1' : 0 < n → a1 < 6 ∧ (a1 < 3 → cbt (if a < 3 then c ||| 2 ^ a else c) a1) := fun z => ⟨(h1 z).1, fun y => cm a1 y ((h1 z).2 y)⟩
      have h2' : 1 < n → a2 < 6 ∧ (a2 < 3 → cbt (if a < 3 then c ||| 2 ^ a else c) a2) := fun z => ⟨(h2 z).1, fun y => cm a2 y ((h2 z).2 y)⟩
      dsimp only
      by_cases h12 : 12 < atc w (if a < 3 then c ||| 2 ^ a else c)
      · rw [if_pos h12]
        exact ⟨c8, cm, by show n ≤ 2; omega, h1', h2'⟩
      · rw [if_neg h12]
        obtain ⟨i1, i2, i3⟩ := ih (n + 1) (p + 1) (if a < 3 then c ||| 2 ^ a else c) (if n = 0 then a else a1) (if n = 1 then a else a2) (by omega) c8 (fun _ => by
          split
          · exact ⟨ha, ca⟩
          · exact h1' (by omega)) (fun _ => by
          split
          · exact ⟨ha, ca⟩
          · exact h2' (by omega))
        exact ⟨i1, fun b hb z => i2 b hb (cm b hb z), i3⟩
theorem rdL_lok {tx : List Nat} {w : Nat → Int32} {c p : Nat} (hw : wok w) (hc : c < 8) (hg : (rdL tx w c p).1 = true) : lokB (rdL tx w c p).2.2.2.1 (rdL tx w c p).2.2.1 (rdL tx w c p).2.2.2.2 ∧ (rdL tx w c p).2.2.2.1 < 8 ∧ (∀ a, a < 3 → cbt c a → cbt (rdL tx w c p).2.2.2.1 a) ∧ (∀ q, q < 4 → ¬ w q = -1 → (rdL tx w c p).2.2.1 q = w q) ∧ wok (rdL tx w c p).2.2.1 := by
  unfold rdL at hg ⊢
  cases e : prd (tx.getD (rdN tx p) 0) with
  | none =>
    rw [e] at hg
    cases hg
  | some x =>
    rw [e] at hg
    have hx := (prd_lt e).1
    have hm := (mst_ok hw hx).1
    obtain ⟨i1, i2, i3, i4, i5⟩ := rdA_lok (tx := tx) (w := w) (mst w x) 0 (rdN tx p + 1) c 0 0 (by omega) hc (fun z => absurd z (by decide)) (fun z => absurd z (by decide))
    dsimp only at hg ⊢
    generalize rdA tx w (mst w x) 0 (rdN tx p + 1) c 0 0 = z at hg i1 i2 i3 i4 i5 ⊢
    unfold rdT at hg ⊢
    by_cases e1 : z.1 = false
    · rw [if_pos e1] at hg
      cases hg
    · rw [if_neg e1] at hg ⊢
      by_cases e2 : w x = -1
      · rw [if_pos e2]
        refine ⟨⟨hx, i3, ?_, i4, i5⟩, i1, i2, fun q hq hn => ?_, fun q hq => ?_⟩
        · show va_up w x (nI z.2.1) x = nI z.2.1
          unfold va_up
          rw [if_pos rfl]
        · show va_up w x (nI z.2.1) q = w q
          unfold va_up
          rw [if_neg (show ¬ q = x from fun y => hn (by rw [y]; exact e2))]
        · show va_up w x (nI z.2.1) q = -1 ∨ va_up w x (nI z.2.1) q = 0 ∨ va_up w x (nI z.2.1) q = 1 ∨ va_up w x (nI z.2.1) q = 2
          unfold va_up
          by_cases e3 : q = x
          · rw [if_pos e3]
            exact Or.inr (nI_012 i3)
          · rw [if_neg e3]
            exact hw q hq
      · rw [if_neg e2] at hg ⊢
        exact ⟨⟨hx, i3, (of_decide_eq_true hg).symm, i4, i5⟩, i1, i2, fun _ _ _ => rfl, hw⟩
theorem rdG_ok {tx : List Nat} : ∀ (r k p c : Nat) (w : Nat → Int32) (sz : Nat → Nat) (lt : Nat → gLD), 1 ≤ k ∧ k ≤ 12 → p ≤ tx.length → atc w c ≤ 12 → wok w → c < 8 → (∀ j, sz j ≤ 4 ∧ (k ≤ j → sz j = 0)) → sz (k - 1) < 4 → (∀ u, ∀ i, i < sz u → lokB c w (lt (4 * u + i))) → (rdG tx r k p c w sz lt).1 = none →
    (1 ≤ (rdG tx r k p c w sz lt).2.1 ∧ (rdG tx r k p c w sz lt).2.1 ≤ 12) ∧ atc (rdG tx r k p c w sz lt).2.2.2.1 (rdG tx r k p c w sz lt).2.2.1 ≤ 12 ∧ wok (rdG tx r k p c w sz lt).2.2.2.1 ∧ (rdG tx r k p c w sz lt).2.2.1 < 8 ∧ (∀ j, (rdG tx r k p c w sz lt).2.2.2.2.1 j ≤ 4) ∧ ∀ u, ∀ i, i < (rdG tx r k p c w sz lt).2.2.2.2.1 u → lok (rdG tx r k p c w sz lt).2.2.1 (rdG tx r k p c w sz lt).2.2.2.1 ((rdG tx r k p c w sz lt).2.2.2.2.2 (4 * u + i)) := by
  intro r
  induction r with
  | zero =>
    intro k p c w sz lt _ _ _ _ _ _ _ _ hn
    cases hn
  | succ r ih =>
    intro k p c w sz lt hk hp hA hw hc hsz hs4 hl hn
    unfold rdG at hn ⊢
    obtain ⟨k1, k2⟩ := rdL_ok (tx := tx) (w := w) (c := c) hp hA
    by_cases good : (rdL tx w c p).1 = false
    · rw [if_pos good] at hn
      cases hn
    · rw [if_neg good] at hn ⊢
      have g1 : (rdL tx w c p).1 = true := by simpa using good
      obtain ⟨k3, k4⟩ := k2 g1
      obtain ⟨m1, m2, m3, m4, m5⟩ := rdL_lok hw hc g1
      have nsz : ∀ j, va_up sz (k - 1) (sz (k - 1) + 1) j ≤ 4 ∧ (k ≤ j → va_up sz (k - 1) (sz (k - 1) + 1) j = 0) := by
        intro j
        have := hsz j
        unfold va_up
        split
        · omega
        · exact this
      have nl : ∀ u, ∀ i, i < va_up sz (k - 1) (sz (k - 1) + 1) u → lokB (rdL tx w c p).2.2.2.1 (rdL tx w c p).2.2.1 (va_up lt (4 * (k - 1) + sz (k - 1)) (rdL tx w c p).2.2.2.2 (4 * u + i)) := by
        intro u i hi
        have h4 := (nsz u).1
        by_cases e : 4 * u + i = 4 * (k - 1) + sz (k - 1)
        · unfold va_up
          rw [if_pos e]
          exact m1
        · have hb : i < sz u := by
            unfold va_up at hi
            by_cases ei : u = k - 1
            · rw [if_pos ei] at hi
              subst ei
              omega
            · rw [if_neg ei] at hi
              exact hi
          unfold va_up
          rw [if_neg e]
          exact (hl u i hb).up m3 m4
      by_cases fin : (rdL tx w c p).2.1 = tx.length
      · rw [if_pos fin] at hn ⊢
        exact ⟨hk, k4, m5, m2, fun j => (nsz j).1, fun u i hi => (nl u i hi).ok m2⟩
      · rw [if_neg fin] at hn ⊢
        cases ej : rdJ tx k (rdL tx w c p).2.1 (sz (k - 1) + 1) with
        | none =>
          rw [ej] at hn
          cases hn
        | some k' =>
          rw [ej] at hn
          have hk' : (k' = k + 1 ∧ k < 12) ∨ (k' = k ∧ sz (k - 1) + 1 < 4) := by
            unfold rdJ at ej
            split at ej
            · rename_i z
              exact Or.inl ⟨(Option.some.inj ej).symm, z.2⟩
            · split at ej
              · rename_i z
                exact Or.inr ⟨(Option.some.inj ej).symm, z.2⟩
              · cases ej
          have hne : tx.getD (rdL tx w c p).2.1 0 ≠ 0 := by
            unfold rdJ at ej
            intro z0
            rw [z0, if_neg (by simp), if_neg (by simp)] at ej
            cases ej
          have hlt := getD_len hne
          refine ih k' _ _ _ _ _ (by omega) hlt k4 m5 m2 (fun j => ?_) ?_ nl hn
          · have := nsz j
            exact ⟨this.1, fun y => this.2 (by omega)⟩
          · unfold va_up
            split
            · omega
            · have := (hsz (k' - 1)).2 (by omega)
              omega
