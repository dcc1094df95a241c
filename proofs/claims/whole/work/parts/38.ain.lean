/-! ===== one more new cell gets the next number ===== -/
def aIn (h0 h : gH) (S : Nat → Nat) (t : Nat) : Prop := (∀ m, m < t → ∀ n, n < t → S m = S n → m = n) ∧ (∀ n, n < t → h (S n) ≠ none) ∧ (∀ n, n < t → n ≠ 0 → h0 (S n) = none) ∧ ∀ x, (∀ n, n < t → x ≠ S n) → h x = h0 x
theorem aIn.step {h0 h h1 : gH} {S : Nat → Nat} {t q : Nat} (ht : 1 ≤ t) (hr : aIn h0 h S t) (hq : h q = none) (h1q : h1 q ≠ none) (hs : ∀ n, n < t → h1 (S n) ≠ none) (hk : ∀ x, (∀ n, n < t → x ≠ S n) → x ≠ q → h1 x = h x) : aIn h0 h1 (va_up S t q) (t + 1) := by
  obtain ⟨r1, r2, r3, r4⟩ := hr
  have m1 : ∀ {n}, n < t → S n ≠ q := fun hn z => r2 _ hn (z ▸ hq)
  have vR : ∀ {n}, n < t → va_up S t q n = S n := fun hn => by
    unfold va_up
    rw [if_neg (by omega)]
  have v1 : va_up S t q t = q := by
    unfold va_up
    rw [if_pos rfl]
  have cs : ∀ {n}, n < t + 1 → n < t ∨ n = t := fun hn => by omega
  refine ⟨fun m hm n hn e => ?_, fun n hn => ?_, fun n hn h9 => ?_, fun x hx => ?_⟩
  · rcases cs hm with y | y <;> rcases cs hn with z | z
    · rw [vR y, vR z] at e
      exact r1 m y n z e
    · rw [vR y, z, v1] at e
      exact absurd e (m1 y)
    · rw [y, v1, vR z] at e
      exact absurd e.symm (m1 z)
    · omega
  · rcases cs hn with y | y
    · rw [vR y]
      exact hs n y
    · rw [y, v1]
      exact h1q
  · rcases cs hn with y | y
    · rw [vR y]
      exact r3 n y h9
    · rw [y, v1, ← r4 q fun n hn => Ne.symm (m1 hn)]
      exact hq
  · have y1 : x ≠ q := by
      have := hx t (by omega)
      rw [v1] at this
      exact this
    have y3 : ∀ n, n < t → x ≠ S n := fun n hn => by
      have := hx n (by omega)
      rw [vR hn] at this
      exact this
    exact (hk x y3 y1).trans (r4 x y3)
theorem aIn.add {h0 h : gH} {S : Nat → Nat} {t q : Nat} {e : gE} (ht : 1 ≤ t) (hr : aIn h0 h S t) (hq : h q = none) : aIn h0 (gup h q e) (va_up S t q) (t + 1) := hr.step ht hq (by rw [gup_s]; simp) (fun n hn => by rw [gup_n (show S n ≠ q from fun z => hr.2.1 n hn (by rw [z]; exact hq))]; exact hr.2.1 n hn) fun x _ hx => gup_n hx
theorem aIn.put {h0 h : gH} {S : Nat → Nat} {t m : Nat} {e : gE} (hr : aIn h0 h S t) (hm : m < t) : aIn h0 (gup h (S m) e) S t := by
  obtain ⟨r1, r2, r3, r4⟩ := hr
  refine ⟨r1, fun n hn => ?_, r3, fun x hx => (gup_n (hx m hm)).trans (r4 x hx)⟩
  by_cases z : S n = S m
  · rw [z, gup_s]
    simp
  · rw [gup_n z]
    exact r2 n hn
