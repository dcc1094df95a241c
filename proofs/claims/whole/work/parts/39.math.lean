/-! ===== counting: one set, one length; tables in another order ===== -/
theorem nd_le : ∀ {l m : List Nat}, l.Nodup → (∀ e, e ∈ l → e ∈ m) → l.length ≤ m.length := by
  intro l
  induction l with
  | nil => exact fun _ _ => Nat.zero_le _
  | cons a t ih =>
    intro m hl hs
    have h1 := List.nodup_cons.mp hl
    have ha : a ∈ m := hs a List.mem_cons_self
    have h2 := ih (m := m.erase a) h1.2 fun e he => (List.mem_erase_of_ne (show e ≠ a from fun z => h1.1 (by rw [← z]; exact he))).mpr (hs e (List.mem_cons_of_mem _ he))
    rw [List.length_erase_of_mem ha] at h2
    have h3 : 0 < m.length := List.length_pos_of_mem ha
    simp only [List.length_cons]
    omega
theorem nd_len {l m : List Nat} (hl : l.Nodup) (hm : m.Nodup) (h : ∀ e, e ∈ l ↔ e ∈ m) : l.length = m.length := Nat.le_antisymm (nd_le hl fun e => (h e).mp) (nd_le hm fun e => (h e).mpr)
theorem rvp_bit (A n : Nat) : ∀ k j, (rvp A n k).testBit j = (decide (j < k) && n.testBit (A - 1 - j)) := by
  intro k
  induction k with
  | zero =>
    intro j
    simp [rvp]
  | succ k ih =>
    intro j
    have h2 : n / 2 ^ (A - 1 - k) % 2 = (n.testBit (A - 1 - k)).toNat := by
      rw [Nat.testBit_eq_decide_div_mod_eq]
      have := Nat.mod_two_eq_zero_or_one (n / 2 ^ (A - 1 - k))
      rcases this with e | e <;> rw [e] <;> rfl
    unfold rvp
    rw [Nat.testBit_or, ih, h2, Nat.mul_comm, Nat.testBit_two_pow_mul]
    by_cases h3 : j < k
    · have h4 : ¬ k ≤ j := by omega
      have h5 : j < k + 1 := by omega
      simp [h3, h4, h5]
    · by_cases h4 : j = k
      · subst h4
        cases n.testBit (A - 1 - j) <;> simp
      · have h5 : ¬ j < k + 1 := by omega
        have h6 : k ≤ j := by omega
        have h7 : j - k ≠ 0 := by omega
        simp only [h3, h5, h6, decide_true, decide_false, Bool.false_and, Bool.true_and, Bool.false_or]
        cases n.testBit (A - 1 - k)
        · simp
        · obtain ⟨d, hd⟩ := Nat.exists_eq_succ_of_ne_zero h7
          rw [hd]
          simp [Nat.testBit_succ]
theorem rvp_inv {A n : Nat} (hn : n < 2 ^ A) : rvp A (rvp A n A) A = n := by
  refine Nat.eq_of_testBit_eq fun j => ?_
  rw [rvp_bit, rvp_bit]
  by_cases h : j < A
  · have h1 : A - 1 - j < A := by omega
    have h2 : A - 1 - (A - 1 - j) = j := by omega
    simp [h, h1, h2]
  · simp only [h, decide_false, Bool.false_and]
    exact (Nat.testBit_lt_two_pow (Nat.lt_of_lt_of_le hn (Nat.pow_le_pow_right (by decide) (by omega)))).symm
theorem cnB_len (p : Nat → Bool) : ∀ N, cnB p N = ((List.range N).filter p).length := by
  intro N
  induction N with
  | zero => rfl
  | succ N ih =>
    rw [cnB_s, ih, List.range_succ, List.filter_append, List.length_append]
    cases h : p N <;> simp [h]
theorem nd_map {f : Nat → Nat} : ∀ {l : List Nat}, l.Nodup → (∀ a, a ∈ l → ∀ b, b ∈ l → f a = f b → a = b) → (l.map f).Nodup := by
  intro l
  induction l with
  | nil => exact fun _ _ => List.nodup_nil
  | cons x t ih =>
    intro hl hi
    have h1 := List.nodup_cons.mp hl
    rw [List.map_cons, List.nodup_cons]
    refine ⟨fun z => ?_, ih h1.2 fun a ha b hb => hi a (List.mem_cons_of_mem _ ha) b (List.mem_cons_of_mem _ hb)⟩
    obtain ⟨y, hy, e⟩ := List.mem_map.mp z
    have := hi y (List.mem_cons_of_mem _ hy) x List.mem_cons_self e
    exact h1.1 (this ▸ hy)
theorem cnB_rv {A : Nat} (p : Nat → Bool) : cnB (fun n => p (rvp A n A)) (2 ^ A) = cnB p (2 ^ A) := by
  rw [cnB_len, cnB_len, ← List.length_map (f := fun n => rvp A n A)]
  refine nd_len (nd_map (List.nodup_range.filter _) fun a ha b hb e => ?_) (List.nodup_range.filter _) fun e => ?_
  · have h1 := List.mem_range.mp (List.mem_filter.mp ha).1
    have h2 := List.mem_range.mp (List.mem_filter.mp hb).1
    rw [← rvp_inv h1, ← rvp_inv h2]
    exact congrArg (fun n => rvp A n A) e
  · rw [List.mem_map, List.mem_filter, List.mem_range]
    constructor
    · rintro ⟨n, hn, rfl⟩
      exact ⟨rvp_lt A n A, (List.mem_filter.mp hn).2⟩
    · rintro ⟨h1, h2⟩
      exact ⟨rvp A e A, List.mem_filter.mpr ⟨List.mem_range.mpr (rvp_lt A e A), by rw [rvp_inv h1]; exact h2⟩, rvp_inv h1⟩
