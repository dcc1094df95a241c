/-! ===== Long.bitCount counts bits ===== -/
def lcu (a : Int64) (b : Int32) : Int64 := (a.toUInt64 >>> (b.toInt64.toUInt64 &&& Int64.toUInt64 63)).toInt64
def lc1 (x : Int64) : Int64 := x - (lcu x (nI 1) &&& 6148914691236517205)
def lc2 (a : Int64) : Int64 := (a &&& 3689348814741910323) + (lcu a (nI 2) &&& 3689348814741910323)
def lc3 (b : Int64) : Int64 := (b + lcu b (nI 4)) &&& 1085102592571150095
def lc4 (c : Int64) : Int64 := c + lcu c (nI 8)
def lc5 (d : Int64) : Int64 := d + lcu d (nI 16)
def lc6 (e : Int64) : Int64 := e + lcu e (nI 32)
def lcJ (x : Int64) : Int32 := (lc6 (lc5 (lc4 (lc3 (lc2 (lc1 x)))))).toInt32 &&& nI 127
theorem c_lbitCount {K : gK} {h : gH} (hst : K.1.stackTraces = false) (x : Int64) : Ct K r_Lng_bitCount M_Lng_bitCount [.long x] h (gRt (some (.int (lcJ x))) h) := by
  refine Ct.of hst (by decide) (Or.inl rfl) (Nat.le_of_ble_eq_true rfl) ?_
  refine g_lload_n d_Lng_bitCount_0 rfl ?_
  refine g_lload_n d_Lng_bitCount_1 rfl ?_
  refine g_iconst (v := nI 1) d_Lng_bitCount_2 (by decide) ?_
  refine g_lushr d_Lng_bitCount_3 ?_
  refine g_ldc2 d_Lng_bitCount_4 k_Lng_314 ?_
  refine g_land d_Lng_bitCount_7 ?_
  refine g_lsub d_Lng_bitCount_8 ?_
  refine g_lstore_n d_Lng_bitCount_9 rfl (Nat.le_of_ble_eq_true rfl) rfl ?_
  refine g_lload_n d_Lng_bitCount_10 rfl ?_
  refine g_ldc2 d_Lng_bitCount_11 k_Lng_316 ?_
  refine g_land d_Lng_bitCount_14 ?_
  refine g_lload_n d_Lng_bitCount_15 rfl ?_
  refine g_iconst (v := nI 2) d_Lng_bitCount_16 (by decide) ?_
  refine g_lushr d_Lng_bitCount_17 ?_
  refine g_ldc2 d_Lng_bitCount_18 k_Lng_316 ?_
  refine g_land d_Lng_bitCount_21 ?_
  refine g_ladd d_Lng_bitCount_22 ?_
  refine g_lstore_n d_Lng_bitCount_23 rfl (Nat.le_of_ble_eq_true rfl) rfl ?_
  refine g_lload_n d_Lng_bitCount_24 rfl ?_
  refine g_lload_n d_Lng_bitCount_25 rfl ?_
  refine g_iconst (v := nI 4) d_Lng_bitCount_26 (by decide) ?_
  refine g_lushr d_Lng_bitCount_27 ?_
  refine g_ladd d_Lng_bitCount_28 ?_
  refine g_ldc2 d_Lng_bitCount_29 k_Lng_318 ?_
  refine g_land d_Lng_bitCount_32 ?_
  refine g_lstore_n d_Lng_bitCount_33 rfl (Nat.le_of_ble_eq_true rfl) rfl ?_
  refine g_lload_n d_Lng_bitCount_34 rfl ?_
  refine g_lload_n d_Lng_bitCount_35 rfl ?_
  refine g_bipush (v := nI 8) d_Lng_bitCount_36 (by decide) ?_
  refine g_lushr d_Lng_bitCount_38 ?_
  refine g_ladd d_Lng_bitCount_39 ?_
  refine g_lstore_n d_Lng_bitCount_40 rfl (Nat.le_of_ble_eq_true rfl) rfl ?_
  refine g_lload_n d_Lng_bitCount_41 rfl ?_
  refine g_lload_n d_Lng_bitCount_42 rfl ?_
  refine g_bipush (v := nI 16) d_Lng_bitCount_43 (by decide) ?_
  refine g_lushr d_Lng_bitCount_45 ?_
  refine g_ladd d_Lng_bitCount_46 ?_
  refine g_lstore_n d_Lng_bitCount_47 rfl (Nat.le_of_ble_eq_true rfl) rfl ?_
  refine g_lload_n d_Lng_bitCount_48 rfl ?_
  refine g_lload_n d_Lng_bitCount_49 rfl ?_
  refine g_bipush (v := nI 32) d_Lng_bitCount_50 (by decide) ?_
  refine g_lushr d_Lng_bitCount_52 ?_
  refine g_ladd d_Lng_bitCount_53 ?_
  refine g_lstore_n d_Lng_bitCount_54 rfl (Nat.le_of_ble_eq_true rfl) rfl ?_
  refine g_lload_n d_Lng_bitCount_55 rfl ?_
  refine g_l2i d_Lng_bitCount_56 ?_
  refine g_bipush (v := nI 127) d_Lng_bitCount_57 (by decide) ?_
  refine g_iand d_Lng_bitCount_59 ?_
  exact g_ret_i d_Lng_bitCount_60 rfl rfl ⟨rfl, rfl⟩
/-- how many of the first n are so -/
def cnB (p : Nat → Bool) : Nat → Nat
  | 0 => 0
  | n + 1 => cnB p n + (if p n then 1 else 0)
theorem cnB_le (p : Nat → Bool) : ∀ n, cnB p n ≤ n := by
  intro n
  induction n with
  | zero => exact Nat.le_refl _
  | succ n ih => unfold cnB; split <;> omega
theorem cnB_congr {p q : Nat → Bool} : ∀ {n : Nat}, (∀ i, i < n → p i = q i) → cnB p n = cnB q n := by
  intro n
  induction n with
  | zero => intro _; rfl
  | succ n ih =>
    intro h
    unfold cnB
    rw [ih (fun i hi => h i (by omega)), h n (by omega)]
theorem cnB_s (p : Nat → Bool) (n : Nat) : cnB p (n + 1) = cnB p n + (if p n then 1 else 0) := rfl
theorem cnB_add (p : Nat → Bool) (a : Nat) : ∀ b, cnB p (a + b) = cnB p a + cnB (fun i => p (a + i)) b := by
  intro b
  induction b with
  | zero => rfl
  | succ b ih =>
    rw [← Nat.add_assoc, cnB_s, cnB_s, ih, Nat.add_assoc]
theorem land_split {p q r s : Nat} (hq : q < 256) (hs : s < 256) : (256 * p + q) &&& (256 * r + s) = 256 * (p &&& r) + (q &&& s) := by
  have hq' : q < 2 ^ 8 := hq
  have hs' : s < 2 ^ 8 := hs
  have ha : q &&& s < 2 ^ 8 := Nat.lt_of_le_of_lt Nat.and_le_left hq'
  apply Nat.eq_of_testBit_eq
  intro i
  rw [Nat.testBit_and, show (256 : Nat) = 2 ^ 8 by rfl, Nat.testBit_two_pow_mul_add _ hq', Nat.testBit_two_pow_mul_add _ hs', Nat.testBit_two_pow_mul_add _ ha]
  split
  · rw [Nat.testBit_and]
  · rw [Nat.testBit_and]
/-- a byte k times, and a function byte by byte -/
def mkB (s : Nat) : Nat → Nat
  | 0 => 0
  | k + 1 => 256 * mkB s k + s
def bwB (f : Nat → Nat) : Nat → Nat → Nat
  | 0, _ => 0
  | k + 1, n => 256 * bwB f k (n / 256) + f (n % 256)
theorem mkB_s (s k : Nat) : mkB s (k + 1) = 256 * mkB s k + s := rfl
theorem bwB_s (f : Nat → Nat) (k n : Nat) : bwB f (k + 1) n = 256 * bwB f k (n / 256) + f (n % 256) := rfl
def s1B (b : Nat) : Nat := b - (b / 2 &&& 85)
def s2B (a : Nat) : Nat := (a &&& 51) + (a / 4 &&& 51)
def s3B (b : Nat) : Nat := (b + b / 16) &&& 15
theorem s1B_ok : ∀ b, b < 256 → s1B b < 256 ∧ (b / 2 &&& 85) ≤ b ∧ ((b / 2 + 128) &&& 85) = (b / 2 &&& 85) := by decide +kernel
theorem s2B_ok : ∀ a, a < 256 → s2B a < 256 ∧ (a / 4 + 64) &&& 51 = a / 4 &&& 51 ∧ (a / 4 + 128) &&& 51 = a / 4 &&& 51 ∧ (a / 4 + 192) &&& 51 = a / 4 &&& 51 := by decide +kernel
theorem s12_ok : ∀ b, b < 256 → s2B (s1B b) ≤ 68 ∧ s2B (s1B b) % 16 ≤ 4 ∧ s3B (s2B (s1B b)) = cnB (fun i => b.testBit i) 8 := by decide +kernel
theorem st1 : ∀ k n, n < 256 ^ k → (n / 2 &&& mkB 85 k) ≤ n ∧ n - (n / 2 &&& mkB 85 k) = bwB s1B k n := by
  intro k
  induction k with
  | zero =>
    intro n hn
    have : n = 0 := by simpa using hn
    subst this
    exact ⟨by decide, by decide⟩
  | succ k ih =>
    intro n hn
    have hlt : n / 256 < 256 ^ k := by
      rw [Nat.pow_succ] at hn
      omega
    obtain ⟨i1, i2⟩ := ih (n / 256) hlt
    have hb : n % 256 < 256 := Nat.mod_lt _ (by decide)
    obtain ⟨b1, b2, b3⟩ := s1B_ok (n % 256) hb
    have e1 : n / 2 = 256 * (n / 256 / 2) + (n % 256 / 2 + 128 * (n / 256 % 2)) := by omega
    have e2 : (n % 256 / 2 + 128 * (n / 256 % 2)) &&& 85 = n % 256 / 2 &&& 85 := by
      rcases (show n / 256 % 2 = 0 ∨ n / 256 % 2 = 1 by omega) with z | z
      · rw [z, Nat.mul_zero, Nat.add_zero]
      · rw [z, Nat.mul_one]
        exact b3
    have e3 : n / 2 &&& mkB 85 (k + 1) = 256 * (n / 256 / 2 &&& mkB 85 k) + (n % 256 / 2 &&& 85) := by
      rw [e1, mkB_s, land_split (by omega) (by decide), e2]
    rw [e3, bwB_s, ← i2]
    unfold s1B
    omega
theorem bwB_parts {f : Nat → Nat} (hf : ∀ b, b < 256 → f b < 256) (k n : Nat) : bwB f (k + 1) n / 256 = bwB f k (n / 256) ∧ bwB f (k + 1) n % 256 = f (n % 256) := by
  have := hf (n % 256) (Nat.mod_lt _ (by decide))
  rw [bwB_s]
  omega
theorem st2 {f : Nat → Nat} (hf : ∀ b, b < 256 → f b < 256) : ∀ k n, (bwB f k n &&& mkB 51 k) + (bwB f k n / 4 &&& mkB 51 k) = bwB (fun b => s2B (f b)) k n := by
  intro k
  induction k with
  | zero => intro n; simp [bwB, mkB]
  | succ k ih =>
    intro n
    have hb : n % 256 < 256 := Nat.mod_lt _ (by decide)
    have hq := hf (n % 256) hb
    obtain ⟨b1, b2, b3, b4⟩ := s2B_ok _ hq
    have i1 := ih (n / 256)
    generalize hm : bwB f k (n / 256) = m at i1
    have e0 : bwB f (k + 1) n = 256 * m + f (n % 256) := by
      rw [bwB_s, hm]
    have e1 : (256 * m + f (n % 256)) / 4 = 256 * (m / 4) + (f (n % 256) / 4 + 64 * (m % 4)) := by omega
    have e2 : (f (n % 256) / 4 + 64 * (m % 4)) &&& 51 = f (n % 256) / 4 &&& 51 := by
      rcases (show m % 4 = 0 ∨ m % 4 = 1 ∨ m % 4 = 2 ∨ m % 4 = 3 by omega) with z | z | z | z
      · rw [z, Nat.mul_zero, Nat.add_zero]
      · rw [z]; exact b2
      · rw [z]; exact b3
      · rw [z]; exact b4
    rw [e0, e1, mkB_s, land_split hq (by decide), land_split (by omega) (by decide), e2, bwB_s, ← i1]
    unfold s2B
    omega
theorem st3 {f : Nat → Nat} (hf : ∀ b, b < 256 → f b ≤ 68 ∧ f b % 16 ≤ 4) : ∀ k n, (bwB f k n + bwB f k n / 16) &&& mkB 15 k = bwB (fun b => s3B (f b)) k n := by
  intro k
  induction k with
  | zero => intro n; simp [bwB, mkB]
  | succ k ih =>
    intro n
    have hb : n % 256 < 256 := Nat.mod_lt _ (by decide)
    obtain ⟨hq, hq2⟩ := hf (n % 256) hb
    have i1 := ih (n / 256)
    have hm4 : bwB f k (n / 256) % 16 ≤ 4 := by
      cases k with
      | zero => exact Nat.zero_le _
      | succ k =>
        have := (hf (n / 256 % 256) (Nat.mod_lt _ (by decide))).2
        rw [bwB_s]
        omega
    generalize hm : bwB f k (n / 256) = m at i1 hm4
    have e0 : bwB f (k + 1) n = 256 * m + f (n % 256) := by
      rw [bwB_s, hm]
    have e1 : (256 * m + f (n % 256)) + (256 * m + f (n % 256)) / 16 = 256 * (m + m / 16) + (f (n % 256) + f (n % 256) / 16 + 16 * (m % 16)) := by omega
    have e2 : (f (n % 256) + f (n % 256) / 16 + 16 * (m % 16)) &&& 15 = (f (n % 256) + f (n % 256) / 16) &&& 15 := by
      rw [Nat.and_two_pow_sub_one_eq_mod _ 4, Nat.and_two_pow_sub_one_eq_mod _ 4]
      omega
    rw [e0, e1, mkB_s, land_split (by omega) (by decide), e2, i1]
    rfl
def sumB (f : Nat → Nat) : Nat → Nat → Nat
  | 0, _ => 0
  | k + 1, n => f (n % 256) + sumB f k (n / 256)
theorem bits_bytes : ∀ k n, cnB (fun i => n.testBit i) (8 * k) = sumB (fun b => cnB (fun i => b.testBit i) 8) k n := by
  intro k
  induction k with
  | zero => intro n; rfl
  | succ k ih =>
    intro n
    rw [Nat.mul_succ, Nat.add_comm, cnB_add]
    show _ = cnB (fun i => (n % 256).testBit i) 8 + sumB _ k (n / 256)
    rw [← ih (n / 256)]
    congr 1
    · refine cnB_congr (fun i hi => ?_)
      rw [show (256 : Nat) = 2 ^ 8 by rfl, Nat.testBit_mod_two_pow]
      simp [hi]
    · refine cnB_congr (fun i hi => ?_)
      rw [show (256 : Nat) = 2 ^ 8 by rfl, Nat.testBit_div_two_pow, Nat.add_comm]
theorem congr_bw {f g : Nat → Nat} (h : ∀ b, b < 256 → f b = g b) : ∀ k n, bwB f k n = bwB g k n := by
  intro k
  induction k with
  | zero => intro n; rfl
  | succ k ih =>
    intro n
    rw [bwB_s, bwB_s, ih, h _ (Nat.mod_lt _ (by decide))]
theorem bw_lt {f : Nat → Nat} (hf : ∀ b, b < 256 → f b < 256) : ∀ k n, bwB f k n < 256 ^ k := by
  intro k
  induction k with
  | zero => intro n; exact Nat.one_pos
  | succ k ih =>
    intro n
    rw [bwB_s, Nat.pow_succ]
    have := ih (n / 256)
    have := hf (n % 256) (Nat.mod_lt _ (by decide))
    omega
theorem bw_top {f : Nat → Nat} (hf : ∀ b, b < 256 → f b ≤ 68) : ∀ k n, bwB f (k + 1) n < 69 * 256 ^ k := by
  intro k
  induction k with
  | zero =>
    intro n
    have := hf (n % 256) (Nat.mod_lt _ (by decide))
    rw [bwB_s]
    show 256 * 0 + _ < _
    omega
  | succ k ih =>
    intro n
    have h1 := ih (n / 256)
    have h2 := hf (n % 256) (Nat.mod_lt _ (by decide))
    rw [bwB_s, Nat.pow_succ]
    omega
theorem dv1 {p R : Nat} (h : p < 256) : (p + 256 * R) / 256 = R := by omega
theorem dv2 {p R : Nat} (h : p < 65536) : (p + 65536 * R) / 65536 = R := by omega
theorem dv3 {p R : Nat} (h : p < 4294967296) : (p + 4294967296 * R) / 4294967296 = R := by omega
theorem dv4 {p R : Nat} (h : p < 128) : (p + 256 * R) % 128 = p := by omega
/-- eight small digits, folded three times -/
theorem fold8 {p0 p1 p2 p3 p4 p5 p6 p7 c d e : Nat} (b0 : p0 + p1 + p2 + p3 ≤ 32) (b1 : p4 + p5 + p6 + p7 ≤ 32)
    (hc : c = p0 + 256 * (p1 + 256 * (p2 + 256 * (p3 + 256 * (p4 + 256 * (p5 + 256 * (p6 + 256 * p7))))))) (hd : d = c + c / 256) (he : e = d + d / 65536) :
    (e + e / 4294967296) % 128 = p0 + p1 + p2 + p3 + p4 + p5 + p6 + p7 ∧ e + e / 4294967296 < 2 ^ 63 := by
  have e1 : c / 256 = p1 + 256 * (p2 + 256 * (p3 + 256 * (p4 + 256 * (p5 + 256 * (p6 + 256 * p7))))) := by
    rw [hc]
    exact dv1 (by clear hc hd he; omega)
  have d0 : d = ((p0 + p1) + 256 * (p1 + p2)) + 65536 * ((p2 + p3) + 256 * ((p3 + p4) + 256 * ((p4 + p5) + 256 * ((p5 + p6) + 256 * ((p6 + p7) + 256 * p7))))) := by
    rw [hd, e1, hc]
    clear e1 hc hd he b0 b1
    omega
  have e2 : d / 65536 = (p2 + p3) + 256 * ((p3 + p4) + 256 * ((p4 + p5) + 256 * ((p5 + p6) + 256 * ((p6 + p7) + 256 * p7)))) := by
    rw [d0]
    exact dv2 (by clear e1 d0 hc hd he; omega)
  have e0 : e = ((p0 + p1 + p2 + p3) + 256 * ((p1 + p2 + p3 + p4) + 256 * ((p2 + p3 + p4 + p5) + 256 * (p3 + p4 + p5 + p6)))) + 4294967296 * ((p4 + p5 + p6 + p7) + 256 * ((p5 + p6 + p7) + 256 * ((p6 + p7) + 256 * p7))) := by
    rw [he, e2, d0]
    clear e1 e2 d0 hc hd he b0 b1
    omega
  have e3 : e / 4294967296 = (p4 + p5 + p6 + p7) + 256 * ((p5 + p6 + p7) + 256 * ((p6 + p7) + 256 * p7)) := by
    rw [e0]
    exact dv3 (by clear e1 e2 e0 d0 hc hd he; omega)
  have e4 : e + e / 4294967296 = (p0 + p1 + p2 + p3 + p4 + p5 + p6 + p7) + 256 * ((p1 + p2 + p3 + p4 + p5 + p6 + p7) + 256 * ((p2 + p3 + p4 + p5 + p6 + p7) + 256 * ((p3 + p4 + p5 + p6 + p7) + 256 * ((p4 + p5 + p6 + p7) + 256 * ((p5 + p6 + p7) + 256 * ((p6 + p7) + 256 * p7)))))) := by
    rw [e3, e0]
    clear e1 e2 e3 e0 d0 hc hd he b0 b1
    omega
  rw [e4]
  clear e1 e2 e3 e4 e0 d0 hc hd he
  exact ⟨dv4 (by omega), by omega⟩
theorem fold_bw {f : Nat → Nat} (hf : ∀ b, f b ≤ 8) (n : Nat) {c d e : Nat} (hc : c = bwB f 8 n) (hd : d = c + c / 256) (he : e = d + d / 65536) : (e + e / 4294967296) % 128 = sumB f 8 n ∧ e + e / 4294967296 < 2 ^ 63 := by
  have h0 := hf (n % 256)
  have h1 := hf (n / 256 % 256)
  have h2 := hf (n / 256 / 256 % 256)
  have h3 := hf (n / 256 / 256 / 256 % 256)
  have h4 := hf (n / 256 / 256 / 256 / 256 % 256)
  have h5 := hf (n / 256 / 256 / 256 / 256 / 256 % 256)
  have h6 := hf (n / 256 / 256 / 256 / 256 / 256 / 256 % 256)
  have h7 := hf (n / 256 / 256 / 256 / 256 / 256 / 256 / 256 % 256)
  have key := fold8 (c := c) (d := d) (e := e) (p0 := f (n % 256)) (p1 := f (n / 256 % 256)) (p2 := f (n / 256 / 256 % 256)) (p3 := f (n / 256 / 256 / 256 % 256)) (p4 := f (n / 256 / 256 / 256 / 256 % 256)) (p5 := f (n / 256 / 256 / 256 / 256 / 256 % 256)) (p6 := f (n / 256 / 256 / 256 / 256 / 256 / 256 % 256)) (p7 := f (n / 256 / 256 / 256 / 256 / 256 / 256 / 256 % 256))
    (Nat.add_le_add (Nat.add_le_add (Nat.add_le_add h0 h1) h2) h3) (Nat.add_le_add (Nat.add_le_add (Nat.add_le_add h4 h5) h6) h7)
    (by rw [hc]; simp only [bwB, Nat.mul_zero, Nat.zero_add]; simp only [Nat.add_comm]) hd he
  refine ⟨key.1.trans ?_, key.2⟩
  simp only [sumB, Nat.add_zero]
  simp only [Nat.add_assoc]
theorem lcu_N {n k : Nat} (hn : n < 2 ^ 64) (hk : k < 64) : lcu (lN n) (nI k) = lN (n / 2 ^ k) := wb_shr hn hk
theorem mk_ok : mkB 85 8 = 6148914691236517205 ∧ mkB 51 8 = 3689348814741910323 ∧ mkB 15 8 = 1085102592571150095 := by decide
/-- Long.bitCount(x): how many bits of x are set -/
theorem lcJ_ok (x : Int64) : lcJ x = nI (cnB (fun i => x.toBitVec.getLsbD i) 64) := by
  obtain ⟨n, hn, rfl⟩ := wb_of x
  have hn8 : n < 256 ^ 8 := by
    have : (256 : Nat) ^ 8 = 2 ^ 64 := by decide
    omega
  obtain ⟨m1, m2, m3⟩ := mk_ok
  have c1 : (6148914691236517205 : Int64) = lN 6148914691236517205 := by decide
  have c2 : (3689348814741910323 : Int64) = lN 3689348814741910323 := by decide
  have c3 : (1085102592571150095 : Int64) = lN 1085102592571150095 := by decide
  obtain ⟨q1, q2⟩ := st1 8 n hn8
  rw [m1] at q1 q2
  have f1 : ∀ b, b < 256 → s1B b < 256 := fun b hb => (s1B_ok b hb).1
  have f2 : ∀ b, b < 256 → s2B (s1B b) ≤ 68 ∧ s2B (s1B b) % 16 ≤ 4 := fun b hb => ⟨(s12_ok b hb).1, (s12_ok b hb).2.1⟩
  have f2' : ∀ b, b < 256 → s2B (s1B b) < 256 := fun b hb => by have := (f2 b hb).1; omega
  have p64 : (256 : Nat) ^ 8 = 2 ^ 64 := by decide
  have a_lt := bw_lt f1 8 n
  have b_lt := bw_lt (f := fun b => s2B (s1B b)) f2' 8 n
  rw [p64] at a_lt b_lt
  have r2 := st2 f1 8 n
  rw [m2] at r2
  have r3 := st3 (f := fun b => s2B (s1B b)) f2 8 n
  rw [m3] at r3
  have r4 : bwB (fun b => s3B (s2B (s1B b))) 8 n = bwB (fun b => cnB (fun i => b.testBit i) 8) 8 n := congr_bw (fun b hb => (s12_ok b hb).2.2) 8 n
  have e1 : lc1 (lN n) = lN (bwB s1B 8 n) := by
    unfold lc1
    rw [lcu_N hn (by decide), c1, wb_and (by omega) (by decide), lN_sub q1]
    rw [← q2]
  have e2 : lc2 (lN (bwB s1B 8 n)) = lN (bwB (fun b => s2B (s1B b)) 8 n) := by
    unfold lc2
    rw [lcu_N a_lt (by decide), c2, wb_and a_lt (by decide), wb_and (by omega) (by decide), lN_add]
    rw [← r2]
  have hb2 : bwB (fun b => s2B (s1B b)) 8 n + bwB (fun b => s2B (s1B b)) 8 n / 2 ^ 4 < 2 ^ 64 := by
    have hh := bw_top (f := fun b => s2B (s1B b)) (fun b hb => (f2 b hb).1) 7 n
    have h9 : 69 * 256 ^ 7 + 69 * 256 ^ 7 / 2 ^ 4 < 2 ^ 64 := by decide
    exact Nat.lt_of_le_of_lt (Nat.add_le_add (Nat.le_of_lt hh) (Nat.div_le_div_right (Nat.le_of_lt hh))) h9
  have e3 : lc3 (lN (bwB (fun b => s2B (s1B b)) 8 n)) = lN (bwB (fun b => cnB (fun i => b.testBit i) 8) 8 n) := by
    unfold lc3
    rw [lcu_N b_lt (by decide), c3, lN_add, wb_and hb2 (by decide), ← r4, ← r3]
  unfold lcJ
  rw [e1, e2, e3]
  have hf8 : ∀ b : Nat, cnB (fun i => b.testBit i) 8 ≤ 8 := fun b => cnB_le _ 8
  obtain ⟨c, hc⟩ : ∃ c, c = bwB (fun b => cnB (fun i => b.testBit i) 8) 8 n := ⟨_, rfl⟩
  obtain ⟨d, hd⟩ : ∃ d, d = c + c / 256 := ⟨_, rfl⟩
  obtain ⟨e, he⟩ : ∃ e, e = d + d / 65536 := ⟨_, rfl⟩
  obtain ⟨g1, g2⟩ := fold_bw (f := fun b => cnB (fun i => b.testBit i) 8) hf8 n hc hd he
  have hcnt : cnB (fun i => (lN n).toBitVec.getLsbD i) 64 = sumB (fun b => cnB (fun i => b.testBit i) 8) 8 n := by
    rw [← bits_bytes 8 n]
    refine cnB_congr (fun i hi => ?_)
    rw [wb_tb, BitVec.getLsbD_ofNat]
    have hi' : i < 64 := hi
    simp [hi']
  rw [hcnt, ← g1, ← hc]
  have k3 : e < 2 ^ 63 := Nat.lt_of_le_of_lt (Nat.le_add_right _ _) g2
  have k2 : d < 2 ^ 63 := Nat.lt_of_le_of_lt (Nat.le_add_right d (d / 65536)) (he ▸ k3)
  have k1 : c < 2 ^ 63 := Nat.lt_of_le_of_lt (Nat.le_add_right c (c / 256)) (hd ▸ k2)
  have t63 : (2 : Nat) ^ 63 < 2 ^ 64 := by decide
  unfold lc6 lc5 lc4
  rw [lcu_N (Nat.lt_trans k1 t63) (by decide), lN_add, ← show d = c + c / 2 ^ 8 from hd, lcu_N (Nat.lt_trans k2 t63) (by decide), lN_add, ← show e = d + d / 2 ^ 16 from he, lcu_N (Nat.lt_trans k3 t63) (by decide), lN_add, lN_i, pk_and _ 7 (by decide)]
  congr 1
  show (BitVec.ofNat 32 _).toNat % 2 ^ 7 = _
  rw [BitVec.toNat_ofNat]
  show (e + e / 4294967296) % 2 ^ 32 % 2 ^ 7 = (e + e / 4294967296) % 128
  exact Nat.mod_mod_of_dvd _ (by decide)
