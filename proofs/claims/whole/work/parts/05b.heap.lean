section GOHEAP
variable {K : gK} {M : gM} {R : Room} {pc : Nat} {lv : List (Nat × Value)} {st : List Value} {h : gH} {kc ks : Nat} {Q : Outcome → gH → Prop}
/-- class ci is C with N fields as T tells -/
def gOK (ci : Nat) (C : String) (T : u_T) (N : Nat) (ty : Nat → FieldType) : Prop := gcl[ci]? = some (C, T, N) ∧ (∀ w ∈ u_ws C T N, w ∈ gW) ∧ (∀ k, k < N → parseFieldDescriptor (T k).2.2.1 = some (ty k)) ∧ (∀ a, a < N → ∀ b, b < N → a ≠ b → (T a).2.1 ≠ (T b).2.1) ∧ ∀ k, k < N → (T k).1 = C
/-- entry idx of own's pool is field k of class ci, of type t, final or not -/
def gFd (own : String) (idx ci k : Nat) (t : FieldType) (fin : Bool) : Prop := ∃ (C : String) (T : u_T) (N : Nat) (ty : Nat → FieldType), gOK ci C T N ty ∧ k < N ∧ ty k = t ∧ (T k).2.2.2 = fin ∧ (Cond.fieldLink own idx C (T k).2.1 (T k).2.2.1 ∈ gW ∨ ∃ host, Cond.fieldLinkNest own idx C (T k).2.1 (T k).2.2.1 host ∈ gNF)
theorem va_P1 {D : va_G} {cl : List vw_C} {q : Nat × va_E} {H : Heap} (hq : va_at D cl q H) : va_P D cl [q] H := fun k x hk => by
  cases k with
  | zero => cases hk; exact hq
  | succ k => cases hk
theorem g_ret_i {x : Int32} {ty : FieldType} (hd : decode M.2.1 pc = .ok (.ireturn, 1)) (hr : M.2.2.2.1 = some ty) (hn : narrow ty (.int x) = .int x) (hq : Q (.returned (some (.int x))) h) : Go K M R pc lv [.int x] h kc ks Q := by
  intro p e s m args below meth c Z H locs cells slots ls C N hP hS hl h1 h2
  exact N.1 (some (.int x)) h H locs cells slots ls pc hq hP hS (by omega) (by omega) (Or.inl ⟨x, ty, hd, hr, hn, rfl⟩)
theorem g_ret_v (hd : decode M.2.1 pc = .ok (.return_, 1)) (hr : M.2.2.2.1 = none) (hq : Q (.returned none) h) : Go K M R pc lv [] h kc ks Q := by
  intro p e s m args below meth c Z H locs cells slots ls C N hP hS hl h1 h2
  exact N.1 none h H locs cells slots ls pc hq hP hS (by omega) (by omega) (Or.inr (Or.inl ⟨hd, hr, rfl⟩))
theorem g_ret_l {x : Int64} (hd : decode M.2.1 pc = .ok (.lreturn, 1)) (hr : M.2.2.2.1 = some .long) (hq : Q (.returned (some (.long x))) h) : Go K M R pc lv [.long x] h kc ks Q := by
  intro p e s m args below meth c Z H locs cells slots ls C N hP hS hl h1 h2
  exact N.1 (some (.long x)) h H locs cells slots ls pc hq hP hS (by omega) (by omega) (Or.inr (Or.inr (Or.inl ⟨x, hd, hr, rfl⟩)))
theorem g_ret_a {a : Nat} {n : String} (hd : decode M.2.1 pc = .ok (.areturn, 1)) (hr : M.2.2.2.1 = some (.object n)) (hq : Q (.returned (some (.ref a))) h) : Go K M R pc lv [.ref a] h kc ks Q := by
  intro p e s m args below meth c Z H locs cells slots ls C N hP hS hl h1 h2
  exact N.1 (some (.ref a)) h H locs cells slots ls pc hq hP hS (by omega) (by omega) (Or.inr (Or.inr (Or.inr ⟨a, n, hd, hr, rfl⟩)))
/-- fewer locals, another post, another pc's spelling -/
theorem g_sub {lv' : List (Nat × Value)} (hs : ∀ q ∈ lv', q ∈ lv) (k : Go K M R pc lv' st h kc ks Q) : Go K M R pc lv st h kc ks Q := by
  intro p e s m args below meth c Z H locs cells slots ls C N hP hS hl h1 h2
  exact k p e s m args below meth c Z H locs cells slots ls C N hP hS ⟨hl.1, hl.2.1, fun q hq => hl.2.2 q (hs q hq)⟩ h1 h2
theorem g_post {Q' : Outcome → gH → Prop} (hq : ∀ o h', Q' o h' → Q o h') (k : Go K M R pc lv st h kc ks Q') : Go K M R pc lv st h kc ks Q := by
  intro p e s m args below meth c Z H locs cells slots ls C N hP hS hl h1 h2
  exact k p e s m args below meth c Z H locs cells slots ls C ⟨fun v h' H locs cells slots ls pc q => N.1 v h' H locs cells slots ls pc (hq _ _ q), fun a h' T locs cells slots g q => N.2.1 a h' T locs cells slots g (hq _ _ q), fun a h' U locs cells slots q => N.2.2 a h' U locs cells slots (hq _ _ q)⟩ hP hS hl h1 h2
theorem g_h {h' : gH} (he : h = h') (k : Go K M R pc lv st h' kc ks Q) : Go K M R pc lv st h kc ks Q := he ▸ k
theorem g_less {kc' ks' : Nat} (hc : kc' ≤ kc) (hs : ks' ≤ ks) (k : Go K M R pc lv st h kc' ks' Q) : Go K M R pc lv st h kc ks Q := by
  intro p e s m args below meth c Z H locs cells slots ls C N hP hS hl h1 h2
  exact k p e s m args below meth c Z H locs cells slots ls C N hP hS hl (by omega) (by omega)
theorem g_get {ci k idx a : Nat} {t : FieldType} {fin : Bool} {fs : List Value} {v : Value} (hd : decode M.2.1 pc = .ok (.getfield idx, 3)) (hf : gFd M.1.cls idx ci k t fin) (ha : h a = some (.inr (ci, fs))) (hv : fs[k]? = some v) (kk : Go K M R (pc + 3) lv (v :: st) h kc ks Q) : Go K M R pc lv (.ref a :: st) h kc ks Q := by
  intro p e s m args below meth c Z H locs cells slots ls C N hP hS hl h1 h2
  have kk := kk p e s m args below meth c Z H locs cells slots ls C N hP hS hl h1 h2
  obtain ⟨hx, hb, -, -, -, -, hown, -, hT, -⟩ := C
  obtain ⟨Cn, T, n, ty, ⟨o1, o2, o3, o4, o5⟩, hk, ht, hfin, hlk⟩ := hf
  have hP1 : va_P K.2.1 gcl [(a, .inr (ci, fs))] H := va_P1 ((hP.2.2 a _ ha).2)
  have hts : ∀ w ∈ gW, w.before args s = true := fun w hw => gT.word hT hw args
  have hsame : ∀ x, s.fieldFound? (T k).1 (T k).2.1 (T k).2.2.1 = some x → s.fieldFound? Cn (T k).2.1 (T k).2.2.1 = some x := fun x hx => by rw [o5 k hk] at hx; exact hx
  rcases hlk with hlk | ⟨host, hlk⟩
  · exact va_get hx hb hts o2 hown hT.1 hP1 0 rfl o1 k hk (hts _ hlk) hsame hv hd kk
  · exact va_getN hx hb hts o2 hown hT.1 hP1 0 rfl o1 k hk (gT.nest hT hlk args) hsame hv hd kk
theorem g_put {ci k idx a : Nat} {t : FieldType} {fs fs' : List Value} {v : Value} (hd : decode M.2.1 pc = .ok (.putfield idx, 3)) (hf : gFd M.1.cls idx ci k t false) (ha : h a = some (.inr (ci, fs))) (hn : narrow t v = v) (hfit : fits t v = true) (hlen : k < fs.length) (hs : fs.set k v = fs') (kk : Go K M R (pc + 3) lv st (gup h a (.inr (ci, fs'))) kc ks Q) : Go K M R pc lv (v :: .ref a :: st) h kc ks Q := by
  subst hs
  intro p e s m args below meth c Z H locs cells slots ls C N hP hS hl h1 h2
  have kk := fun H locs => kk p e s m args below meth c Z H locs cells slots ls C N
  obtain ⟨hx, hb, -, -, -, -, hown, -, hT, -⟩ := C
  obtain ⟨Cn, T, n, ty, ⟨o1, o2, o3, o4, o5⟩, hk, ht, hfin, hlk⟩ := hf
  have hts : ∀ w ∈ gW, w.before args s = true := fun w hw => gT.word hT hw args
  have hsame : ∀ x, s.fieldFound? (T k).1 (T k).2.1 (T k).2.2.1 = some x → s.fieldFound? Cn (T k).2.1 (T k).2.2.1 = some x := fun x hx => by rw [o5 k hk] at hx; exact hx
  have hap := va_apart (own := M.1.cls) hts o2 ty o3 o4 hT.1 o1
  obtain ⟨hB, r, r1, cell, q1, q2, q3, q4⟩ := hP.2.2 a _ ha
  have hr : r = (Cn, T, n) := Option.some.inj (r1.symm.trans o1)
  subst hr
  obtain ⟨hSl, hfc, kC, hkC, hkind⟩ := hT.1.1 ci _ o1
  obtain ⟨cf, kf, fi, f, hi, hsl⟩ := hSl k hk
  have hlay := hts _ (o2 _ (u_in_lay hk))
  unfold u_lay at hlay
  rw [if_neg (by rw [hfin]; decide)] at hlay
  have hst := (u_facts hfc hkC (u_lays hts o2 hk) hi).1
  have h6 := u_store hfc hkC hkind hlay hi (ht ▸ o3 k hk) hn hfit
  have fin : ∀ H' : Heap, H'[a]? = some (cell.setSlot f.slot v) → H'.size = H.size → (∀ q, q ≠ a → H'[q]? = H[q]?) → W p K.1 e R s m args below meth c H' (locs ++ [⟨a, f.slot⟩]) cells slots Z (F0 m (pc + 3) ls st) := fun H' e1 e2 e3 => by
    rw [hsl] at e1
    exact kk H' _ (hP.set ha (e := .inr (ci, fs.set k v)) ⟨_, o1, t_OB.to (V := updV (vp_V fs) k v) ⟨_, e1, q2, q3, t_set q4 hap hk v⟩ (fun j _ => vp_updV_set hlen v j)⟩ e2 e3) (hS.put e2 e3 hB) hl h1 h2
  rcases hlk with hlk | ⟨host, hlk⟩
  · exact W.putK hx hb (f := f) ⟨hown, hts _ hlk, ⟨_, _, _, hsame _ hi⟩, hst⟩ (by rw [q2]; exact h6) q1 q3 (by rw [hsl]; exact k2_hasslot (q4 k hk)) rfl rfl hd fin
  · exact va_WputK hx hb (f := f) hown (gT.nest hT hlk args) (hsame _ hi) hst (by rw [q2]; exact h6) q1 q3 (by rw [hsl]; exact k2_hasslot (q4 k hk)) rfl rfl hd fin
/-- a final field, in the class's own constructor -/
theorem g_putF {ci k idx a : Nat} {t : FieldType} {fs fs' : List Value} {v : Value} {Cn : String} {T : u_T} {n : Nat} {ty : Nat → FieldType} (hd : decode M.2.1 pc = .ok (.putfield idx, 3)) (hok : gOK ci Cn T n ty) (hk : k < n) (ht : ty k = t) (hfin : (T k).2.2.2 = true) (hlk : Cond.fieldLink M.1.cls idx Cn (T k).2.1 (T k).2.2.1 ∈ gW) (hin : M.1.name = "<init>") (hC : M.1.cls = Cn) (ha : h a = some (.inr (ci, fs))) (hn : narrow t v = v) (hfit : fits t v = true) (hlen : k < fs.length) (hs : fs.set k v = fs') (kk : Go K M R (pc + 3) lv st (gup h a (.inr (ci, fs'))) kc ks Q) : Go K M R pc lv (v :: .ref a :: st) h kc ks Q := by
  subst hs
  intro p e s m args below meth c Z H locs cells slots ls C N hP hS hl h1 h2
  have kk := fun H locs => kk p e s m args below meth c Z H locs cells slots ls C N
  obtain ⟨hx, hb, -, -, -, hnm, hown, -, hT, -⟩ := C
  obtain ⟨o1, o2, o3, o4, o5⟩ := hok
  have hts : ∀ w ∈ gW, w.before args s = true := fun w hw => gT.word hT hw args
  have hsame : ∀ x, s.fieldFound? (T k).1 (T k).2.1 (T k).2.2.1 = some x → s.fieldFound? Cn (T k).2.1 (T k).2.2.1 = some x := fun x hx => by rw [o5 k hk] at hx; exact hx
  have hap := va_apart (own := M.1.cls) hts o2 ty o3 o4 hT.1 o1
  obtain ⟨hB, r, r1, cell, q1, q2, q3, q4⟩ := hP.2.2 a _ ha
  have hr : r = (Cn, T, n) := Option.some.inj (r1.symm.trans o1)
  subst hr
  obtain ⟨hSl, hfc, kC, hkC, hkind⟩ := hT.1.1 ci _ o1
  obtain ⟨cf, kf, fi, f, hi, hsl⟩ := hSl k hk
  have hlay := hts _ (o2 _ (u_in_lay hk))
  unfold u_lay at hlay
  rw [if_pos hfin] at hlay
  have hst := (u_facts hfc hkC (u_lays hts o2 hk) hi).1
  have hcf : m.cls = cf := by
    obtain ⟨_, _, c', _, _, _, -, -, hf', -, -, -, hown2, -⟩ := Cond.laysFinal_spec hlay
    have e1 : c' = cf := by have := hi.symm.trans hf'; simp at this; exact this.1.symm
    rw [o5 k hk, ← hC] at hown2
    rw [← e1]; exact Option.some.inj (hown.symm.trans hown2)
  have h6 := u_fits hfc hkC hkind (Or.inr hlay) hi (ht ▸ o3 k hk) hn hfit
  refine W.putFinK hx hb hown (hts _ hlk) (hsame _ hi) hst hcf (hnm.trans hin) (by rw [q2]; exact h6) q1 q3 (by rw [hsl]; exact k2_hasslot (q4 k hk)) rfl rfl hd fun H' e1 e2 e3 => ?_
  rw [hsl] at e1 ⊢
  exact kk H' _ (hP.set ha (e := .inr (ci, fs.set k v)) ⟨_, o1, t_OB.to (V := updV (vp_V fs) k v) ⟨_, e1, q2, q3, t_set q4 hap hk v⟩ (fun j _ => vp_updV_set hlen v j)⟩ e2 e3) (hS.put e2 e3 hB) hl h1 h2
/-! arrays: kinds 0 int, 1 long, 2 char, 3 boolean, 4 and 5 references -/
theorem g_alen {t n a : Nat} {x : (Nat → Int32) ⊕ (Nat → Int64) ⊕ (Nat → UInt32) ⊕ (Nat → UInt64) ⊕ (Nat → Option Nat)} (hd : decode M.2.1 pc = .ok (.arraylength, 1)) (ht : t < 6) (ha : h a = some (.inl (t, n, x))) (kk : Go K M R (pc + 1) lv (.int (nI n) :: st) h kc ks Q) : Go K M R pc lv (.ref a :: st) h kc ks Q := by
  intro p e s m args below meth c Z H locs cells slots ls C N hP hS hl h1 h2
  have hP1 : va_P K.2.1 gcl [(a, .inl (K.2.2.1 t, n, x))] H := va_P1 ((hP.2.2 a _ ha).2)
  have kk := kk p e s m args below meth c Z H locs cells slots ls C N hP hS hl h1 h2
  obtain ⟨hx, hb, -, -, -, -, hown, -, hT, -⟩ := C
  obtain ⟨ty, hty⟩ := gtys_at K.2.2.1 ht
  exact va_alen hx hb hT.1 hP1 0 t rfl hty rfl hd kk
theorem g_iald {a n j : Nat} {i : Int32} {f : Nat → Int32} (hd : decode M.2.1 pc = .ok (.iaload, 1)) (ha : h a = some (.inl (0, n, .inl f))) (hi : i = nI j) (hj : j < n) (hn : n < 2 ^ 31) (kk : Go K M R (pc + 1) lv (.int (f j) :: st) h kc ks Q) : Go K M R pc lv (.int i :: .ref a :: st) h kc ks Q := by
  intro p e s m args below meth c Z H locs cells slots ls C N hP hS hl h1 h2
  have hP1 : va_P K.2.1 gcl [(a, .inl (K.2.2.1 0, n, .inl f))] H := va_P1 ((hP.2.2 a _ ha).2)
  have kk := kk p e s m args below meth c Z H locs cells slots ls C N hP hS hl h1 h2
  obtain ⟨hx, hb, -, -, -, -, hown, -, hT, -⟩ := C
  subst hi
  refine va_iald hx hb hT.1 hP1 0 0 rfl rfl (vp_in_nI hj hn) hd ?_
  rw [nI_clamp (Nat.lt_trans hj hn)]
  exact kk
theorem g_lald {a n j : Nat} {i : Int32} {f : Nat → Int64} (hd : decode M.2.1 pc = .ok (.laload, 1)) (ha : h a = some (.inl (1, n, .inr (.inl f)))) (hi : i = nI j) (hj : j < n) (hn : n < 2 ^ 31) (kk : Go K M R (pc + 1) lv (.long (f j) :: st) h kc ks Q) : Go K M R pc lv (.int i :: .ref a :: st) h kc ks Q := by
  intro p e s m args below meth c Z H locs cells slots ls C N hP hS hl h1 h2
  have hP1 : va_P K.2.1 gcl [(a, .inl (K.2.2.1 1, n, .inr (.inl f)))] H := va_P1 ((hP.2.2 a _ ha).2)
  have kk := kk p e s m args below meth c Z H locs cells slots ls C N hP hS hl h1 h2
  obtain ⟨hx, hb, -, -, -, -, hown, -, hT, -⟩ := C
  subst hi
  refine va_lald hx hb hT.1 hP1 0 1 rfl rfl (vp_in_nI hj hn) hd ?_
  rw [nI_clamp (Nat.lt_trans hj hn)]
  exact kk
theorem g_cald {a n j : Nat} {i : Int32} {f : Nat → Int32} (hd : decode M.2.1 pc = .ok (.caload, 1)) (ha : h a = some (.inl (2, n, .inl f))) (hi : i = nI j) (hj : j < n) (hn : n < 2 ^ 31) (kk : Go K M R (pc + 1) lv (.int (f j) :: st) h kc ks Q) : Go K M R pc lv (.int i :: .ref a :: st) h kc ks Q := by
  intro p e s m args below meth c Z H locs cells slots ls C N hP hS hl h1 h2
  have hP1 : va_P K.2.1 gcl [(a, .inl (K.2.2.1 2, n, .inl f))] H := va_P1 ((hP.2.2 a _ ha).2)
  have kk := kk p e s m args below meth c Z H locs cells slots ls C N hP hS hl h1 h2
  obtain ⟨hx, hb, -, -, -, -, hown, -, hT, -⟩ := C
  subst hi
  refine va_cald hx hb hT.1 hP1 0 2 rfl rfl (vp_in_nI hj hn) hd ?_
  rw [nI_clamp (Nat.lt_trans hj hn)]
  exact kk
theorem g_zald {a n j : Nat} {i : Int32} {f : Nat → Int32} (hd : decode M.2.1 pc = .ok (.baload, 1)) (ha : h a = some (.inl (3, n, .inl f))) (hi : i = nI j) (hj : j < n) (hn : n < 2 ^ 31) (kk : Go K M R (pc + 1) lv (.int (f j) :: st) h kc ks Q) : Go K M R pc lv (.int i :: .ref a :: st) h kc ks Q := by
  intro p e s m args below meth c Z H locs cells slots ls C N hP hS hl h1 h2
  have hP1 : va_P K.2.1 gcl [(a, .inl (K.2.2.1 3, n, .inl f))] H := va_P1 ((hP.2.2 a _ ha).2)
  have kk := kk p e s m args below meth c Z H locs cells slots ls C N hP hS hl h1 h2
  obtain ⟨hx, hb, -, -, -, -, hown, -, hT, -⟩ := C
  subst hi
  refine va_zald hx hb hT.1 hP1 0 3 rfl rfl (vp_in_nI hj hn) hd ?_
  rw [nI_clamp (Nat.lt_trans hj hn)]
  exact kk
theorem g_aald {t a n j b : Nat} {i : Int32} {f : Nat → Option Nat} (hd : decode M.2.1 pc = .ok (.aaload, 1)) (ht : t = 4 ∨ t = 5) (ha : h a = some (.inl (t, n, .inr (.inr (.inr (.inr f)))))) (hi : i = nI j) (hj : j < n) (hn : n < 2 ^ 31) (hf : f j = some b) (kk : Go K M R (pc + 1) lv (.ref b :: st) h kc ks Q) : Go K M R pc lv (.int i :: .ref a :: st) h kc ks Q := by
  intro p e s m args below meth c Z H locs cells slots ls C N hP hS hl h1 h2
  have hP1 : va_P K.2.1 gcl [(a, .inl (K.2.2.1 t, n, .inr (.inr (.inr (.inr f)))))] H := va_P1 ((hP.2.2 a _ ha).2)
  have kk := kk p e s m args below meth c Z H locs cells slots ls C N hP hS hl h1 h2
  obtain ⟨hx, hb, -, -, -, -, hown, -, hT, -⟩ := C
  subst hi
  have he : va_rf (f (nI j).toNatClampNeg) = .ref b := by rw [nI_clamp (Nat.lt_trans hj hn), hf]; rfl
  rcases ht with rfl | rfl
  · refine va_aldq hx hb hT.1 hP1 0 4 rfl rfl (vp_in_nI hj hn) hd ?_
    rw [he]
    exact kk
  · refine va_aldq hx hb hT.1 hP1 0 5 rfl rfl (vp_in_nI hj hn) hd ?_
    rw [he]
    exact kk
theorem g_iast {a n j : Nat} {i x : Int32} {f : Nat → Int32} (hd : decode M.2.1 pc = .ok (.iastore, 1)) (ha : h a = some (.inl (0, n, .inl f))) (hi : i = nI j) (hj : j < n) (hn : n < 2 ^ 31) (kk : Go K M R (pc + 1) lv st (gup h a (.inl (0, n, .inl (va_up f j x)))) kc ks Q) : Go K M R pc lv (.int x :: .int i :: .ref a :: st) h kc ks Q := by
  intro p e s m args below meth c Z H locs cells slots ls C N hP hS hl h1 h2
  have kk := fun H locs => kk p e s m args below meth c Z H locs cells slots ls C N
  obtain ⟨hx, hb, -, -, -, -, hown, -, hT, -⟩ := C
  subst hi
  obtain ⟨hB, hcell⟩ := hP.2.2 a _ ha
  refine W.iast hx hb hcell ((hT.1.2 0 _ rfl).1 n (fun j => .int (f j))) (fun q => by cases q) (by show ¬ (_ ∨ (arrV _ _ _).slots.size ≤ _); rw [arrV_size]; exact vp_in_nI hj hn) rfl rfl hd fun H1 e z oq => ?_
  refine kk H1 _ (hP.set ha ?_ z oq) (hS.put z oq hB) hl h1 h2
  show H1[a]? = some (vp_cell _ _)
  rw [e, vp_cell_i, vp_cell_i, arrV_store, nI_clamp (Nat.lt_trans hj hn)]
  congr 2
  funext q
  by_cases hq : q = j
  · subst hq
    simp [updV, va_up]
  · simp [updV, va_up, hq]
theorem g_last {a n j : Nat} {i : Int32} {x : Int64} {f : Nat → Int64} (hd : decode M.2.1 pc = .ok (.lastore, 1)) (ha : h a = some (.inl (1, n, .inr (.inl f)))) (hi : i = nI j) (hj : j < n) (hn : n < 2 ^ 31) (kk : Go K M R (pc + 1) lv st (gup h a (.inl (1, n, .inr (.inl (va_up f j x))))) kc ks Q) : Go K M R pc lv (.long x :: .int i :: .ref a :: st) h kc ks Q := by
  intro p e s m args below meth c Z H locs cells slots ls C N hP hS hl h1 h2
  have kk := fun H locs => kk p e s m args below meth c Z H locs cells slots ls C N
  obtain ⟨hx, hb, -, -, -, -, hown, -, hT, -⟩ := C
  subst hi
  obtain ⟨hB, hcell⟩ := hP.2.2 a _ ha
  refine W.last hx hb hcell ((hT.1.2 1 _ rfl).1 n (fun j => .long (f j))) (fun q => by cases q) (by show ¬ (_ ∨ (arrV _ _ _).slots.size ≤ _); rw [arrV_size]; exact vp_in_nI hj hn) rfl rfl hd fun H1 e z oq => ?_
  refine kk H1 _ (hP.set ha ?_ z oq) (hS.put z oq hB) hl h1 h2
  show H1[a]? = some (vp_cell _ _)
  rw [e, vp_cell_l, vp_cell_l, arrV_store, nI_clamp (Nat.lt_trans hj hn)]
  congr 2
  funext q
  by_cases hq : q = j
  · subst hq
    simp [updV, va_up]
  · simp [updV, va_up, hq]
theorem g_cast {a n j : Nat} {i x : Int32} {f : Nat → Int32} (hd : decode M.2.1 pc = .ok (.castore, 1)) (ha : h a = some (.inl (2, n, .inl f))) (hi : i = nI j) (hj : j < n) (hn : n < 2 ^ 31) (hx : narrow .char (.int x) = .int x) (kk : Go K M R (pc + 1) lv st (gup h a (.inl (2, n, .inl (va_up f j x)))) kc ks Q) : Go K M R pc lv (.int x :: .int i :: .ref a :: st) h kc ks Q := by
  intro p e s m args below meth c Z H locs cells slots ls C N hP hS hl h1 h2
  have kk := fun H locs => kk p e s m args below meth c Z H locs cells slots ls C N
  obtain ⟨hx9, hb, -, -, -, -, hown, -, hT, -⟩ := C
  subst hi
  obtain ⟨hB, hcell⟩ := hP.2.2 a _ ha
  refine W.cast hx9 hb hcell ((hT.1.2 2 _ rfl).1 n (fun j => .int (f j))) (fun q => by cases q) (by show ¬ (_ ∨ (arrV _ _ _).slots.size ≤ _); rw [arrV_size]; exact vp_in_nI hj hn) rfl rfl hd fun H1 e z oq => ?_
  refine kk H1 _ (hP.set ha ?_ z oq) (hS.put z oq hB) hl h1 h2
  show H1[a]? = some (vp_cell _ _)
  rw [e, hx, vp_cell_i, vp_cell_i, arrV_store, nI_clamp (Nat.lt_trans hj hn)]
  congr 2
  funext q
  by_cases hq : q = j
  · subst hq
    simp [updV, va_up]
  · simp [updV, va_up, hq]
theorem g_zast {a n j : Nat} {i x : Int32} {f : Nat → Int32} (hd : decode M.2.1 pc = .ok (.bastore, 1)) (ha : h a = some (.inl (3, n, .inl f))) (hi : i = nI j) (hj : j < n) (hn : n < 2 ^ 31) (hx : narrow .boolean (.int x) = .int x) (kk : Go K M R (pc + 1) lv st (gup h a (.inl (3, n, .inl (va_up f j x)))) kc ks Q) : Go K M R pc lv (.int x :: .int i :: .ref a :: st) h kc ks Q := by
  intro p e s m args below meth c Z H locs cells slots ls C N hP hS hl h1 h2
  have kk := fun H locs => kk p e s m args below meth c Z H locs cells slots ls C N
  obtain ⟨hx9, hb, -, -, -, -, hown, -, hT, -⟩ := C
  subst hi
  obtain ⟨hB, hcell⟩ := hP.2.2 a _ ha
  refine W.zast hx9 hb hcell ((hT.1.2 3 _ rfl).1 n (fun j => .int (f j))) (fun q => by cases q) (by show ¬ (_ ∨ (arrV _ _ _).slots.size ≤ _); rw [arrV_size]; exact vp_in_nI hj hn) rfl rfl hd fun H1 e z oq => ?_
  refine kk H1 _ (hP.set ha ?_ z oq) (hS.put z oq hB) hl h1 h2
  show H1[a]? = some (vp_cell _ _)
  rw [e, hx, vp_cell_i, vp_cell_i, arrV_store, nI_clamp (Nat.lt_trans hj hn)]
  congr 2
  funext q
  by_cases hq : q = j
  · subst hq
    simp [updV, va_up]
  · simp [updV, va_up, hq]
/-- the static table of longs -/
theorem g_gets {idx : Nat} {host : String} (hd : decode M.2.1 pc = .ok (.getstatic idx, 3)) (hlk : Cond.fieldLinkNest M.1.cls idx gtC gtN "[J" host ∈ gNF) (kk : Go K M R (pc + 3) lv (.ref K.2.2.2.2.2 :: st) h kc ks Q) : Go K M R pc lv st h kc ks Q := by
  intro p e s m args below meth c Z H locs cells slots ls C N hP hS hl h1 h2
  have kk := kk p e s m args below meth c Z H locs cells slots ls C N hP hS hl h1 h2
  obtain ⟨hx, hb, -, -, -, -, hown, -, hT, -⟩ := C
  obtain ⟨cf, kf, fi, f, a, cell, z1, z2, z3, z4, z5, z6, z7, z8⟩ := hT.2.2.2.1
  exact va_WgetsN hx hb hown (gT.nest hT hlk args) z1 z2 z3 z4 (by rw [hP.2.1 a (Nat.not_le.mp z8)]; exact z5) (fun e => by rw [e] at z6; cases z6) z7 rfl hd kk
theorem g_tald {j : Nat} {i : Int32} (hd : decode M.2.1 pc = .ok (.laload, 1)) (hi : i = nI j) (hj : j < 6) (kk : Go K M R (pc + 1) lv (.long (gtw j) :: st) h kc ks Q) : Go K M R pc lv (.int i :: .ref K.2.2.2.2.2 :: st) h kc ks Q := by
  intro p e s m args below meth c Z H locs cells slots ls C N hP hS hl h1 h2
  have kk := kk p e s m args below meth c Z H locs cells slots ls C N hP hS hl h1 h2
  obtain ⟨hx, hb, -, -, -, -, hown, -, hT, -⟩ := C
  obtain ⟨cell, t1, t2, t3, t4, t5, t6, t7⟩ := hT.2.2.2.2.1
  subst hi
  have hcl : (nI j).toNatClampNeg = j := nI_clamp (by omega)
  refine W.lald (v := .long (gtw j)) hx hb (by rw [hP.2.1 _ (Nat.not_le.mp t7)]; exact t1) t2 t3 ?_ ?_ rfl rfl hd kk
  · rintro (q | q)
    · exact nI_pos (by omega) q
    · rw [hcl] at q
      omega
  · rw [hcl]
    exact t6 j hj
end GOHEAP
