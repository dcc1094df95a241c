section GOROWS
variable {K : gK} {M : gM} {R : Room} {pc : Nat} {lv : List (Nat × Value)} {st : List Value} {h : gH} {kc ks : Nat} {Q : Outcome → gH → Prop}
theorem g_iadd {x y : Int32} (hd : decode M.2.1 pc = .ok (.iadd, 1)) (k : Go K M R (pc + 1) lv (.int (x + y) :: st) h kc ks Q) : Go K M R pc lv (.int y :: .int x :: st) h kc ks Q := by
  intro p e s m args below meth c Z H locs cells slots ls C N hP hS hl h1 h2
  exact lv_iadd C.1 C.2.1 hd (k p e s m args below meth c Z H locs cells slots ls C N hP hS hl h1 h2)
theorem g_isub {x y : Int32} (hd : decode M.2.1 pc = .ok (.isub, 1)) (k : Go K M R (pc + 1) lv (.int (x - y) :: st) h kc ks Q) : Go K M R pc lv (.int y :: .int x :: st) h kc ks Q := by
  intro p e s m args below meth c Z H locs cells slots ls C N hP hS hl h1 h2
  exact lv_isub C.1 C.2.1 hd (k p e s m args below meth c Z H locs cells slots ls C N hP hS hl h1 h2)
theorem g_imul {x y : Int32} (hd : decode M.2.1 pc = .ok (.imul, 1)) (k : Go K M R (pc + 1) lv (.int (x * y) :: st) h kc ks Q) : Go K M R pc lv (.int y :: .int x :: st) h kc ks Q := by
  intro p e s m args below meth c Z H locs cells slots ls C N hP hS hl h1 h2
  exact lv_imul C.1 C.2.1 hd (k p e s m args below meth c Z H locs cells slots ls C N hP hS hl h1 h2)
theorem g_iand {x y : Int32} (hd : decode M.2.1 pc = .ok (.iand, 1)) (k : Go K M R (pc + 1) lv (.int (x &&& y) :: st) h kc ks Q) : Go K M R pc lv (.int y :: .int x :: st) h kc ks Q := by
  intro p e s m args below meth c Z H locs cells slots ls C N hP hS hl h1 h2
  exact lv_iand C.1 C.2.1 hd (k p e s m args below meth c Z H locs cells slots ls C N hP hS hl h1 h2)
theorem g_ior {x y : Int32} (hd : decode M.2.1 pc = .ok (.ior, 1)) (k : Go K M R (pc + 1) lv (.int (x ||| y) :: st) h kc ks Q) : Go K M R pc lv (.int y :: .int x :: st) h kc ks Q := by
  intro p e s m args below meth c Z H locs cells slots ls C N hP hS hl h1 h2
  exact lv_ior C.1 C.2.1 hd (k p e s m args below meth c Z H locs cells slots ls C N hP hS hl h1 h2)
theorem g_ixor {x y : Int32} (hd : decode M.2.1 pc = .ok (.ixor, 1)) (k : Go K M R (pc + 1) lv (.int (x ^^^ y) :: st) h kc ks Q) : Go K M R pc lv (.int y :: .int x :: st) h kc ks Q := by
  intro p e s m args below meth c Z H locs cells slots ls C N hP hS hl h1 h2
  exact lv_ixor C.1 C.2.1 hd (k p e s m args below meth c Z H locs cells slots ls C N hP hS hl h1 h2)
theorem g_ishl {x y : Int32} (hd : decode M.2.1 pc = .ok (.ishl, 1)) (k : Go K M R (pc + 1) lv (.int (x <<< (y &&& 31)) :: st) h kc ks Q) : Go K M R pc lv (.int y :: .int x :: st) h kc ks Q := by
  intro p e s m args below meth c Z H locs cells slots ls C N hP hS hl h1 h2
  exact lv_ishl C.1 C.2.1 hd (k p e s m args below meth c Z H locs cells slots ls C N hP hS hl h1 h2)
theorem g_ishr {x y : Int32} (hd : decode M.2.1 pc = .ok (.ishr, 1)) (k : Go K M R (pc + 1) lv (.int (x >>> (y &&& 31)) :: st) h kc ks Q) : Go K M R pc lv (.int y :: .int x :: st) h kc ks Q := by
  intro p e s m args below meth c Z H locs cells slots ls C N hP hS hl h1 h2
  exact lv_ishr C.1 C.2.1 hd (k p e s m args below meth c Z H locs cells slots ls C N hP hS hl h1 h2)
theorem g_ladd {x y : Int64} (hd : decode M.2.1 pc = .ok (.ladd, 1)) (k : Go K M R (pc + 1) lv (.long (x + y) :: st) h kc ks Q) : Go K M R pc lv (.long y :: .long x :: st) h kc ks Q := by
  intro p e s m args below meth c Z H locs cells slots ls C N hP hS hl h1 h2
  exact lv_ladd C.1 C.2.1 hd (k p e s m args below meth c Z H locs cells slots ls C N hP hS hl h1 h2)
theorem g_lsub {x y : Int64} (hd : decode M.2.1 pc = .ok (.lsub, 1)) (k : Go K M R (pc + 1) lv (.long (x - y) :: st) h kc ks Q) : Go K M R pc lv (.long y :: .long x :: st) h kc ks Q := by
  intro p e s m args below meth c Z H locs cells slots ls C N hP hS hl h1 h2
  exact lv_lsub C.1 C.2.1 hd (k p e s m args below meth c Z H locs cells slots ls C N hP hS hl h1 h2)
theorem g_land {x y : Int64} (hd : decode M.2.1 pc = .ok (.land, 1)) (k : Go K M R (pc + 1) lv (.long (x &&& y) :: st) h kc ks Q) : Go K M R pc lv (.long y :: .long x :: st) h kc ks Q := by
  intro p e s m args below meth c Z H locs cells slots ls C N hP hS hl h1 h2
  exact lv_land C.1 C.2.1 hd (k p e s m args below meth c Z H locs cells slots ls C N hP hS hl h1 h2)
theorem g_lor {x y : Int64} (hd : decode M.2.1 pc = .ok (.lor, 1)) (k : Go K M R (pc + 1) lv (.long (x ||| y) :: st) h kc ks Q) : Go K M R pc lv (.long y :: .long x :: st) h kc ks Q := by
  intro p e s m args below meth c Z H locs cells slots ls C N hP hS hl h1 h2
  exact lv_lor C.1 C.2.1 hd (k p e s m args below meth c Z H locs cells slots ls C N hP hS hl h1 h2)
theorem g_lxor {x y : Int64} (hd : decode M.2.1 pc = .ok (.lxor, 1)) (k : Go K M R (pc + 1) lv (.long (x ^^^ y) :: st) h kc ks Q) : Go K M R pc lv (.long y :: .long x :: st) h kc ks Q := by
  intro p e s m args below meth c Z H locs cells slots ls C N hP hS hl h1 h2
  exact lv_lxor C.1 C.2.1 hd (k p e s m args below meth c Z H locs cells slots ls C N hP hS hl h1 h2)
theorem g_idiv {x y : Int32} (hd : decode M.2.1 pc = .ok (.idiv, 1)) (hne : ¬ y = 0) (k : Go K M R (pc + 1) lv (.int (x / y) :: st) h kc ks Q) : Go K M R pc lv (.int y :: .int x :: st) h kc ks Q := by
  intro p e s m args below meth c Z H locs cells slots ls C N hP hS hl h1 h2
  exact lv_idiv C.1 C.2.1 hd hne (k p e s m args below meth c Z H locs cells slots ls C N hP hS hl h1 h2)
theorem g_irem {x y : Int32} (hd : decode M.2.1 pc = .ok (.irem, 1)) (hne : ¬ y = 0) (k : Go K M R (pc + 1) lv (.int (x - x / y * y) :: st) h kc ks Q) : Go K M R pc lv (.int y :: .int x :: st) h kc ks Q := by
  intro p e s m args below meth c Z H locs cells slots ls C N hP hS hl h1 h2
  exact lv_irem C.1 C.2.1 hd hne (k p e s m args below meth c Z H locs cells slots ls C N hP hS hl h1 h2)
theorem g_i2l {x : Int32} (hd : decode M.2.1 pc = .ok (.i2l, 1)) (k : Go K M R (pc + 1) lv (.long (x.toInt64) :: st) h kc ks Q) : Go K M R pc lv (.int x :: st) h kc ks Q := by
  intro p e s m args below meth c Z H locs cells slots ls C N hP hS hl h1 h2
  exact lv_i2l C.1 C.2.1 hd rfl (k p e s m args below meth c Z H locs cells slots ls C N hP hS hl h1 h2)
theorem g_l2i {x : Int64} (hd : decode M.2.1 pc = .ok (.l2i, 1)) (k : Go K M R (pc + 1) lv (.int (x.toInt32) :: st) h kc ks Q) : Go K M R pc lv (.long x :: st) h kc ks Q := by
  intro p e s m args below meth c Z H locs cells slots ls C N hP hS hl h1 h2
  exact lv_l2i C.1 C.2.1 hd rfl (k p e s m args below meth c Z H locs cells slots ls C N hP hS hl h1 h2)
theorem g_i2c {x : Int32} (hd : decode M.2.1 pc = .ok (.i2c, 1)) (k : Go K M R (pc + 1) lv (.int ((x.toUInt32 % 65536).toInt32) :: st) h kc ks Q) : Go K M R pc lv (.int x :: st) h kc ks Q := by
  intro p e s m args below meth c Z H locs cells slots ls C N hP hS hl h1 h2
  exact lv_i2c C.1 C.2.1 hd rfl (k p e s m args below meth c Z H locs cells slots ls C N hP hS hl h1 h2)
theorem g_lushr {x : Int64} {y : Int32} (hd : decode M.2.1 pc = .ok (.lushr, 1)) (k : Go K M R (pc + 1) lv (.long ((x.toUInt64 >>> (y.toInt64.toUInt64 &&& Int64.toUInt64 63)).toInt64) :: st) h kc ks Q) : Go K M R pc lv (.int y :: .long x :: st) h kc ks Q := by
  intro p e s m args below meth c Z H locs cells slots ls C N hP hS hl h1 h2
  exact lv_lushr C.1 C.2.1 hd rfl (k p e s m args below meth c Z H locs cells slots ls C N hP hS hl h1 h2)
theorem g_lshl {x : Int64} {y : Int32} (hd : decode M.2.1 pc = .ok (.lshl, 1)) (k : Go K M R (pc + 1) lv (.long (x <<< (y.toInt64 &&& 63)) :: st) h kc ks Q) : Go K M R pc lv (.int y :: .long x :: st) h kc ks Q := by
  intro p e s m args below meth c Z H locs cells slots ls C N hP hS hl h1 h2
  exact lv_lshl C.1 C.2.1 hd rfl (k p e s m args below meth c Z H locs cells slots ls C N hP hS hl h1 h2)
theorem g_lshr {x : Int64} {y : Int32} (hd : decode M.2.1 pc = .ok (.lshr, 1)) (k : Go K M R (pc + 1) lv (.long (x >>> (y.toInt64 &&& 63)) :: st) h kc ks Q) : Go K M R pc lv (.int y :: .long x :: st) h kc ks Q := by
  intro p e s m args below meth c Z H locs cells slots ls C N hP hS hl h1 h2
  exact lv_lshr C.1 C.2.1 hd rfl (k p e s m args below meth c Z H locs cells slots ls C N hP hS hl h1 h2)
theorem g_iushr {x y : Int32} (hd : decode M.2.1 pc = .ok (.iushr, 1)) (k : Go K M R (pc + 1) lv (.int ((x.toUInt32 >>> (y.toUInt32 &&& Int32.toUInt32 31)).toInt32) :: st) h kc ks Q) : Go K M R pc lv (.int y :: .int x :: st) h kc ks Q := by
  intro p e s m args below meth c Z H locs cells slots ls C N hP hS hl h1 h2
  exact lv_iushr C.1 C.2.1 hd rfl (k p e s m args below meth c Z H locs cells slots ls C N hP hS hl h1 h2)
theorem g_lcmp {x y : Int64} (hd : decode M.2.1 pc = .ok (.lcmp, 1)) (k : Go K M R (pc + 1) lv (.int (lg_cmp x y) :: st) h kc ks Q) : Go K M R pc lv (.long y :: .long x :: st) h kc ks Q := by
  intro p e s m args below meth c Z H locs cells slots ls C N hP hS hl h1 h2
  exact W.lcmp C.1 C.2.1 hd (k p e s m args below meth c Z H locs cells slots ls C N hP hS hl h1 h2)
theorem g_dup {a : Value} (hd : decode M.2.1 pc = .ok (.dup, 1)) (ha : a.category = 1) (k : Go K M R (pc + 1) lv (a :: a :: st) h kc ks Q) : Go K M R pc lv (a :: st) h kc ks Q := by
  intro p e s m args below meth c Z H locs cells slots ls C N hP hS hl h1 h2
  exact lv_dup C.1 C.2.1 hd ha (k p e s m args below meth c Z H locs cells slots ls C N hP hS hl h1 h2)
theorem g_pop {a : Value} (hd : decode M.2.1 pc = .ok (.pop, 1)) (ha : a.category = 1) (k : Go K M R (pc + 1) lv (st) h kc ks Q) : Go K M R pc lv (a :: st) h kc ks Q := by
  intro p e s m args below meth c Z H locs cells slots ls C N hP hS hl h1 h2
  exact lv_pop C.1 C.2.1 hd ha (k p e s m args below meth c Z H locs cells slots ls C N hP hS hl h1 h2)
theorem g_dup_x1 {a b : Value} (hd : decode M.2.1 pc = .ok (.dup_x1, 1)) (ha : a.category = 1) (hb : b.category = 1) (k : Go K M R (pc + 1) lv (a :: b :: a :: st) h kc ks Q) : Go K M R pc lv (a :: b :: st) h kc ks Q := by
  intro p e s m args below meth c Z H locs cells slots ls C N hP hS hl h1 h2
  exact lv_dup_x1 C.1 C.2.1 hd ha hb (k p e s m args below meth c Z H locs cells slots ls C N hP hS hl h1 h2)
theorem g_dup2_11 {a b : Value} (hd : decode M.2.1 pc = .ok (.dup2, 1)) (ha : a.category = 1) (hb : b.category = 1) (k : Go K M R (pc + 1) lv (a :: b :: a :: b :: st) h kc ks Q) : Go K M R pc lv (a :: b :: st) h kc ks Q := by
  intro p e s m args below meth c Z H locs cells slots ls C N hP hS hl h1 h2
  exact lv_dup2_11 C.1 C.2.1 hd ha hb (k p e s m args below meth c Z H locs cells slots ls C N hP hS hl h1 h2)
theorem g_iconst {n : Int} {v : Int32} (hd : decode M.2.1 pc = .ok (.iconst n, 1)) (hv : Int32.ofInt n = v) (k : Go K M R (pc + 1) lv (.int v :: st) h kc ks Q) : Go K M R pc lv (st) h kc ks Q := by
  intro p e s m args below meth c Z H locs cells slots ls C N hP hS hl h1 h2
  exact lv_iconst C.1 C.2.1 hd hv (k p e s m args below meth c Z H locs cells slots ls C N hP hS hl h1 h2)
theorem g_bipush {n : Int} {v : Int32} (hd : decode M.2.1 pc = .ok (.bipush n, 2)) (hv : (Int8.ofInt n).toInt32 = v) (k : Go K M R (pc + 2) lv (.int v :: st) h kc ks Q) : Go K M R pc lv (st) h kc ks Q := by
  intro p e s m args below meth c Z H locs cells slots ls C N hP hS hl h1 h2
  exact lv_bipush C.1 C.2.1 hd hv (k p e s m args below meth c Z H locs cells slots ls C N hP hS hl h1 h2)
theorem g_sipush {n : Int} {v : Int32} (hd : decode M.2.1 pc = .ok (.sipush n, 3)) (hv : (Int16.ofInt n).toInt32 = v) (k : Go K M R (pc + 3) lv (.int v :: st) h kc ks Q) : Go K M R pc lv (st) h kc ks Q := by
  intro p e s m args below meth c Z H locs cells slots ls C N hP hS hl h1 h2
  exact lv_sipush C.1 C.2.1 hd hv (k p e s m args below meth c Z H locs cells slots ls C N hP hS hl h1 h2)
theorem g_lconst {n : Fin 2} (hd : decode M.2.1 pc = .ok (.lconst n, 1)) (k : Go K M R (pc + 1) lv (.long (Int64.ofNat (n : Nat)) :: st) h kc ks Q) : Go K M R pc lv (st) h kc ks Q := by
  intro p e s m args below meth c Z H locs cells slots ls C N hP hS hl h1 h2
  exact lv_lconst C.1 C.2.1 hd rfl (k p e s m args below meth c Z H locs cells slots ls C N hP hS hl h1 h2)
theorem g_null (hd : decode M.2.1 pc = .ok (.aconst_null, 1)) (k : Go K M R (pc + 1) lv (.null :: st) h kc ks Q) : Go K M R pc lv (st) h kc ks Q := by
  intro p e s m args below meth c Z H locs cells slots ls C N hP hS hl h1 h2
  exact lv_null C.1 C.2.1 hd (k p e s m args below meth c Z H locs cells slots ls C N hP hS hl h1 h2)
theorem g_iload_n {i : Fin 4} {x : Int32} (hd : decode M.2.1 pc = .ok (.iload_n i, 1)) (hv : lget lv (i : Nat) = some (.int x)) (k : Go K M R (pc + 1) lv (.int x :: st) h kc ks Q) : Go K M R pc lv (st) h kc ks Q := by
  intro p e s m args below meth c Z H locs cells slots ls C N hP hS hl h1 h2
  exact lv_iload_n C.1 C.2.1 hd rfl (lget_at hl hv) (k p e s m args below meth c Z H locs cells slots ls C N hP hS hl h1 h2)
theorem g_iload {i : Nat} {x : Int32} (hd : decode M.2.1 pc = .ok (.iload i, 2)) (hv : lget lv i = some (.int x)) (k : Go K M R (pc + 2) lv (.int x :: st) h kc ks Q) : Go K M R pc lv (st) h kc ks Q := by
  intro p e s m args below meth c Z H locs cells slots ls C N hP hS hl h1 h2
  exact lv_iload C.1 C.2.1 hd (lget_at hl hv) (k p e s m args below meth c Z H locs cells slots ls C N hP hS hl h1 h2)
theorem g_lload_n {i : Fin 4} {x : Int64} (hd : decode M.2.1 pc = .ok (.lload_n i, 1)) (hv : lget lv (i : Nat) = some (.long x)) (k : Go K M R (pc + 1) lv (.long x :: st) h kc ks Q) : Go K M R pc lv (st) h kc ks Q := by
  intro p e s m args below meth c Z H locs cells slots ls C N hP hS hl h1 h2
  exact lv_lload_n C.1 C.2.1 hd rfl (lget_at hl hv) (k p e s m args below meth c Z H locs cells slots ls C N hP hS hl h1 h2)
theorem g_lload {i : Nat} {x : Int64} (hd : decode M.2.1 pc = .ok (.lload i, 2)) (hv : lget lv i = some (.long x)) (k : Go K M R (pc + 2) lv (.long x :: st) h kc ks Q) : Go K M R pc lv (st) h kc ks Q := by
  intro p e s m args below meth c Z H locs cells slots ls C N hP hS hl h1 h2
  exact lv_lload C.1 C.2.1 hd (lget_at hl hv) (k p e s m args below meth c Z H locs cells slots ls C N hP hS hl h1 h2)
theorem g_aload_n {i : Fin 4} {x : Nat} (hd : decode M.2.1 pc = .ok (.aload_n i, 1)) (hv : lget lv (i : Nat) = some (.ref x)) (k : Go K M R (pc + 1) lv (.ref x :: st) h kc ks Q) : Go K M R pc lv (st) h kc ks Q := by
  intro p e s m args below meth c Z H locs cells slots ls C N hP hS hl h1 h2
  exact lv_aload_n C.1 C.2.1 hd rfl (lget_at hl hv) (k p e s m args below meth c Z H locs cells slots ls C N hP hS hl h1 h2)
theorem g_aload {i : Nat} {x : Nat} (hd : decode M.2.1 pc = .ok (.aload i, 2)) (hv : lget lv i = some (.ref x)) (k : Go K M R (pc + 2) lv (.ref x :: st) h kc ks Q) : Go K M R pc lv (st) h kc ks Q := by
  intro p e s m args below meth c Z H locs cells slots ls C N hP hS hl h1 h2
  exact lv_aload C.1 C.2.1 hd (lget_at hl hv) (k p e s m args below meth c Z H locs cells slots ls C N hP hS hl h1 h2)
theorem g_istore_n {j : Fin 4} {i : Nat} {x : Int32} (hd : decode M.2.1 pc = .ok (.istore_n j, 1)) (hi : (j : Nat) = i) (hn : i < M.2.2.1) (hk : lok1 lv i = true) (k : Go K M R (pc + 1) (lset lv i (.int x)) st h kc ks Q) : Go K M R pc lv (.int x :: st) h kc ks Q := by
  intro p e s m args below meth c Z H locs cells slots ls C N hP hS hl h1 h2
  exact lv_istore_n C.1 C.2.1 hd hi hl hn rfl (fun ls' hl' => k p e s m args below meth c Z H locs cells slots ls' C N hP hS (lset_h1 hl' hk) h1 h2)
theorem g_istore {i : Nat} {x : Int32} (hd : decode M.2.1 pc = .ok (.istore i, 2)) (hn : i < M.2.2.1) (hk : lok1 lv i = true) (k : Go K M R (pc + 2) (lset lv i (.int x)) st h kc ks Q) : Go K M R pc lv (.int x :: st) h kc ks Q := by
  intro p e s m args below meth c Z H locs cells slots ls C N hP hS hl h1 h2
  exact lv_istore C.1 C.2.1 hd hl hn rfl (fun ls' hl' => k p e s m args below meth c Z H locs cells slots ls' C N hP hS (lset_h1 hl' hk) h1 h2)
theorem g_lstore_n {j : Fin 4} {i : Nat} {x : Int64} (hd : decode M.2.1 pc = .ok (.lstore_n j, 1)) (hi : (j : Nat) = i) (hn : i + 1 < M.2.2.1) (hk : lok2 lv i = true) (k : Go K M R (pc + 1) (lset lv i (.long x)) st h kc ks Q) : Go K M R pc lv (.long x :: st) h kc ks Q := by
  intro p e s m args below meth c Z H locs cells slots ls C N hP hS hl h1 h2
  exact lv_lstore_n C.1 C.2.1 hd hi hl hn rfl (fun ls' hl' => k p e s m args below meth c Z H locs cells slots ls' C N hP hS (lset_h2 hl' hk) h1 h2)
theorem g_lstore {i : Nat} {x : Int64} (hd : decode M.2.1 pc = .ok (.lstore i, 2)) (hn : i + 1 < M.2.2.1) (hk : lok2 lv i = true) (k : Go K M R (pc + 2) (lset lv i (.long x)) st h kc ks Q) : Go K M R pc lv (.long x :: st) h kc ks Q := by
  intro p e s m args below meth c Z H locs cells slots ls C N hP hS hl h1 h2
  exact lv_lstore C.1 C.2.1 hd hl hn rfl (fun ls' hl' => k p e s m args below meth c Z H locs cells slots ls' C N hP hS (lset_h2 hl' hk) h1 h2)
theorem g_astore_n {j : Fin 4} {i : Nat} {x : Nat} (hd : decode M.2.1 pc = .ok (.astore_n j, 1)) (hi : (j : Nat) = i) (hn : i < M.2.2.1) (hk : lok1 lv i = true) (k : Go K M R (pc + 1) (lset lv i (.ref x)) st h kc ks Q) : Go K M R pc lv (.ref x :: st) h kc ks Q := by
  intro p e s m args below meth c Z H locs cells slots ls C N hP hS hl h1 h2
  exact lv_astore_n C.1 C.2.1 hd hi hl hn rfl (fun ls' hl' => k p e s m args below meth c Z H locs cells slots ls' C N hP hS (lset_h1 hl' hk) h1 h2)
theorem g_astore {i : Nat} {x : Nat} (hd : decode M.2.1 pc = .ok (.astore i, 2)) (hn : i < M.2.2.1) (hk : lok1 lv i = true) (k : Go K M R (pc + 2) (lset lv i (.ref x)) st h kc ks Q) : Go K M R pc lv (.ref x :: st) h kc ks Q := by
  intro p e s m args below meth c Z H locs cells slots ls C N hP hS hl h1 h2
  exact lv_astore C.1 C.2.1 hd hl hn rfl (fun ls' hl' => k p e s m args below meth c Z H locs cells slots ls' C N hP hS (lset_h1 hl' hk) h1 h2)
theorem g_iinc {i : Nat} {n : Int} {x v : Int32} (hd : decode M.2.1 pc = .ok (.iinc i n, 3)) (hx : lget lv i = some (.int x)) (hv : x + Int32.ofInt n = v) (hn : i < M.2.2.1) (hk : lok1 lv i = true) (k : Go K M R (pc + 3) (lset lv i (.int v)) st h kc ks Q) : Go K M R pc lv st h kc ks Q := by
  intro p e s m args below meth c Z H locs cells slots ls C N hP hS hl h1 h2
  obtain ⟨q, hq⟩ := lget_mem hx
  exact lv_iinc C.1 C.2.1 hd hl hq hv hn rfl (fun ls' hl' => k p e s m args below meth c Z H locs cells slots ls' C N hP hS (lset_h1 hl' hk) h1 h2)
theorem g_if_eq {x : Int32} {off : Int} {tgt : Nat} (hd : decode M.2.1 pc = .ok (.ifCond .eq off, 3)) (ht : (pc : Int) + off = (tgt : Int)) (kt : x = 0 → Go K M R tgt lv st h kc ks Q) (kf : ¬ x = 0 → Go K M R (pc + 3) lv st h kc ks Q) : Go K M R pc lv (.int x :: st) h kc ks Q := by
  intro p e s m args below meth c Z H locs cells slots ls C N hP hS hl h1 h2
  exact lv_if_eq C.1 C.2.1 hd ht (fun q => kt q p e s m args below meth c Z H locs cells slots ls C N hP hS hl h1 h2) (fun q => kf q p e s m args below meth c Z H locs cells slots ls C N hP hS hl h1 h2)
theorem g_icmp_eq {x y : Int32} {off : Int} {tgt : Nat} (hd : decode M.2.1 pc = .ok (.if_icmp .eq off, 3)) (ht : (pc : Int) + off = (tgt : Int)) (kt : x = y → Go K M R tgt lv st h kc ks Q) (kf : ¬ x = y → Go K M R (pc + 3) lv st h kc ks Q) : Go K M R pc lv (.int y :: .int x :: st) h kc ks Q := by
  intro p e s m args below meth c Z H locs cells slots ls C N hP hS hl h1 h2
  exact lv_icmp_eq C.1 C.2.1 hd ht (fun q => kt q p e s m args below meth c Z H locs cells slots ls C N hP hS hl h1 h2) (fun q => kf q p e s m args below meth c Z H locs cells slots ls C N hP hS hl h1 h2)
theorem g_if_ne {x : Int32} {off : Int} {tgt : Nat} (hd : decode M.2.1 pc = .ok (.ifCond .ne off, 3)) (ht : (pc : Int) + off = (tgt : Int)) (kt : ¬ x = 0 → Go K M R tgt lv st h kc ks Q) (kf : x = 0 → Go K M R (pc + 3) lv st h kc ks Q) : Go K M R pc lv (.int x :: st) h kc ks Q := by
  intro p e s m args below meth c Z H locs cells slots ls C N hP hS hl h1 h2
  exact lv_if_ne C.1 C.2.1 hd ht (fun q => kt q p e s m args below meth c Z H locs cells slots ls C N hP hS hl h1 h2) (fun q => kf q p e s m args below meth c Z H locs cells slots ls C N hP hS hl h1 h2)
theorem g_icmp_ne {x y : Int32} {off : Int} {tgt : Nat} (hd : decode M.2.1 pc = .ok (.if_icmp .ne off, 3)) (ht : (pc : Int) + off = (tgt : Int)) (kt : ¬ x = y → Go K M R tgt lv st h kc ks Q) (kf : x = y → Go K M R (pc + 3) lv st h kc ks Q) : Go K M R pc lv (.int y :: .int x :: st) h kc ks Q := by
  intro p e s m args below meth c Z H locs cells slots ls C N hP hS hl h1 h2
  exact lv_icmp_ne C.1 C.2.1 hd ht (fun q => kt q p e s m args below meth c Z H locs cells slots ls C N hP hS hl h1 h2) (fun q => kf q p e s m args below meth c Z H locs cells slots ls C N hP hS hl h1 h2)
theorem g_if_lt {x : Int32} {off : Int} {tgt : Nat} (hd : decode M.2.1 pc = .ok (.ifCond .lt off, 3)) (ht : (pc : Int) + off = (tgt : Int)) (kt : x < 0 → Go K M R tgt lv st h kc ks Q) (kf : ¬ x < 0 → Go K M R (pc + 3) lv st h kc ks Q) : Go K M R pc lv (.int x :: st) h kc ks Q := by
  intro p e s m args below meth c Z H locs cells slots ls C N hP hS hl h1 h2
  exact lv_if_lt C.1 C.2.1 hd ht (fun q => kt q p e s m args below meth c Z H locs cells slots ls C N hP hS hl h1 h2) (fun q => kf q p e s m args below meth c Z H locs cells slots ls C N hP hS hl h1 h2)
theorem g_icmp_lt {x y : Int32} {off : Int} {tgt : Nat} (hd : decode M.2.1 pc = .ok (.if_icmp .lt off, 3)) (ht : (pc : Int) + off = (tgt : Int)) (kt : x < y → Go K M R tgt lv st h kc ks Q) (kf : ¬ x < y → Go K M R (pc + 3) lv st h kc ks Q) : Go K M R pc lv (.int y :: .int x :: st) h kc ks Q := by
  intro p e s m args below meth c Z H locs cells slots ls C N hP hS hl h1 h2
  exact lv_icmp_lt C.1 C.2.1 hd ht (fun q => kt q p e s m args below meth c Z H locs cells slots ls C N hP hS hl h1 h2) (fun q => kf q p e s m args below meth c Z H locs cells slots ls C N hP hS hl h1 h2)
theorem g_if_ge {x : Int32} {off : Int} {tgt : Nat} (hd : decode M.2.1 pc = .ok (.ifCond .ge off, 3)) (ht : (pc : Int) + off = (tgt : Int)) (kt : 0 ≤ x → Go K M R tgt lv st h kc ks Q) (kf : ¬ 0 ≤ x → Go K M R (pc + 3) lv st h kc ks Q) : Go K M R pc lv (.int x :: st) h kc ks Q := by
  intro p e s m args below meth c Z H locs cells slots ls C N hP hS hl h1 h2
  exact lv_if_ge C.1 C.2.1 hd ht (fun q => kt q p e s m args below meth c Z H locs cells slots ls C N hP hS hl h1 h2) (fun q => kf q p e s m args below meth c Z H locs cells slots ls C N hP hS hl h1 h2)
theorem g_icmp_ge {x y : Int32} {off : Int} {tgt : Nat} (hd : decode M.2.1 pc = .ok (.if_icmp .ge off, 3)) (ht : (pc : Int) + off = (tgt : Int)) (kt : y ≤ x → Go K M R tgt lv st h kc ks Q) (kf : ¬ y ≤ x → Go K M R (pc + 3) lv st h kc ks Q) : Go K M R pc lv (.int y :: .int x :: st) h kc ks Q := by
  intro p e s m args below meth c Z H locs cells slots ls C N hP hS hl h1 h2
  exact lv_icmp_ge C.1 C.2.1 hd ht (fun q => kt q p e s m args below meth c Z H locs cells slots ls C N hP hS hl h1 h2) (fun q => kf q p e s m args below meth c Z H locs cells slots ls C N hP hS hl h1 h2)
theorem g_if_gt {x : Int32} {off : Int} {tgt : Nat} (hd : decode M.2.1 pc = .ok (.ifCond .gt off, 3)) (ht : (pc : Int) + off = (tgt : Int)) (kt : 0 < x → Go K M R tgt lv st h kc ks Q) (kf : ¬ 0 < x → Go K M R (pc + 3) lv st h kc ks Q) : Go K M R pc lv (.int x :: st) h kc ks Q := by
  intro p e s m args below meth c Z H locs cells slots ls C N hP hS hl h1 h2
  exact lv_if_gt C.1 C.2.1 hd ht (fun q => kt q p e s m args below meth c Z H locs cells slots ls C N hP hS hl h1 h2) (fun q => kf q p e s m args below meth c Z H locs cells slots ls C N hP hS hl h1 h2)
theorem g_icmp_gt {x y : Int32} {off : Int} {tgt : Nat} (hd : decode M.2.1 pc = .ok (.if_icmp .gt off, 3)) (ht : (pc : Int) + off = (tgt : Int)) (kt : y < x → Go K M R tgt lv st h kc ks Q) (kf : ¬ y < x → Go K M R (pc + 3) lv st h kc ks Q) : Go K M R pc lv (.int y :: .int x :: st) h kc ks Q := by
  intro p e s m args below meth c Z H locs cells slots ls C N hP hS hl h1 h2
  exact lv_icmp_gt C.1 C.2.1 hd ht (fun q => kt q p e s m args below meth c Z H locs cells slots ls C N hP hS hl h1 h2) (fun q => kf q p e s m args below meth c Z H locs cells slots ls C N hP hS hl h1 h2)
theorem g_if_le {x : Int32} {off : Int} {tgt : Nat} (hd : decode M.2.1 pc = .ok (.ifCond .le off, 3)) (ht : (pc : Int) + off = (tgt : Int)) (kt : x ≤ 0 → Go K M R tgt lv st h kc ks Q) (kf : ¬ x ≤ 0 → Go K M R (pc + 3) lv st h kc ks Q) : Go K M R pc lv (.int x :: st) h kc ks Q := by
  intro p e s m args below meth c Z H locs cells slots ls C N hP hS hl h1 h2
  exact lv_if_le C.1 C.2.1 hd ht (fun q => kt q p e s m args below meth c Z H locs cells slots ls C N hP hS hl h1 h2) (fun q => kf q p e s m args below meth c Z H locs cells slots ls C N hP hS hl h1 h2)
theorem g_icmp_le {x y : Int32} {off : Int} {tgt : Nat} (hd : decode M.2.1 pc = .ok (.if_icmp .le off, 3)) (ht : (pc : Int) + off = (tgt : Int)) (kt : x ≤ y → Go K M R tgt lv st h kc ks Q) (kf : ¬ x ≤ y → Go K M R (pc + 3) lv st h kc ks Q) : Go K M R pc lv (.int y :: .int x :: st) h kc ks Q := by
  intro p e s m args below meth c Z H locs cells slots ls C N hP hS hl h1 h2
  exact lv_icmp_le C.1 C.2.1 hd ht (fun q => kt q p e s m args below meth c Z H locs cells slots ls C N hP hS hl h1 h2) (fun q => kf q p e s m args below meth c Z H locs cells slots ls C N hP hS hl h1 h2)
theorem g_ldc {idx : Nat} {v : Int32} (hd : decode M.2.1 pc = .ok (.ldc idx, 2)) (hw : Cond.constant M.1.cls idx v ∈ gW) (k : Go K M R (pc + 2) lv (.int v :: st) h kc ks Q) : Go K M R pc lv st h kc ks Q := by
  intro p e s m args below meth c Z H locs cells slots ls C N hP hS hl h1 h2
  exact lv_ldc C.1 C.2.1 C.2.2.2.2.2.2.1 (gT.word C.2.2.2.2.2.2.2.2.1 hw args) hd (k p e s m args below meth c Z H locs cells slots ls C N hP hS hl h1 h2)
theorem g_ldcw {idx : Nat} {v : Int32} (hd : decode M.2.1 pc = .ok (.ldc_w idx, 3)) (hw : Cond.constant M.1.cls idx v ∈ gW) (k : Go K M R (pc + 3) lv (.int v :: st) h kc ks Q) : Go K M R pc lv st h kc ks Q := by
  intro p e s m args below meth c Z H locs cells slots ls C N hP hS hl h1 h2
  exact lv_ldcw C.1 C.2.1 C.2.2.2.2.2.2.1 (gT.word C.2.2.2.2.2.2.2.2.1 hw args) hd (k p e s m args below meth c Z H locs cells slots ls C N hP hS hl h1 h2)
theorem g_ldc2 {idx : Nat} {v : Int64} (hd : decode M.2.1 pc = .ok (.ldc2_w idx, 3)) (hw : Cond.constantLong M.1.cls idx v ∈ gW) (k : Go K M R (pc + 3) lv (.long v :: st) h kc ks Q) : Go K M R pc lv st h kc ks Q := by
  intro p e s m args below meth c Z H locs cells slots ls C N hP hS hl h1 h2
  exact lv_ldc2 C.1 C.2.1 C.2.2.2.2.2.2.1 (gT.word C.2.2.2.2.2.2.2.2.1 hw args) hd (k p e s m args below meth c Z H locs cells slots ls C N hP hS hl h1 h2)
theorem g_goto {off : Int} {tgt : Nat} (hd : decode M.2.1 pc = .ok (.goto off, 3)) (ht : (pc : Int) + off = (tgt : Int)) (k : Go K M R tgt lv st h kc ks Q) : Go K M R pc lv st h kc ks Q := by
  intro p e s m args below meth c Z H locs cells slots ls C N hP hS hl h1 h2
  exact lv_goto C.1 C.2.1 hd ht (k p e s m args below meth c Z H locs cells slots ls C N hP hS hl h1 h2)
theorem g_lookup {dflt : Int} {ps : Array (Int × Int)} {len : Nat} {x : Int32} {off : Int} {tgt : Nat} (hd : decode M.2.1 pc = .ok (.lookupswitch dflt ps, len)) (hp : (ps.toList.zip (ps.toList.drop 1)).all (fun (a, next) => a.1 < next.1) = true) (ho : Op.lookupswitch.offset ps.toList dflt x.toInt = off) (ht : (pc : Int) + off = (tgt : Int)) (k : Go K M R tgt lv st h kc ks Q) : Go K M R pc lv (.int x :: st) h kc ks Q := by
  intro p e s m args below meth c Z H locs cells slots ls C N hP hS hl h1 h2
  exact lv_lookup C.1 C.2.1 hd hp ho ht (k p e s m args below meth c Z H locs cells slots ls C N hP hS hl h1 h2)
theorem g_tabOut {dflt lo hi : Int} {offs : Array Int} {len : Nat} {x : Int32} {tgt : Nat} (hd : decode M.2.1 pc = .ok (.tableswitch dflt lo hi offs, len)) (hx : x.toInt < lo ∨ hi < x.toInt) (ht : (pc : Int) + dflt = (tgt : Int)) (k : Go K M R tgt lv st h kc ks Q) : Go K M R pc lv (.int x :: st) h kc ks Q := by
  intro p e s m args below meth c Z H locs cells slots ls C N hP hS hl h1 h2
  exact lv_tableOut C.1 C.2.1 hd hx ht (k p e s m args below meth c Z H locs cells slots ls C N hP hS hl h1 h2)
theorem g_tabIn {dflt lo hi : Int} {offs : Array Int} {len : Nat} {x : Int32} {off : Int} {tgt : Nat} (hd : decode M.2.1 pc = .ok (.tableswitch dflt lo hi offs, len)) (h3 : ¬ x.toInt < lo) (h4 : ¬ hi < x.toInt) (ho : offs[(x.toInt - lo).toNat]? = some off) (ht : (pc : Int) + off = (tgt : Int)) (k : Go K M R tgt lv st h kc ks Q) : Go K M R pc lv (.int x :: st) h kc ks Q := by
  intro p e s m args below meth c Z H locs cells slots ls C N hP hS hl h1 h2
  exact lv_tableIn C.1 C.2.1 hd h3 h4 ho ht (k p e s m args below meth c Z H locs cells slots ls C N hP hS hl h1 h2)
theorem g_icmpN_eq {x y : Int32} {a b : Nat} {off : Int} {tgt : Nat} (hd : decode M.2.1 pc = .ok (.if_icmp .eq off, 3)) (ht : (pc : Int) + off = (tgt : Int)) (hx : x = nI a) (hy : y = nI b) (ha : a < 2 ^ 31) (hb : b < 2 ^ 31) (kt : a = b → Go K M R tgt lv st h kc ks Q) (kf : a ≠ b → Go K M R (pc + 3) lv st h kc ks Q) : Go K M R pc lv (.int y :: .int x :: st) h kc ks Q := by
  subst hx; subst hy
  exact g_icmp_eq hd ht (fun q => kt ((nI_eq ha hb).mp q)) (fun q => kf (fun z => q ((nI_eq ha hb).mpr z)))
theorem g_icmpN_ne {x y : Int32} {a b : Nat} {off : Int} {tgt : Nat} (hd : decode M.2.1 pc = .ok (.if_icmp .ne off, 3)) (ht : (pc : Int) + off = (tgt : Int)) (hx : x = nI a) (hy : y = nI b) (ha : a < 2 ^ 31) (hb : b < 2 ^ 31) (kt : a ≠ b → Go K M R tgt lv st h kc ks Q) (kf : a = b → Go K M R (pc + 3) lv st h kc ks Q) : Go K M R pc lv (.int y :: .int x :: st) h kc ks Q := by
  subst hx; subst hy
  exact g_icmp_ne hd ht (fun q => kt (fun z => q ((nI_eq ha hb).mpr z))) (fun q => kf ((nI_eq ha hb).mp q))
theorem g_icmpN_lt {x y : Int32} {a b : Nat} {off : Int} {tgt : Nat} (hd : decode M.2.1 pc = .ok (.if_icmp .lt off, 3)) (ht : (pc : Int) + off = (tgt : Int)) (hx : x = nI a) (hy : y = nI b) (ha : a < 2 ^ 31) (hb : b < 2 ^ 31) (kt : a < b → Go K M R tgt lv st h kc ks Q) (kf : b ≤ a → Go K M R (pc + 3) lv st h kc ks Q) : Go K M R pc lv (.int y :: .int x :: st) h kc ks Q := by
  subst hx; subst hy
  exact g_icmp_lt hd ht (fun q => kt ((nI_ltI ha hb).mp q)) (fun q => kf (Nat.not_lt.mp (fun z => q ((nI_ltI ha hb).mpr z))))
theorem g_icmpN_ge {x y : Int32} {a b : Nat} {off : Int} {tgt : Nat} (hd : decode M.2.1 pc = .ok (.if_icmp .ge off, 3)) (ht : (pc : Int) + off = (tgt : Int)) (hx : x = nI a) (hy : y = nI b) (ha : a < 2 ^ 31) (hb : b < 2 ^ 31) (kt : b ≤ a → Go K M R tgt lv st h kc ks Q) (kf : a < b → Go K M R (pc + 3) lv st h kc ks Q) : Go K M R pc lv (.int y :: .int x :: st) h kc ks Q := by
  subst hx; subst hy
  exact g_icmp_ge hd ht (fun q => kt ((nI_leI hb ha).mp q)) (fun q => kf (Nat.not_le.mp (fun z => q ((nI_leI hb ha).mpr z))))
theorem g_icmpN_gt {x y : Int32} {a b : Nat} {off : Int} {tgt : Nat} (hd : decode M.2.1 pc = .ok (.if_icmp .gt off, 3)) (ht : (pc : Int) + off = (tgt : Int)) (hx : x = nI a) (hy : y = nI b) (ha : a < 2 ^ 31) (hb : b < 2 ^ 31) (kt : b < a → Go K M R tgt lv st h kc ks Q) (kf : a ≤ b → Go K M R (pc + 3) lv st h kc ks Q) : Go K M R pc lv (.int y :: .int x :: st) h kc ks Q := by
  subst hx; subst hy
  exact g_icmp_gt hd ht (fun q => kt ((nI_ltI hb ha).mp q)) (fun q => kf (Nat.not_lt.mp (fun z => q ((nI_ltI hb ha).mpr z))))
theorem g_icmpN_le {x y : Int32} {a b : Nat} {off : Int} {tgt : Nat} (hd : decode M.2.1 pc = .ok (.if_icmp .le off, 3)) (ht : (pc : Int) + off = (tgt : Int)) (hx : x = nI a) (hy : y = nI b) (ha : a < 2 ^ 31) (hb : b < 2 ^ 31) (kt : a ≤ b → Go K M R tgt lv st h kc ks Q) (kf : b < a → Go K M R (pc + 3) lv st h kc ks Q) : Go K M R pc lv (.int y :: .int x :: st) h kc ks Q := by
  subst hx; subst hy
  exact g_icmp_le hd ht (fun q => kt ((nI_leI ha hb).mp q)) (fun q => kf (Nat.not_le.mp (fun z => q ((nI_leI ha hb).mpr z))))
end GOROWS
