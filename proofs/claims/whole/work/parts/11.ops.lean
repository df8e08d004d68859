section AE
variable {y : aY} {R : Room} {Q : Option Value → Nat → aM → Prop} {pc : Nat} {ls : List (Option Value)} {st : List Value} {n : Nat} {mem : aM} {k1 k2 : Nat}
theorem aE_iconst {i : Int} {v : Int32} (hd : decode y.2.2.1 pc = .ok (.iconst i, 1)) (hv : Int32.ofInt i = v) (k : aE y R Q (pc + 1) ls (.int v :: st) n mem k1 k2) : aE y R Q pc ls (st) n mem k1 k2 := by
  intro g p l e s m args below meth c H locs A hF hS hR hL
  exact lv_iconst hF.1 hF.2.1 hd hv (k g p l e s m args below meth c H locs A hF hS hR hL)
theorem aE_bipush {i : Int} {v : Int32} (hd : decode y.2.2.1 pc = .ok (.bipush i, 2)) (hv : (Int8.ofInt i).toInt32 = v) (k : aE y R Q (pc + 2) ls (.int v :: st) n mem k1 k2) : aE y R Q pc ls (st) n mem k1 k2 := by
  intro g p l e s m args below meth c H locs A hF hS hR hL
  exact lv_bipush hF.1 hF.2.1 hd hv (k g p l e s m args below meth c H locs A hF hS hR hL)
theorem aE_sipush {i : Int} {v : Int32} (hd : decode y.2.2.1 pc = .ok (.sipush i, 3)) (hv : (Int16.ofInt i).toInt32 = v) (k : aE y R Q (pc + 3) ls (.int v :: st) n mem k1 k2) : aE y R Q pc ls (st) n mem k1 k2 := by
  intro g p l e s m args below meth c H locs A hF hS hR hL
  exact lv_sipush hF.1 hF.2.1 hd hv (k g p l e s m args below meth c H locs A hF hS hR hL)
theorem aE_ldc {i : Nat} {v : Int32} (hd : decode y.2.2.1 pc = .ok (.ldc i, 2)) (hw : Cond.constant y.1 i v ∈ lw_g) (k : aE y R Q (pc + 2) ls (.int v :: st) n mem k1 k2) : aE y R Q pc ls (st) n mem k1 k2 := by
  intro g p l e s m args below meth c H locs A hF hS hR hL
  exact lv_ldc hF.1 hF.2.1 hF.2.2.2.2.1 (hF.2.2.2.2.2.1 _ hw) hd (k g p l e s m args below meth c H locs A hF hS hR hL)
theorem aE_ldcw {i : Nat} {v : Int32} (hd : decode y.2.2.1 pc = .ok (.ldc_w i, 3)) (hw : Cond.constant y.1 i v ∈ lw_g) (k : aE y R Q (pc + 3) ls (.int v :: st) n mem k1 k2) : aE y R Q pc ls (st) n mem k1 k2 := by
  intro g p l e s m args below meth c H locs A hF hS hR hL
  exact lv_ldcw hF.1 hF.2.1 hF.2.2.2.2.1 (hF.2.2.2.2.2.1 _ hw) hd (k g p l e s m args below meth c H locs A hF hS hR hL)
theorem aE_ldc2 {i : Nat} {v : Int64} (hd : decode y.2.2.1 pc = .ok (.ldc2_w i, 3)) (hw : Cond.constantLong y.1 i v ∈ lw_g) (k : aE y R Q (pc + 3) ls (.long v :: st) n mem k1 k2) : aE y R Q pc ls (st) n mem k1 k2 := by
  intro g p l e s m args below meth c H locs A hF hS hR hL
  exact lv_ldc2 hF.1 hF.2.1 hF.2.2.2.2.1 (hF.2.2.2.2.2.1 _ hw) hd (k g p l e s m args below meth c H locs A hF hS hR hL)
theorem aE_iload_n {j : Fin 4} {i : Nat} {x : Int32} (hd : decode y.2.2.1 pc = .ok (.iload_n j, 1)) (hi : (j : Nat) = i) (hx : a_lk ls i = some (.int x)) (k : aE y R Q (pc + 1) ls (.int x :: st) n mem k1 k2) : aE y R Q pc ls (st) n mem k1 k2 := by
  intro g p l e s m args below meth c H locs A hF hS hR hL
  exact lv_iload_n hF.1 hF.2.1 hd hi (hL.2.2 i _ hx) (k g p l e s m args below meth c H locs A hF hS hR hL)
theorem aE_iload {i : Nat} {x : Int32} (hd : decode y.2.2.1 pc = .ok (.iload i, 2)) (hx : a_lk ls i = some (.int x)) (k : aE y R Q (pc + 2) ls (.int x :: st) n mem k1 k2) : aE y R Q pc ls (st) n mem k1 k2 := by
  intro g p l e s m args below meth c H locs A hF hS hR hL
  exact lv_iload hF.1 hF.2.1 hd (hL.2.2 i _ hx) (k g p l e s m args below meth c H locs A hF hS hR hL)
theorem aE_aload_n {j : Fin 4} {i : Nat} {x : Nat} (hd : decode y.2.2.1 pc = .ok (.aload_n j, 1)) (hi : (j : Nat) = i) (hx : a_lk ls i = some (.ref x)) (k : aE y R Q (pc + 1) ls (.ref x :: st) n mem k1 k2) : aE y R Q pc ls (st) n mem k1 k2 := by
  intro g p l e s m args below meth c H locs A hF hS hR hL
  exact lv_aload_n hF.1 hF.2.1 hd hi (hL.2.2 i _ hx) (k g p l e s m args below meth c H locs A hF hS hR hL)
theorem aE_aload {i : Nat} {x : Nat} (hd : decode y.2.2.1 pc = .ok (.aload i, 2)) (hx : a_lk ls i = some (.ref x)) (k : aE y R Q (pc + 2) ls (.ref x :: st) n mem k1 k2) : aE y R Q pc ls (st) n mem k1 k2 := by
  intro g p l e s m args below meth c H locs A hF hS hR hL
  exact lv_aload hF.1 hF.2.1 hd (hL.2.2 i _ hx) (k g p l e s m args below meth c H locs A hF hS hR hL)
theorem aE_lload_n {j : Fin 4} {i : Nat} {x : Int64} (hd : decode y.2.2.1 pc = .ok (.lload_n j, 1)) (hi : (j : Nat) = i) (hx : a_lk ls i = some (.long x)) (k : aE y R Q (pc + 1) ls (.long x :: st) n mem k1 k2) : aE y R Q pc ls (st) n mem k1 k2 := by
  intro g p l e s m args below meth c H locs A hF hS hR hL
  exact lv_lload_n hF.1 hF.2.1 hd hi (hL.2.2 i _ hx) (k g p l e s m args below meth c H locs A hF hS hR hL)
theorem aE_dup {v : Value} (hd : decode y.2.2.1 pc = .ok (.dup, 1)) (hv : v.category = 1) (k : aE y R Q (pc + 1) ls (v :: v :: st) n mem k1 k2) : aE y R Q pc ls (v :: st) n mem k1 k2 := by
  intro g p l e s m args below meth c H locs A hF hS hR hL
  exact lv_dup hF.1 hF.2.1 hd ((a_cat g v).trans hv) (k g p l e s m args below meth c H locs A hF hS hR hL)
theorem aE_dup2 {v w : Value} (hd : decode y.2.2.1 pc = .ok (.dup2, 1)) (hv : v.category = 1) (hw : w.category = 1) (k : aE y R Q (pc + 1) ls (v :: w :: v :: w :: st) n mem k1 k2) : aE y R Q pc ls (v :: w :: st) n mem k1 k2 := by
  intro g p l e s m args below meth c H locs A hF hS hR hL
  exact lv_dup2_11 hF.1 hF.2.1 hd ((a_cat g v).trans hv) ((a_cat g w).trans hw) (k g p l e s m args below meth c H locs A hF hS hR hL)
theorem aE_iadd {a b : Int32} (hd : decode y.2.2.1 pc = .ok (.iadd, 1))  (k : aE y R Q (pc + 1) ls (.int (a + b) :: st) n mem k1 k2) : aE y R Q pc ls (.int b :: .int a :: st) n mem k1 k2 := by
  intro g p l e s m args below meth c H locs A hF hS hR hL
  exact lv_iadd hF.1 hF.2.1 hd (k g p l e s m args below meth c H locs A hF hS hR hL)
theorem aE_isub {a b : Int32} (hd : decode y.2.2.1 pc = .ok (.isub, 1))  (k : aE y R Q (pc + 1) ls (.int (a - b) :: st) n mem k1 k2) : aE y R Q pc ls (.int b :: .int a :: st) n mem k1 k2 := by
  intro g p l e s m args below meth c H locs A hF hS hR hL
  exact lv_isub hF.1 hF.2.1 hd (k g p l e s m args below meth c H locs A hF hS hR hL)
theorem aE_imul {a b : Int32} (hd : decode y.2.2.1 pc = .ok (.imul, 1))  (k : aE y R Q (pc + 1) ls (.int (a * b) :: st) n mem k1 k2) : aE y R Q pc ls (.int b :: .int a :: st) n mem k1 k2 := by
  intro g p l e s m args below meth c H locs A hF hS hR hL
  exact lv_imul hF.1 hF.2.1 hd (k g p l e s m args below meth c H locs A hF hS hR hL)
theorem aE_iand {a b : Int32} (hd : decode y.2.2.1 pc = .ok (.iand, 1))  (k : aE y R Q (pc + 1) ls (.int (a &&& b) :: st) n mem k1 k2) : aE y R Q pc ls (.int b :: .int a :: st) n mem k1 k2 := by
  intro g p l e s m args below meth c H locs A hF hS hR hL
  exact lv_iand hF.1 hF.2.1 hd (k g p l e s m args below meth c H locs A hF hS hR hL)
theorem aE_ior {a b : Int32} (hd : decode y.2.2.1 pc = .ok (.ior, 1))  (k : aE y R Q (pc + 1) ls (.int (a ||| b) :: st) n mem k1 k2) : aE y R Q pc ls (.int b :: .int a :: st) n mem k1 k2 := by
  intro g p l e s m args below meth c H locs A hF hS hR hL
  exact lv_ior hF.1 hF.2.1 hd (k g p l e s m args below meth c H locs A hF hS hR hL)
theorem aE_ixor {a b : Int32} (hd : decode y.2.2.1 pc = .ok (.ixor, 1))  (k : aE y R Q (pc + 1) ls (.int (a ^^^ b) :: st) n mem k1 k2) : aE y R Q pc ls (.int b :: .int a :: st) n mem k1 k2 := by
  intro g p l e s m args below meth c H locs A hF hS hR hL
  exact lv_ixor hF.1 hF.2.1 hd (k g p l e s m args below meth c H locs A hF hS hR hL)
theorem aE_idiv {a b : Int32} (hd : decode y.2.2.1 pc = .ok (.idiv, 1)) (hb : ¬ b = 0) (k : aE y R Q (pc + 1) ls (.int (a / b) :: st) n mem k1 k2) : aE y R Q pc ls (.int b :: .int a :: st) n mem k1 k2 := by
  intro g p l e s m args below meth c H locs A hF hS hR hL
  exact lv_idiv hF.1 hF.2.1 hd hb (k g p l e s m args below meth c H locs A hF hS hR hL)
theorem aE_irem {a b : Int32} (hd : decode y.2.2.1 pc = .ok (.irem, 1)) (hb : ¬ b = 0) (k : aE y R Q (pc + 1) ls (.int (a - a / b * b) :: st) n mem k1 k2) : aE y R Q pc ls (.int b :: .int a :: st) n mem k1 k2 := by
  intro g p l e s m args below meth c H locs A hF hS hR hL
  exact lv_irem hF.1 hF.2.1 hd hb (k g p l e s m args below meth c H locs A hF hS hR hL)
theorem aE_ineg {a : Int32} (hd : decode y.2.2.1 pc = .ok (.ineg, 1))  (k : aE y R Q (pc + 1) ls (.int (-a) :: st) n mem k1 k2) : aE y R Q pc ls (.int a :: st) n mem k1 k2 := by
  intro g p l e s m args below meth c H locs A hF hS hR hL
  exact lv_ineg hF.1 hF.2.1 hd (k g p l e s m args below meth c H locs A hF hS hR hL)
theorem aE_ishl {a b : Int32} (hd : decode y.2.2.1 pc = .ok (.ishl, 1))  (k : aE y R Q (pc + 1) ls (.int (a <<< (b &&& 31)) :: st) n mem k1 k2) : aE y R Q pc ls (.int b :: .int a :: st) n mem k1 k2 := by
  intro g p l e s m args below meth c H locs A hF hS hR hL
  exact lv_ishl hF.1 hF.2.1 hd (k g p l e s m args below meth c H locs A hF hS hR hL)
theorem aE_ishr {a b : Int32} (hd : decode y.2.2.1 pc = .ok (.ishr, 1))  (k : aE y R Q (pc + 1) ls (.int (a >>> (b &&& 31)) :: st) n mem k1 k2) : aE y R Q pc ls (.int b :: .int a :: st) n mem k1 k2 := by
  intro g p l e s m args below meth c H locs A hF hS hR hL
  exact lv_ishr hF.1 hF.2.1 hd (k g p l e s m args below meth c H locs A hF hS hR hL)
theorem aE_iushr {a b : Int32} (hd : decode y.2.2.1 pc = .ok (.iushr, 1))  (k : aE y R Q (pc + 1) ls (.int (a.toUInt32 >>> (b.toUInt32 &&& Int32.toUInt32 31)).toInt32 :: st) n mem k1 k2) : aE y R Q pc ls (.int b :: .int a :: st) n mem k1 k2 := by
  intro g p l e s m args below meth c H locs A hF hS hR hL
  exact lv_iushr hF.1 hF.2.1 hd rfl (k g p l e s m args below meth c H locs A hF hS hR hL)
theorem aE_i2l {a : Int32} (hd : decode y.2.2.1 pc = .ok (.i2l, 1))  (k : aE y R Q (pc + 1) ls (.long a.toInt64 :: st) n mem k1 k2) : aE y R Q pc ls (.int a :: st) n mem k1 k2 := by
  intro g p l e s m args below meth c H locs A hF hS hR hL
  exact lv_i2l hF.1 hF.2.1 hd rfl (k g p l e s m args below meth c H locs A hF hS hR hL)
theorem aE_l2i {a : Int64} (hd : decode y.2.2.1 pc = .ok (.l2i, 1))  (k : aE y R Q (pc + 1) ls (.int a.toInt32 :: st) n mem k1 k2) : aE y R Q pc ls (.long a :: st) n mem k1 k2 := by
  intro g p l e s m args below meth c H locs A hF hS hR hL
  exact lv_l2i hF.1 hF.2.1 hd rfl (k g p l e s m args below meth c H locs A hF hS hR hL)
theorem aE_i2b {a : Int32} (hd : decode y.2.2.1 pc = .ok (.i2b, 1))  (k : aE y R Q (pc + 1) ls (.int a.toInt8.toInt32 :: st) n mem k1 k2) : aE y R Q pc ls (.int a :: st) n mem k1 k2 := by
  intro g p l e s m args below meth c H locs A hF hS hR hL
  exact lv_i2b hF.1 hF.2.1 hd rfl (k g p l e s m args below meth c H locs A hF hS hR hL)
theorem aE_i2s {a : Int32} (hd : decode y.2.2.1 pc = .ok (.i2s, 1))  (k : aE y R Q (pc + 1) ls (.int a.toInt16.toInt32 :: st) n mem k1 k2) : aE y R Q pc ls (.int a :: st) n mem k1 k2 := by
  intro g p l e s m args below meth c H locs A hF hS hR hL
  exact lv_i2s hF.1 hF.2.1 hd rfl (k g p l e s m args below meth c H locs A hF hS hR hL)
theorem aE_ladd {a b : Int64} (hd : decode y.2.2.1 pc = .ok (.ladd, 1))  (k : aE y R Q (pc + 1) ls (.long (a + b) :: st) n mem k1 k2) : aE y R Q pc ls (.long b :: .long a :: st) n mem k1 k2 := by
  intro g p l e s m args below meth c H locs A hF hS hR hL
  exact lv_ladd hF.1 hF.2.1 hd (k g p l e s m args below meth c H locs A hF hS hR hL)
theorem aE_land {a b : Int64} (hd : decode y.2.2.1 pc = .ok (.land, 1))  (k : aE y R Q (pc + 1) ls (.long (a &&& b) :: st) n mem k1 k2) : aE y R Q pc ls (.long b :: .long a :: st) n mem k1 k2 := by
  intro g p l e s m args below meth c H locs A hF hS hR hL
  exact lv_land hF.1 hF.2.1 hd (k g p l e s m args below meth c H locs A hF hS hR hL)
theorem aE_lor {a b : Int64} (hd : decode y.2.2.1 pc = .ok (.lor, 1))  (k : aE y R Q (pc + 1) ls (.long (a ||| b) :: st) n mem k1 k2) : aE y R Q pc ls (.long b :: .long a :: st) n mem k1 k2 := by
  intro g p l e s m args below meth c H locs A hF hS hR hL
  exact lv_lor hF.1 hF.2.1 hd (k g p l e s m args below meth c H locs A hF hS hR hL)
theorem aE_lshl {a : Int64} {b : Int32} (hd : decode y.2.2.1 pc = .ok (.lshl, 1))  (k : aE y R Q (pc + 1) ls (.long (a <<< (b.toInt64 &&& 63)) :: st) n mem k1 k2) : aE y R Q pc ls (.int b :: .long a :: st) n mem k1 k2 := by
  intro g p l e s m args below meth c H locs A hF hS hR hL
  exact lv_lshl hF.1 hF.2.1 hd rfl (k g p l e s m args below meth c H locs A hF hS hR hL)
theorem aE_lshr {a : Int64} {b : Int32} (hd : decode y.2.2.1 pc = .ok (.lshr, 1))  (k : aE y R Q (pc + 1) ls (.long (a >>> (b.toInt64 &&& 63)) :: st) n mem k1 k2) : aE y R Q pc ls (.int b :: .long a :: st) n mem k1 k2 := by
  intro g p l e s m args below meth c H locs A hF hS hR hL
  exact lv_lshr hF.1 hF.2.1 hd rfl (k g p l e s m args below meth c H locs A hF hS hR hL)
theorem aE_lcmp {a b : Int64} (hd : decode y.2.2.1 pc = .ok (.lcmp, 1))  (k : aE y R Q (pc + 1) ls (.int (lg_cmp a b) :: st) n mem k1 k2) : aE y R Q pc ls (.long b :: .long a :: st) n mem k1 k2 := by
  intro g p l e s m args below meth c H locs A hF hS hR hL
  exact W.lcmp hF.1 hF.2.1 hd (k g p l e s m args below meth c H locs A hF hS hR hL)
theorem aE_icmp_eq {a b : Int32} {off : Int} {tgt : Nat} (hd : decode y.2.2.1 pc = .ok (.if_icmp .eq off, 3)) (ht : (pc : Int) + off = (tgt : Int)) (kt : a = b → aE y R Q tgt ls st n mem k1 k2) (kf : ¬ a = b → aE y R Q (pc + 3) ls st n mem k1 k2) : aE y R Q pc ls (.int b :: .int a :: st) n mem k1 k2 := by
  intro g p l e s m args below meth c H locs A hF hS hR hL
  exact lv_icmp_eq hF.1 hF.2.1 hd ht (fun h => kt h g p l e s m args below meth c H locs A hF hS hR hL) (fun h => kf h g p l e s m args below meth c H locs A hF hS hR hL)
theorem aE_if_eq {a : Int32} {off : Int} {tgt : Nat} (hd : decode y.2.2.1 pc = .ok (.ifCond .eq off, 3)) (ht : (pc : Int) + off = (tgt : Int)) (kt : a = 0 → aE y R Q tgt ls st n mem k1 k2) (kf : ¬ a = 0 → aE y R Q (pc + 3) ls st n mem k1 k2) : aE y R Q pc ls (.int a :: st) n mem k1 k2 := by
  intro g p l e s m args below meth c H locs A hF hS hR hL
  exact lv_if_eq hF.1 hF.2.1 hd ht (fun h => kt h g p l e s m args below meth c H locs A hF hS hR hL) (fun h => kf h g p l e s m args below meth c H locs A hF hS hR hL)
theorem aE_icmp_ne {a b : Int32} {off : Int} {tgt : Nat} (hd : decode y.2.2.1 pc = .ok (.if_icmp .ne off, 3)) (ht : (pc : Int) + off = (tgt : Int)) (kt : ¬ a = b → aE y R Q tgt ls st n mem k1 k2) (kf : a = b → aE y R Q (pc + 3) ls st n mem k1 k2) : aE y R Q pc ls (.int b :: .int a :: st) n mem k1 k2 := by
  intro g p l e s m args below meth c H locs A hF hS hR hL
  exact lv_icmp_ne hF.1 hF.2.1 hd ht (fun h => kt h g p l e s m args below meth c H locs A hF hS hR hL) (fun h => kf h g p l e s m args below meth c H locs A hF hS hR hL)
theorem aE_if_ne {a : Int32} {off : Int} {tgt : Nat} (hd : decode y.2.2.1 pc = .ok (.ifCond .ne off, 3)) (ht : (pc : Int) + off = (tgt : Int)) (kt : ¬ a = 0 → aE y R Q tgt ls st n mem k1 k2) (kf : a = 0 → aE y R Q (pc + 3) ls st n mem k1 k2) : aE y R Q pc ls (.int a :: st) n mem k1 k2 := by
  intro g p l e s m args below meth c H locs A hF hS hR hL
  exact lv_if_ne hF.1 hF.2.1 hd ht (fun h => kt h g p l e s m args below meth c H locs A hF hS hR hL) (fun h => kf h g p l e s m args below meth c H locs A hF hS hR hL)
theorem aE_icmp_lt {a b : Int32} {off : Int} {tgt : Nat} (hd : decode y.2.2.1 pc = .ok (.if_icmp .lt off, 3)) (ht : (pc : Int) + off = (tgt : Int)) (kt : a < b → aE y R Q tgt ls st n mem k1 k2) (kf : ¬ a < b → aE y R Q (pc + 3) ls st n mem k1 k2) : aE y R Q pc ls (.int b :: .int a :: st) n mem k1 k2 := by
  intro g p l e s m args below meth c H locs A hF hS hR hL
  exact lv_icmp_lt hF.1 hF.2.1 hd ht (fun h => kt h g p l e s m args below meth c H locs A hF hS hR hL) (fun h => kf h g p l e s m args below meth c H locs A hF hS hR hL)
theorem aE_if_lt {a : Int32} {off : Int} {tgt : Nat} (hd : decode y.2.2.1 pc = .ok (.ifCond .lt off, 3)) (ht : (pc : Int) + off = (tgt : Int)) (kt : a < 0 → aE y R Q tgt ls st n mem k1 k2) (kf : ¬ a < 0 → aE y R Q (pc + 3) ls st n mem k1 k2) : aE y R Q pc ls (.int a :: st) n mem k1 k2 := by
  intro g p l e s m args below meth c H locs A hF hS hR hL
  exact lv_if_lt hF.1 hF.2.1 hd ht (fun h => kt h g p l e s m args below meth c H locs A hF hS hR hL) (fun h => kf h g p l e s m args below meth c H locs A hF hS hR hL)
theorem aE_icmp_ge {a b : Int32} {off : Int} {tgt : Nat} (hd : decode y.2.2.1 pc = .ok (.if_icmp .ge off, 3)) (ht : (pc : Int) + off = (tgt : Int)) (kt : b ≤ a → aE y R Q tgt ls st n mem k1 k2) (kf : ¬ b ≤ a → aE y R Q (pc + 3) ls st n mem k1 k2) : aE y R Q pc ls (.int b :: .int a :: st) n mem k1 k2 := by
  intro g p l e s m args below meth c H locs A hF hS hR hL
  exact lv_icmp_ge hF.1 hF.2.1 hd ht (fun h => kt h g p l e s m args below meth c H locs A hF hS hR hL) (fun h => kf h g p l e s m args below meth c H locs A hF hS hR hL)
theorem aE_if_ge {a : Int32} {off : Int} {tgt : Nat} (hd : decode y.2.2.1 pc = .ok (.ifCond .ge off, 3)) (ht : (pc : Int) + off = (tgt : Int)) (kt : 0 ≤ a → aE y R Q tgt ls st n mem k1 k2) (kf : ¬ 0 ≤ a → aE y R Q (pc + 3) ls st n mem k1 k2) : aE y R Q pc ls (.int a :: st) n mem k1 k2 := by
  intro g p l e s m args below meth c H locs A hF hS hR hL
  exact lv_if_ge hF.1 hF.2.1 hd ht (fun h => kt h g p l e s m args below meth c H locs A hF hS hR hL) (fun h => kf h g p l e s m args below meth c H locs A hF hS hR hL)
theorem aE_icmp_gt {a b : Int32} {off : Int} {tgt : Nat} (hd : decode y.2.2.1 pc = .ok (.if_icmp .gt off, 3)) (ht : (pc : Int) + off = (tgt : Int)) (kt : b < a → aE y R Q tgt ls st n mem k1 k2) (kf : ¬ b < a → aE y R Q (pc + 3) ls st n mem k1 k2) : aE y R Q pc ls (.int b :: .int a :: st) n mem k1 k2 := by
  intro g p l e s m args below meth c H locs A hF hS hR hL
  exact lv_icmp_gt hF.1 hF.2.1 hd ht (fun h => kt h g p l e s m args below meth c H locs A hF hS hR hL) (fun h => kf h g p l e s m args below meth c H locs A hF hS hR hL)
theorem aE_if_gt {a : Int32} {off : Int} {tgt : Nat} (hd : decode y.2.2.1 pc = .ok (.ifCond .gt off, 3)) (ht : (pc : Int) + off = (tgt : Int)) (kt : 0 < a → aE y R Q tgt ls st n mem k1 k2) (kf : ¬ 0 < a → aE y R Q (pc + 3) ls st n mem k1 k2) : aE y R Q pc ls (.int a :: st) n mem k1 k2 := by
  intro g p l e s m args below meth c H locs A hF hS hR hL
  exact lv_if_gt hF.1 hF.2.1 hd ht (fun h => kt h g p l e s m args below meth c H locs A hF hS hR hL) (fun h => kf h g p l e s m args below meth c H locs A hF hS hR hL)
theorem aE_icmp_le {a b : Int32} {off : Int} {tgt : Nat} (hd : decode y.2.2.1 pc = .ok (.if_icmp .le off, 3)) (ht : (pc : Int) + off = (tgt : Int)) (kt : a ≤ b → aE y R Q tgt ls st n mem k1 k2) (kf : ¬ a ≤ b → aE y R Q (pc + 3) ls st n mem k1 k2) : aE y R Q pc ls (.int b :: .int a :: st) n mem k1 k2 := by
  intro g p l e s m args below meth c H locs A hF hS hR hL
  exact lv_icmp_le hF.1 hF.2.1 hd ht (fun h => kt h g p l e s m args below meth c H locs A hF hS hR hL) (fun h => kf h g p l e s m args below meth c H locs A hF hS hR hL)
theorem aE_if_le {a : Int32} {off : Int} {tgt : Nat} (hd : decode y.2.2.1 pc = .ok (.ifCond .le off, 3)) (ht : (pc : Int) + off = (tgt : Int)) (kt : a ≤ 0 → aE y R Q tgt ls st n mem k1 k2) (kf : ¬ a ≤ 0 → aE y R Q (pc + 3) ls st n mem k1 k2) : aE y R Q pc ls (.int a :: st) n mem k1 k2 := by
  intro g p l e s m args below meth c H locs A hF hS hR hL
  exact lv_if_le hF.1 hF.2.1 hd ht (fun h => kt h g p l e s m args below meth c H locs A hF hS hR hL) (fun h => kf h g p l e s m args below meth c H locs A hF hS hR hL)
theorem aE_goto {off : Int} {tgt : Nat} (hd : decode y.2.2.1 pc = .ok (.goto off, 3)) (ht : (pc : Int) + off = (tgt : Int)) (k : aE y R Q tgt ls st n mem k1 k2) : aE y R Q pc ls st n mem k1 k2 := by
  intro g p l e s m args below meth c H locs A hF hS hR hL
  exact lv_goto hF.1 hF.2.1 hd ht (k g p l e s m args below meth c H locs A hF hS hR hL)
theorem aE_nonnull {off : Int} {tgt x : Nat} (hd : decode y.2.2.1 pc = .ok (.ifnonnull off, 3)) (ht : (pc : Int) + off = (tgt : Int)) (k : aE y R Q tgt ls st n mem k1 k2) : aE y R Q pc ls (.ref x :: st) n mem k1 k2 := by
  intro g p l e s m args below meth c H locs A hF hS hR hL
  exact lv_ifnonnull hF.1 hF.2.1 hd ht (k g p l e s m args below meth c H locs A hF hS hR hL)
theorem aE_nonnullN {off : Int} (hd : decode y.2.2.1 pc = .ok (.ifnonnull off, 3)) (k : aE y R Q (pc + 3) ls st n mem k1 k2) : aE y R Q pc ls (.null :: st) n mem k1 k2 := by
  intro g p l e s m args below meth c H locs A hF hS hR hL
  exact lv_ifnonnullN hF.1 hF.2.1 hd (k g p l e s m args below meth c H locs A hF hS hR hL)
theorem aE_tableOut {dflt lo hi : Int} {offs : Array Int} {len tgt : Nat} {x : Int32} (hd : decode y.2.2.1 pc = .ok (.tableswitch dflt lo hi offs, len)) (h : x.toInt < lo ∨ hi < x.toInt) (ht : (pc : Int) + dflt = (tgt : Int)) (k : aE y R Q tgt ls st n mem k1 k2) : aE y R Q pc ls (.int x :: st) n mem k1 k2 := by
  intro g p l e s m args below meth c H locs A hF hS hR hL
  exact lv_tableOut hF.1 hF.2.1 hd h ht (k g p l e s m args below meth c H locs A hF hS hR hL)
theorem aE_tableIn {dflt lo hi off : Int} {offs : Array Int} {len tgt : Nat} {x : Int32} (hd : decode y.2.2.1 pc = .ok (.tableswitch dflt lo hi offs, len)) (h1 : ¬ x.toInt < lo) (h2 : ¬ hi < x.toInt) (ho : offs[(x.toInt - lo).toNat]? = some off) (ht : (pc : Int) + off = (tgt : Int)) (k : aE y R Q tgt ls st n mem k1 k2) : aE y R Q pc ls (.int x :: st) n mem k1 k2 := by
  intro g p l e s m args below meth c H locs A hF hS hR hL
  exact lv_tableIn hF.1 hF.2.1 hd h1 h2 ho ht (k g p l e s m args below meth c H locs A hF hS hR hL)
theorem aE_lookup {dflt off : Int} {ps : Array (Int × Int)} {len tgt : Nat} {x : Int32} (hd : decode y.2.2.1 pc = .ok (.lookupswitch dflt ps, len)) (hp : (ps.toList.zip (ps.toList.drop 1)).all (fun (a, next) => a.1 < next.1) = true) (ho : Op.lookupswitch.offset ps.toList dflt x.toInt = off) (ht : (pc : Int) + off = (tgt : Int)) (k : aE y R Q tgt ls st n mem k1 k2) : aE y R Q pc ls (.int x :: st) n mem k1 k2 := by
  intro g p l e s m args below meth c H locs A hF hS hR hL
  exact lv_lookup hF.1 hF.2.1 hd hp ho ht (k g p l e s m args below meth c H locs A hF hS hR hL)
/-! storing into locals -/
def a_c2 (ls : List (Option Value)) : Nat → Bool
  | 0 => true
  | j + 1 => match a_lk ls j with
    | some v => v.category == 1
    | none => true
def a_al (g : aG) (ls : List (Option Value)) : List (Nat × Value) := (List.range ls.length).filterMap fun i => (a_lk ls i).map fun v => (i, a_cv g v)
theorem a_al_has {g : aG} {nL : Nat} {ls : List (Option Value)} {A : Array Slot} (h : a_L g nL ls A) : lv_has A nL (a_al g ls) := by
  refine ⟨h.1, h.2.1, fun q hq => ?_⟩
  obtain ⟨i, -, hi⟩ := List.mem_filterMap.mp hq
  cases hv : a_lk ls i with
  | none => rw [hv] at hi; cases hi
  | some v =>
    rw [hv] at hi
    cases hi
    exact h.2.2 i v hv
theorem a_L_store {g : aG} {nL i : Nat} {ls : List (Option Value)} {A : Array Slot} {v : Value} (hc : a_c2 ls i = true) (h : lv_has A nL ((i, a_cv g v) :: (a_al g ls).filter (fun q => !(q.1 == i) && !(q.1 + 1 == i && q.2.category == 2)))) : a_L g nL (a_set ls i v) A := by
  refine ⟨h.1, h.2.1, fun j w hj => ?_⟩
  rcases a_lk_set ls i j v w hj with ⟨rfl, rfl⟩ | ⟨hne, hw⟩
  · exact h.2.2 _ List.mem_cons_self
  · refine h.2.2 (j, a_cv g w) (List.mem_cons_of_mem _ (List.mem_filter.mpr ⟨?_, ?_⟩))
    · refine List.mem_filterMap.mpr ⟨j, List.mem_range.mpr ?_, by rw [hw]; rfl⟩
      have := a_lk_get _ _ _ hw
      exact (List.getElem?_eq_some_iff.mp this).1
    · simp only [Bool.and_eq_true, Bool.not_eq_true', beq_eq_false_iff_ne, ne_eq, Bool.and_eq_false_iff]
      refine ⟨hne, ?_⟩
      by_cases h1 : j + 1 = i
      · right
        subst h1
        simp only [a_c2, hw, beq_iff_eq] at hc
        rw [a_cat, hc]
        decide
      · left
        exact h1
theorem aE_istore_n {j : Fin 4} {i : Nat} {x : Int32} (hd : decode y.2.2.1 pc = .ok (.istore_n j, 1)) (hi : (j : Nat) = i) (hn : i < y.2.2.2.1) (hc : a_c2 ls i = true) (k : aE y R Q (pc + 1) (a_set ls i (.int x)) st n mem k1 k2) : aE y R Q pc ls (.int x :: st) n mem k1 k2 := by
  intro g p l e s m args below meth c H locs A hF hS hR hL
  exact lv_istore_n hF.1 hF.2.1 hd hi (a_al_has hL) hn rfl fun A' hA' => k g p l e s m args below meth c H locs A' hF hS hR (a_L_store (v := .int x) hc hA')
theorem aE_istore {i : Nat} {x : Int32} (hd : decode y.2.2.1 pc = .ok (.istore i, 2)) (hn : i < y.2.2.2.1) (hc : a_c2 ls i = true) (k : aE y R Q (pc + 2) (a_set ls i (.int x)) st n mem k1 k2) : aE y R Q pc ls (.int x :: st) n mem k1 k2 := by
  intro g p l e s m args below meth c H locs A hF hS hR hL
  exact lv_istore hF.1 hF.2.1 hd (a_al_has hL) hn rfl fun A' hA' => k g p l e s m args below meth c H locs A' hF hS hR (a_L_store (v := .int x) hc hA')
theorem aE_astore_n {j : Fin 4} {i : Nat} {x : Nat} (hd : decode y.2.2.1 pc = .ok (.astore_n j, 1)) (hi : (j : Nat) = i) (hn : i < y.2.2.2.1) (hc : a_c2 ls i = true) (k : aE y R Q (pc + 1) (a_set ls i (.ref x)) st n mem k1 k2) : aE y R Q pc ls (.ref x :: st) n mem k1 k2 := by
  intro g p l e s m args below meth c H locs A hF hS hR hL
  exact lv_astore_n hF.1 hF.2.1 hd hi (a_al_has hL) hn rfl fun A' hA' => k g p l e s m args below meth c H locs A' hF hS hR (a_L_store (v := .ref x) hc hA')
theorem aE_astore {i : Nat} {x : Nat} (hd : decode y.2.2.1 pc = .ok (.astore i, 2)) (hn : i < y.2.2.2.1) (hc : a_c2 ls i = true) (k : aE y R Q (pc + 2) (a_set ls i (.ref x)) st n mem k1 k2) : aE y R Q pc ls (.ref x :: st) n mem k1 k2 := by
  intro g p l e s m args below meth c H locs A hF hS hR hL
  exact lv_astore hF.1 hF.2.1 hd (a_al_has hL) hn rfl fun A' hA' => k g p l e s m args below meth c H locs A' hF hS hR (a_L_store (v := .ref x) hc hA')
theorem aE_iinc {i : Nat} {z : Int} {x v : Int32} (hd : decode y.2.2.1 pc = .ok (.iinc i z, 3)) (hx : a_lk ls i = some (.int x)) (hv : x + Int32.ofInt z = v) (hn : i < y.2.2.2.1) (hc : a_c2 ls i = true) (k : aE y R Q (pc + 3) (a_set ls i (.int v)) st n mem k1 k2) : aE y R Q pc ls st n mem k1 k2 := by
  intro g p l e s m args below meth c H locs A hF hS hR hL
  have hm : (i, Value.int x) ∈ a_al g ls := List.mem_filterMap.mpr ⟨i, List.mem_range.mpr (List.getElem?_eq_some_iff.mp (a_lk_get _ _ _ hx)).1, by rw [hx]; rfl⟩
  obtain ⟨q, hq⟩ := List.getElem?_of_mem hm
  exact lv_iinc hF.1 hF.2.1 hd (a_al_has hL) hq hv hn rfl fun A' hA' => k g p l e s m args below meth c H locs A' hF hS hR (a_L_store (v := .int v) hc hA')
/-! fields -/
/-- a class's own facts: its number, name, fields -/
def a_cf (ci : Nat) (C : String) (T : u_T) (N : Nat) : Prop := vwCl[ci]? = some (C, T, N) ∧ ci < 100 ∧ (∀ w ∈ u_ws C T N, w ∈ lw_g) ∧ (∃ ty0 : Nat → FieldType, ∀ k, k < N → parseFieldDescriptor (T k).2.2.1 = some (ty0 k)) ∧ (∀ a, a < N → ∀ b, b < N → a ≠ b → (T a).2.1 ≠ (T b).2.1)
/-- entry idx of class own: field j of class ci -/
def a_fw (own : String) (idx ci N j : Nat) (fin : Bool) (ty : FieldType) : Prop := ∃ (C : String) (T : u_T), a_cf ci C T N ∧ j < N ∧ Cond.fieldLink own idx (T j).1 (T j).2.1 (T j).2.2.1 ∈ lw_g ∧ (T j).2.2.2 = fin ∧ parseFieldDescriptor (T j).2.2.1 = some ty ∧ (fin = true → (T j).1 = own)
def a_up (mem : aM) (a j : Nat) (v : Value) : aM := fun q i => if q = a ∧ i = j then v else mem q i
theorem a_up_ne {mem : aM} {a j q : Nat} {v : Value} (h : q ≠ a) : a_up mem a j v q = mem q := by
  funext i; simp [a_up, h]
theorem a_ce_o {g : aG} {a ci N : Nat} {row : Nat → Value} (hs : a_sh a = (ci, N)) (hc : ci < 100) : a_ce g (a_sh a) row = .inr (ci, (List.range N).map fun j => a_cv g (row j)) := by
  rw [hs]
  unfold a_ce
  simp only
  rw [if_neg (by omega), if_neg (by omega), if_neg (by omega)]
theorem a_R_set {g : aG} {n k : Nat} {mem mem' : aM} {H H' : Heap} (hR : a_R g n mem H) (hk : k < n) (hm : ∀ q, q ≠ k → mem' q = mem q) (he : va_at (aD g) vwCl (aB g + k, a_ce g (a_sh k) (mem' k)) H') (hz : H'.size = H.size) (oq : ∀ q : Nat, q ≠ aB g + k → H'[q]? = H[q]?) : a_R g n mem' H' := by
  refine ⟨?_, hz.trans hR.2.1, hR.2.2⟩
  rw [← a_wl_set hk hm]
  exact hR.1.set (a_wl_D g n mem) (a_wl_get hk) he oq
theorem a_R_push {g : aG} {n : Nat} {mem mem' : aM} {H H' : Heap} (hR : a_R g n mem H) (hn : n + 1 ≤ 1000) (hm : ∀ q, q < n → mem' q = mem q) (he : va_at (aD g) vwCl (aB g + n, a_ce g (a_sh n) (mem' n)) H') (hz : H'.size = H.size + 1) (oq : ∀ q : Nat, q < H.size → H'[q]? = H[q]?) : a_R g (n + 1) mem' H' := by
  refine ⟨?_, by rw [hz, hR.2.1]; rfl, hn⟩
  rw [← a_wl_push hm]
  refine va_P.app (hR.1.kept fun k q hk => oq _ ((hR.1 k q hk).lt)) fun k x hx => ?_
  have h0 : k < 1 := (List.getElem?_eq_some_iff.mp hx).1
  rw [show k = 0 by omega] at hx
  cases hx
  exact he
theorem a_S_push {g : aG} {H0 H H' : Heap} {locs : List Loc} (hS : va_S (a_A g) H0 H locs) (hz : H.size ≤ H'.size) (oq : ∀ q : Nat, q < H.size → H'[q]? = H[q]?) : va_S (a_A g) H0 H' locs :=
  ⟨Nat.le_trans hS.1 hz, fun q h1 h2 => (oq q (Nat.lt_of_lt_of_le h1 hS.1)).trans (hS.2.1 q h1 h2), hS.2.2⟩
theorem aE_getf {idx ci N j a : Nat} {fin : Bool} {ty : FieldType} {v : Value} (hd : decode y.2.2.1 pc = .ok (.getfield idx, 3)) (hl : a_fw y.1 idx ci N j fin ty) (ha : a < n) (hs : a_sh a = (ci, N)) (hv : mem a j = v) (k : aE y R Q (pc + 3) ls (v :: st) n mem k1 k2) : aE y R Q pc ls (.ref a :: st) n mem k1 k2 := by
  intro g p l e s m args below meth c H locs A hF hS hR hL
  obtain ⟨C, T, ⟨c1, c2, c3, c4, c5⟩, hj, hw, -⟩ := hl
  have he := a_wl_get (g := g) (mem := mem) ha
  rw [a_ce_o hs c2] at he
  have hk := k g p l e s m args below meth c H locs A hF hS hR hL
  simp only [List.map_cons, a_cv] at hk ⊢
  rw [a_ad_k hR ha]
  exact va_get (D := aD g) hF.1 hF.2.1 (Ts := lw_g) hF.2.2.2.2.2.1 c3 hF.2.2.2.2.1 hF.2.2.2.2.2.2.2.2.1 hR.1 a he c1 j hj (hF.2.2.2.2.2.1 _ hw) (fun _ h => h) (v := a_cv g v) (by simp [hj, hv]) hd hk
theorem a_fsset {g : aG} {N j : Nat} {row : Nat → Value} {v : Value} (_hj : j < N) : ((List.range N).map fun i => a_cv g (row i)).set j (a_cv g v) = (List.range N).map fun i => a_cv g (if i = j then v else row i) := by
  apply List.ext_getElem?
  intro i
  by_cases hi : i = j
  · subst hi
    rw [List.getElem?_set_self (by simp; exact _hj)]
    simp [_hj]
  · rw [List.getElem?_set_ne (Ne.symm hi)]
    simp [hi]
theorem aE_putf {idx ci N j a : Nat} {fin : Bool} {ty : FieldType} {v : Value} (hd : decode y.2.2.1 pc = .ok (.putfield idx, 3)) (hl : a_fw y.1 idx ci N j fin ty) (hfin : fin = false ∨ y.2.1.name = "<init>") (ha : a < n) (hs : a_sh a = (ci, N)) (hv : ∀ g : aG, narrow ty (a_cv g v) = a_cv g v ∧ fits ty (a_cv g v) = true) (k : aE y R Q (pc + 3) ls st n (a_up mem a j v) k1 k2) : aE y R Q pc ls (v :: .ref a :: st) n mem k1 k2 := by
  intro g p l e s m args below meth c H locs A hF hS hR hL
  obtain ⟨C, T, ⟨c1, c2, c3, ⟨ty0, c4⟩, c5⟩, hj, hw, hf, hd2, hdecl⟩ := hl
  have he := a_wl_get (g := g) (mem := mem) ha
  have hce := a_ce_o (g := g) (row := mem a) hs c2
  have hce' := a_ce_o (g := g) (row := a_up mem a j v a) hs c2
  rw [hce] at he
  simp only [List.map_cons]
  rw [show a_cv g (.ref a) = .ref (aB g + a) from congrArg Value.ref (a_ad_k hR ha)]
  have hts := hF.2.2.2.2.2.1
  have hK := hF.2.2.2.2.2.2.2.2.1
  have hap := va_apart (own := y.1) hts c3 ty0 c4 c5 hK c1
  obtain ⟨r, h1, cell, q1, q2, q3, q4⟩ := hR.1 a _ he
  have hr : r = (C, T, N) := Option.some.inj (h1.symm.trans c1)
  subst hr
  obtain ⟨hSl, hfc, kC, hkC, hkind⟩ := hK.1 ci _ c1
  obtain ⟨cf, kf, fi, f, hi, hsl⟩ := hSl j hj
  have hlay := hts _ (c3 _ (u_in_lay hj))
  unfold u_lay at hlay
  have hst := (u_facts hfc hkC (u_lays hts c3 hj) hi).1
  have fin1 : ∀ H' : Heap, H'[aB g + a]? = some (cell.setSlot f.slot (a_cv g v)) → H'.size = H.size → (∀ q, q ≠ aB g + a → H'[q]? = H[q]?) → W p l e R s m args below meth c H' (locs ++ [⟨aB g + a, f.slot⟩]) k1 k2 (MQ below (a_Q g Q) args s R.cells R.slots (a_A g)) (F0 m (pc + 3) A (st.map (a_cv g))) := by
    intro H' e1 e2 e3
    rw [hsl] at e1 ⊢
    refine k g p l e s m args below meth c H' _ A hF (hS.put e2 e3 (Nat.le_add_right _ _)) (a_R_set hR ha (fun q hq => a_up_ne hq) ?_ e2 e3) hL
    rw [hce']
    refine ⟨_, c1, t_OB.to (V := updV (vp_V ((List.range N).map fun j => a_cv g (mem a j))) j (a_cv g v)) ⟨_, e1, q2, q3, t_set q4 hap hj (a_cv g v)⟩ (fun i _ => ?_)⟩
    rw [vp_updV_set (by simp; exact hj), a_fsset hj]
    congr 2
    funext i
    simp [a_up]
  by_cases hfb : fin = true
  · rw [if_pos (by rw [hf]; exact hfb)] at hlay
    have hcf : m.cls = cf := by
      obtain ⟨_, _, c', _, _, _, -, -, hf', -, -, -, hown2, -⟩ := Cond.laysFinal_spec hlay
      have e1 : c' = cf := by have := hi.symm.trans hf'; simp at this; exact this.1.symm
      rw [hdecl hfb] at hown2
      rw [← e1]; exact Option.some.inj (hF.2.2.2.2.1.symm.trans hown2)
    have h6 := u_fits hfc hkC hkind (Or.inr hlay) hi hd2 (hv g).1 (hv g).2
    have hin2 : meth.name = "<init>" := by
      rw [hF.2.2.2.2.2.2.2.1]
      rcases hfin with h | h
      · rw [h] at hfb; cases hfb
      · exact h
    exact W.putFinK hF.1 hF.2.1 hF.2.2.2.2.1 (hts _ hw) hi hst hcf hin2 (by rw [q2]; exact h6) q1 q3 (by rw [hsl]; exact k2_hasslot (q4 j hj)) rfl rfl hd fin1
  · rw [if_neg (by rw [hf]; exact hfb)] at hlay
    have h6 := u_store hfc hkC hkind hlay hi hd2 (hv g).1 (hv g).2
    exact W.putK hF.1 hF.2.1 (f := f) ⟨hF.2.2.2.2.1, hts _ hw, ⟨_, _, _, hi⟩, hst⟩ (by rw [q2]; exact h6) q1 q3 (by rw [hsl]; exact k2_hasslot (q4 j hj)) rfl rfl hd fin1
end AE
