section AE
variable {z : Nat × (Nat → Int32)} {mem' : aM} {y : aY} {R : Room} {Q : Option Value → Nat → aM → Prop} {pc : Nat} {ls : List (Option Value)} {st : List Value} {n : Nat} {mem : aM} {k1 k2 : Nat}
theorem aE_iconst {i : Int} {v : Int32} (hd : decode y.2.2.1 pc = .ok (.iconst i, 1)) (hv : Int32.ofInt i = v) (k : aE z y R Q (pc + 1) ls (.int v :: st) n mem k1 k2) : aE z y R Q pc ls (st) n mem k1 k2 := by
  intro g hz p l e s m args below meth c H locs A hF hS hR hL
  exact lv_iconst hF.1 hF.2.1 hd hv (k g hz p l e s m args below meth c H locs A hF hS hR hL)
theorem aE_bipush {i : Int} {v : Int32} (hd : decode y.2.2.1 pc = .ok (.bipush i, 2)) (hv : (Int8.ofInt i).toInt32 = v) (k : aE z y R Q (pc + 2) ls (.int v :: st) n mem k1 k2) : aE z y R Q pc ls (st) n mem k1 k2 := by
  intro g hz p l e s m args below meth c H locs A hF hS hR hL
  exact lv_bipush hF.1 hF.2.1 hd hv (k g hz p l e s m args below meth c H locs A hF hS hR hL)
theorem aE_sipush {i : Int} {v : Int32} (hd : decode y.2.2.1 pc = .ok (.sipush i, 3)) (hv : (Int16.ofInt i).toInt32 = v) (k : aE z y R Q (pc + 3) ls (.int v :: st) n mem k1 k2) : aE z y R Q pc ls (st) n mem k1 k2 := by
  intro g hz p l e s m args below meth c H locs A hF hS hR hL
  exact lv_sipush hF.1 hF.2.1 hd hv (k g hz p l e s m args below meth c H locs A hF hS hR hL)
theorem aE_ldc {i : Nat} {v : Int32} (hd : decode y.2.2.1 pc = .ok (.ldc i, 2)) (hw : Cond.constant y.1 i v ∈ lw_g) (k : aE z y R Q (pc + 2) ls (.int v :: st) n mem k1 k2) : aE z y R Q pc ls (st) n mem k1 k2 := by
  intro g hz p l e s m args below meth c H locs A hF hS hR hL
  exact lv_ldc hF.1 hF.2.1 hF.2.2.2.2.1 (hF.2.2.2.2.2.1 _ hw) hd (k g hz p l e s m args below meth c H locs A hF hS hR hL)
theorem aE_ldcw {i : Nat} {v : Int32} (hd : decode y.2.2.1 pc = .ok (.ldc_w i, 3)) (hw : Cond.constant y.1 i v ∈ lw_g) (k : aE z y R Q (pc + 3) ls (.int v :: st) n mem k1 k2) : aE z y R Q pc ls (st) n mem k1 k2 := by
  intro g hz p l e s m args below meth c H locs A hF hS hR hL
  exact lv_ldcw hF.1 hF.2.1 hF.2.2.2.2.1 (hF.2.2.2.2.2.1 _ hw) hd (k g hz p l e s m args below meth c H locs A hF hS hR hL)
theorem aE_ldc2 {i : Nat} {v : Int64} (hd : decode y.2.2.1 pc = .ok (.ldc2_w i, 3)) (hw : Cond.constantLong y.1 i v ∈ lw_g) (k : aE z y R Q (pc + 3) ls (.long v :: st) n mem k1 k2) : aE z y R Q pc ls (st) n mem k1 k2 := by
  intro g hz p l e s m args below meth c H locs A hF hS hR hL
  exact lv_ldc2 hF.1 hF.2.1 hF.2.2.2.2.1 (hF.2.2.2.2.2.1 _ hw) hd (k g hz p l e s m args below meth c H locs A hF hS hR hL)
theorem aE_iload_n {j : Fin 4} {i : Nat} {x : Int32} (hd : decode y.2.2.1 pc = .ok (.iload_n j, 1)) (hi : (j : Nat) = i) (hx : a_lk ls i = some (.int x)) (k : aE z y R Q (pc + 1) ls (.int x :: st) n mem k1 k2) : aE z y R Q pc ls (st) n mem k1 k2 := by
  intro g hz p l e s m args below meth c H locs A hF hS hR hL
  exact lv_iload_n hF.1 hF.2.1 hd hi (hL.2.2 i _ hx) (k g hz p l e s m args below meth c H locs A hF hS hR hL)
theorem aE_iload {i : Nat} {x : Int32} (hd : decode y.2.2.1 pc = .ok (.iload i, 2)) (hx : a_lk ls i = some (.int x)) (k : aE z y R Q (pc + 2) ls (.int x :: st) n mem k1 k2) : aE z y R Q pc ls (st) n mem k1 k2 := by
  intro g hz p l e s m args below meth c H locs A hF hS hR hL
  exact lv_iload hF.1 hF.2.1 hd (hL.2.2 i _ hx) (k g hz p l e s m args below meth c H locs A hF hS hR hL)
theorem aE_aload_n {j : Fin 4} {i : Nat} {x : Nat} (hd : decode y.2.2.1 pc = .ok (.aload_n j, 1)) (hi : (j : Nat) = i) (hx : a_lk ls i = some (.ref x)) (k : aE z y R Q (pc + 1) ls (.ref x :: st) n mem k1 k2) : aE z y R Q pc ls (st) n mem k1 k2 := by
  intro g hz p l e s m args below meth c H locs A hF hS hR hL
  exact lv_aload_n hF.1 hF.2.1 hd hi (hL.2.2 i _ hx) (k g hz p l e s m args below meth c H locs A hF hS hR hL)
theorem aE_aload {i : Nat} {x : Nat} (hd : decode y.2.2.1 pc = .ok (.aload i, 2)) (hx : a_lk ls i = some (.ref x)) (k : aE z y R Q (pc + 2) ls (.ref x :: st) n mem k1 k2) : aE z y R Q pc ls (st) n mem k1 k2 := by
  intro g hz p l e s m args below meth c H locs A hF hS hR hL
  exact lv_aload hF.1 hF.2.1 hd (hL.2.2 i _ hx) (k g hz p l e s m args below meth c H locs A hF hS hR hL)
theorem aE_lload_n {j : Fin 4} {i : Nat} {x : Int64} (hd : decode y.2.2.1 pc = .ok (.lload_n j, 1)) (hi : (j : Nat) = i) (hx : a_lk ls i = some (.long x)) (k : aE z y R Q (pc + 1) ls (.long x :: st) n mem k1 k2) : aE z y R Q pc ls (st) n mem k1 k2 := by
  intro g hz p l e s m args below meth c H locs A hF hS hR hL
  exact lv_lload_n hF.1 hF.2.1 hd hi (hL.2.2 i _ hx) (k g hz p l e s m args below meth c H locs A hF hS hR hL)
theorem aE_dup {v : Value} (hd : decode y.2.2.1 pc = .ok (.dup, 1)) (hv : v.category = 1) (k : aE z y R Q (pc + 1) ls (v :: v :: st) n mem k1 k2) : aE z y R Q pc ls (v :: st) n mem k1 k2 := by
  intro g hz p l e s m args below meth c H locs A hF hS hR hL
  exact lv_dup hF.1 hF.2.1 hd ((a_cat g v).trans hv) (k g hz p l e s m args below meth c H locs A hF hS hR hL)
theorem aE_dup2 {v w : Value} (hd : decode y.2.2.1 pc = .ok (.dup2, 1)) (hv : v.category = 1) (hw : w.category = 1) (k : aE z y R Q (pc + 1) ls (v :: w :: v :: w :: st) n mem k1 k2) : aE z y R Q pc ls (v :: w :: st) n mem k1 k2 := by
  intro g hz p l e s m args below meth c H locs A hF hS hR hL
  exact lv_dup2_11 hF.1 hF.2.1 hd ((a_cat g v).trans hv) ((a_cat g w).trans hw) (k g hz p l e s m args below meth c H locs A hF hS hR hL)
theorem aE_iadd {a b : Int32} (hd : decode y.2.2.1 pc = .ok (.iadd, 1))  (k : aE z y R Q (pc + 1) ls (.int (a + b) :: st) n mem k1 k2) : aE z y R Q pc ls (.int b :: .int a :: st) n mem k1 k2 := by
  intro g hz p l e s m args below meth c H locs A hF hS hR hL
  exact lv_iadd hF.1 hF.2.1 hd (k g hz p l e s m args below meth c H locs A hF hS hR hL)
theorem aE_isub {a b : Int32} (hd : decode y.2.2.1 pc = .ok (.isub, 1))  (k : aE z y R Q (pc + 1) ls (.int (a - b) :: st) n mem k1 k2) : aE z y R Q pc ls (.int b :: .int a :: st) n mem k1 k2 := by
  intro g hz p l e s m args below meth c H locs A hF hS hR hL
  exact lv_isub hF.1 hF.2.1 hd (k g hz p l e s m args below meth c H locs A hF hS hR hL)
theorem aE_imul {a b : Int32} (hd : decode y.2.2.1 pc = .ok (.imul, 1))  (k : aE z y R Q (pc + 1) ls (.int (a * b) :: st) n mem k1 k2) : aE z y R Q pc ls (.int b :: .int a :: st) n mem k1 k2 := by
  intro g hz p l e s m args below meth c H locs A hF hS hR hL
  exact lv_imul hF.1 hF.2.1 hd (k g hz p l e s m args below meth c H locs A hF hS hR hL)
theorem aE_iand {a b : Int32} (hd : decode y.2.2.1 pc = .ok (.iand, 1))  (k : aE z y R Q (pc + 1) ls (.int (a &&& b) :: st) n mem k1 k2) : aE z y R Q pc ls (.int b :: .int a :: st) n mem k1 k2 := by
  intro g hz p l e s m args below meth c H locs A hF hS hR hL
  exact lv_iand hF.1 hF.2.1 hd (k g hz p l e s m args below meth c H locs A hF hS hR hL)
theorem aE_ior {a b : Int32} (hd : decode y.2.2.1 pc = .ok (.ior, 1))  (k : aE z y R Q (pc + 1) ls (.int (a ||| b) :: st) n mem k1 k2) : aE z y R Q pc ls (.int b :: .int a :: st) n mem k1 k2 := by
  intro g hz p l e s m args below meth c H locs A hF hS hR hL
  exact lv_ior hF.1 hF.2.1 hd (k g hz p l e s m args below meth c H locs A hF hS hR hL)
theorem aE_ixor {a b : Int32} (hd : decode y.2.2.1 pc = .ok (.ixor, 1))  (k : aE z y R Q (pc + 1) ls (.int (a ^^^ b) :: st) n mem k1 k2) : aE z y R Q pc ls (.int b :: .int a :: st) n mem k1 k2 := by
  intro g hz p l e s m args below meth c H locs A hF hS hR hL
  exact lv_ixor hF.1 hF.2.1 hd (k g hz p l e s m args below meth c H locs A hF hS hR hL)
theorem aE_idiv {a b : Int32} (hd : decode y.2.2.1 pc = .ok (.idiv, 1)) (hb : ¬ b = 0) (k : aE z y R Q (pc + 1) ls (.int (a / b) :: st) n mem k1 k2) : aE z y R Q pc ls (.int b :: .int a :: st) n mem k1 k2 := by
  intro g hz p l e s m args below meth c H locs A hF hS hR hL
  exact lv_idiv hF.1 hF.2.1 hd hb (k g hz p l e s m args below meth c H locs A hF hS hR hL)
theorem aE_irem {a b : Int32} (hd : decode y.2.2.1 pc = .ok (.irem, 1)) (hb : ¬ b = 0) (k : aE z y R Q (pc + 1) ls (.int (a - a / b * b) :: st) n mem k1 k2) : aE z y R Q pc ls (.int b :: .int a :: st) n mem k1 k2 := by
  intro g hz p l e s m args below meth c H locs A hF hS hR hL
  exact lv_irem hF.1 hF.2.1 hd hb (k g hz p l e s m args below meth c H locs A hF hS hR hL)
theorem aE_ineg {a : Int32} (hd : decode y.2.2.1 pc = .ok (.ineg, 1))  (k : aE z y R Q (pc + 1) ls (.int (-a) :: st) n mem k1 k2) : aE z y R Q pc ls (.int a :: st) n mem k1 k2 := by
  intro g hz p l e s m args below meth c H locs A hF hS hR hL
  exact lv_ineg hF.1 hF.2.1 hd (k g hz p l e s m args below meth c H locs A hF hS hR hL)
theorem aE_ishl {a b : Int32} (hd : decode y.2.2.1 pc = .ok (.ishl, 1))  (k : aE z y R Q (pc + 1) ls (.int (a <<< (b &&& 31)) :: st) n mem k1 k2) : aE z y R Q pc ls (.int b :: .int a :: st) n mem k1 k2 := by
  intro g hz p l e s m args below meth c H locs A hF hS hR hL
  exact lv_ishl hF.1 hF.2.1 hd (k g hz p l e s m args below meth c H locs A hF hS hR hL)
theorem aE_ishr {a b : Int32} (hd : decode y.2.2.1 pc = .ok (.ishr, 1))  (k : aE z y R Q (pc + 1) ls (.int (a >>> (b &&& 31)) :: st) n mem k1 k2) : aE z y R Q pc ls (.int b :: .int a :: st) n mem k1 k2 := by
  intro g hz p l e s m args below meth c H locs A hF hS hR hL
  exact lv_ishr hF.1 hF.2.1 hd (k g hz p l e s m args below meth c H locs A hF hS hR hL)
theorem aE_iushr {a b : Int32} (hd : decode y.2.2.1 pc = .ok (.iushr, 1))  (k : aE z y R Q (pc + 1) ls (.int (a.toUInt32 >>> (b.toUInt32 &&& Int32.toUInt32 31)).toInt32 :: st) n mem k1 k2) : aE z y R Q pc ls (.int b :: .int a :: st) n mem k1 k2 := by
  intro g hz p l e s m args below meth c H locs A hF hS hR hL
  exact lv_iushr hF.1 hF.2.1 hd rfl (k g hz p l e s m args below meth c H locs A hF hS hR hL)
theorem aE_i2l {a : Int32} (hd : decode y.2.2.1 pc = .ok (.i2l, 1))  (k : aE z y R Q (pc + 1) ls (.long a.toInt64 :: st) n mem k1 k2) : aE z y R Q pc ls (.int a :: st) n mem k1 k2 := by
  intro g hz p l e s m args below meth c H locs A hF hS hR hL
  exact lv_i2l hF.1 hF.2.1 hd rfl (k g hz p l e s m args below meth c H locs A hF hS hR hL)
theorem aE_l2i {a : Int64} (hd : decode y.2.2.1 pc = .ok (.l2i, 1))  (k : aE z y R Q (pc + 1) ls (.int a.toInt32 :: st) n mem k1 k2) : aE z y R Q pc ls (.long a :: st) n mem k1 k2 := by
  intro g hz p l e s m args below meth c H locs A hF hS hR hL
  exact lv_l2i hF.1 hF.2.1 hd rfl (k g hz p l e s m args below meth c H locs A hF hS hR hL)
theorem aE_i2b {a : Int32} (hd : decode y.2.2.1 pc = .ok (.i2b, 1))  (k : aE z y R Q (pc + 1) ls (.int a.toInt8.toInt32 :: st) n mem k1 k2) : aE z y R Q pc ls (.int a :: st) n mem k1 k2 := by
  intro g hz p l e s m args below meth c H locs A hF hS hR hL
  exact lv_i2b hF.1 hF.2.1 hd rfl (k g hz p l e s m args below meth c H locs A hF hS hR hL)
theorem aE_i2s {a : Int32} (hd : decode y.2.2.1 pc = .ok (.i2s, 1))  (k : aE z y R Q (pc + 1) ls (.int a.toInt16.toInt32 :: st) n mem k1 k2) : aE z y R Q pc ls (.int a :: st) n mem k1 k2 := by
  intro g hz p l e s m args below meth c H locs A hF hS hR hL
  exact lv_i2s hF.1 hF.2.1 hd rfl (k g hz p l e s m args below meth c H locs A hF hS hR hL)
theorem aE_ladd {a b : Int64} (hd : decode y.2.2.1 pc = .ok (.ladd, 1))  (k : aE z y R Q (pc + 1) ls (.long (a + b) :: st) n mem k1 k2) : aE z y R Q pc ls (.long b :: .long a :: st) n mem k1 k2 := by
  intro g hz p l e s m args below meth c H locs A hF hS hR hL
  exact lv_ladd hF.1 hF.2.1 hd (k g hz p l e s m args below meth c H locs A hF hS hR hL)
theorem aE_land {a b : Int64} (hd : decode y.2.2.1 pc = .ok (.land, 1))  (k : aE z y R Q (pc + 1) ls (.long (a &&& b) :: st) n mem k1 k2) : aE z y R Q pc ls (.long b :: .long a :: st) n mem k1 k2 := by
  intro g hz p l e s m args below meth c H locs A hF hS hR hL
  exact lv_land hF.1 hF.2.1 hd (k g hz p l e s m args below meth c H locs A hF hS hR hL)
theorem aE_lor {a b : Int64} (hd : decode y.2.2.1 pc = .ok (.lor, 1))  (k : aE z y R Q (pc + 1) ls (.long (a ||| b) :: st) n mem k1 k2) : aE z y R Q pc ls (.long b :: .long a :: st) n mem k1 k2 := by
  intro g hz p l e s m args below meth c H locs A hF hS hR hL
  exact lv_lor hF.1 hF.2.1 hd (k g hz p l e s m args below meth c H locs A hF hS hR hL)
theorem aE_lshl {a : Int64} {b : Int32} (hd : decode y.2.2.1 pc = .ok (.lshl, 1))  (k : aE z y R Q (pc + 1) ls (.long (a <<< (b.toInt64 &&& 63)) :: st) n mem k1 k2) : aE z y R Q pc ls (.int b :: .long a :: st) n mem k1 k2 := by
  intro g hz p l e s m args below meth c H locs A hF hS hR hL
  exact lv_lshl hF.1 hF.2.1 hd rfl (k g hz p l e s m args below meth c H locs A hF hS hR hL)
theorem aE_lshr {a : Int64} {b : Int32} (hd : decode y.2.2.1 pc = .ok (.lshr, 1))  (k : aE z y R Q (pc + 1) ls (.long (a >>> (b.toInt64 &&& 63)) :: st) n mem k1 k2) : aE z y R Q pc ls (.int b :: .long a :: st) n mem k1 k2 := by
  intro g hz p l e s m args below meth c H locs A hF hS hR hL
  exact lv_lshr hF.1 hF.2.1 hd rfl (k g hz p l e s m args below meth c H locs A hF hS hR hL)
theorem aE_lcmp {a b : Int64} (hd : decode y.2.2.1 pc = .ok (.lcmp, 1))  (k : aE z y R Q (pc + 1) ls (.int (lg_cmp a b) :: st) n mem k1 k2) : aE z y R Q pc ls (.long b :: .long a :: st) n mem k1 k2 := by
  intro g hz p l e s m args below meth c H locs A hF hS hR hL
  exact W.lcmp hF.1 hF.2.1 hd (k g hz p l e s m args below meth c H locs A hF hS hR hL)
theorem aE_icmp_eq {a b : Int32} {off : Int} {tgt : Nat} (hd : decode y.2.2.1 pc = .ok (.if_icmp .eq off, 3)) (ht : (pc : Int) + off = (tgt : Int)) (kt : a = b → aE z y R Q tgt ls st n mem k1 k2) (kf : ¬ a = b → aE z y R Q (pc + 3) ls st n mem k1 k2) : aE z y R Q pc ls (.int b :: .int a :: st) n mem k1 k2 := by
  intro g hz p l e s m args below meth c H locs A hF hS hR hL
  exact lv_icmp_eq hF.1 hF.2.1 hd ht (fun h => kt h g hz p l e s m args below meth c H locs A hF hS hR hL) (fun h => kf h g hz p l e s m args below meth c H locs A hF hS hR hL)
theorem aE_if_eq {a : Int32} {off : Int} {tgt : Nat} (hd : decode y.2.2.1 pc = .ok (.ifCond .eq off, 3)) (ht : (pc : Int) + off = (tgt : Int)) (kt : a = 0 → aE z y R Q tgt ls st n mem k1 k2) (kf : ¬ a = 0 → aE z y R Q (pc + 3) ls st n mem k1 k2) : aE z y R Q pc ls (.int a :: st) n mem k1 k2 := by
  intro g hz p l e s m args below meth c H locs A hF hS hR hL
  exact lv_if_eq hF.1 hF.2.1 hd ht (fun h => kt h g hz p l e s m args below meth c H locs A hF hS hR hL) (fun h => kf h g hz p l e s m args below meth c H locs A hF hS hR hL)
theorem aE_icmp_ne {a b : Int32} {off : Int} {tgt : Nat} (hd : decode y.2.2.1 pc = .ok (.if_icmp .ne off, 3)) (ht : (pc : Int) + off = (tgt : Int)) (kt : ¬ a = b → aE z y R Q tgt ls st n mem k1 k2) (kf : a = b → aE z y R Q (pc + 3) ls st n mem k1 k2) : aE z y R Q pc ls (.int b :: .int a :: st) n mem k1 k2 := by
  intro g hz p l e s m args below meth c H locs A hF hS hR hL
  exact lv_icmp_ne hF.1 hF.2.1 hd ht (fun h => kt h g hz p l e s m args below meth c H locs A hF hS hR hL) (fun h => kf h g hz p l e s m args below meth c H locs A hF hS hR hL)
theorem aE_if_ne {a : Int32} {off : Int} {tgt : Nat} (hd : decode y.2.2.1 pc = .ok (.ifCond .ne off, 3)) (ht : (pc : Int) + off = (tgt : Int)) (kt : ¬ a = 0 → aE z y R Q tgt ls st n mem k1 k2) (kf : a = 0 → aE z y R Q (pc + 3) ls st n mem k1 k2) : aE z y R Q pc ls (.int a :: st) n mem k1 k2 := by
  intro g hz p l e s m args below meth c H locs A hF hS hR hL
  exact lv_if_ne hF.1 hF.2.1 hd ht (fun h => kt h g hz p l e s m args below meth c H locs A hF hS hR hL) (fun h => kf h g hz p l e s m args below meth c H locs A hF hS hR hL)
theorem aE_icmp_lt {a b : Int32} {off : Int} {tgt : Nat} (hd : decode y.2.2.1 pc = .ok (.if_icmp .lt off, 3)) (ht : (pc : Int) + off = (tgt : Int)) (kt : a < b → aE z y R Q tgt ls st n mem k1 k2) (kf : ¬ a < b → aE z y R Q (pc + 3) ls st n mem k1 k2) : aE z y R Q pc ls (.int b :: .int a :: st) n mem k1 k2 := by
  intro g hz p l e s m args below meth c H locs A hF hS hR hL
  exact lv_icmp_lt hF.1 hF.2.1 hd ht (fun h => kt h g hz p l e s m args below meth c H locs A hF hS hR hL) (fun h => kf h g hz p l e s m args below meth c H locs A hF hS hR hL)
theorem aE_if_lt {a : Int32} {off : Int} {tgt : Nat} (hd : decode y.2.2.1 pc = .ok (.ifCond .lt off, 3)) (ht : (pc : Int) + off = (tgt : Int)) (kt : a < 0 → aE z y R Q tgt ls st n mem k1 k2) (kf : ¬ a < 0 → aE z y R Q (pc + 3) ls st n mem k1 k2) : aE z y R Q pc ls (.int a :: st) n mem k1 k2 := by
  intro g hz p l e s m args below meth c H locs A hF hS hR hL
  exact lv_if_lt hF.1 hF.2.1 hd ht (fun h => kt h g hz p l e s m args below meth c H locs A hF hS hR hL) (fun h => kf h g hz p l e s m args below meth c H locs A hF hS hR hL)
theorem aE_icmp_ge {a b : Int32} {off : Int} {tgt : Nat} (hd : decode y.2.2.1 pc = .ok (.if_icmp .ge off, 3)) (ht : (pc : Int) + off = (tgt : Int)) (kt : b ≤ a → aE z y R Q tgt ls st n mem k1 k2) (kf : ¬ b ≤ a → aE z y R Q (pc + 3) ls st n mem k1 k2) : aE z y R Q pc ls (.int b :: .int a :: st) n mem k1 k2 := by
  intro g hz p l e s m args below meth c H locs A hF hS hR hL
  exact lv_icmp_ge hF.1 hF.2.1 hd ht (fun h => kt h g hz p l e s m args below meth c H locs A hF hS hR hL) (fun h => kf h g hz p l e s m args below meth c H locs A hF hS hR hL)
theorem aE_if_ge {a : Int32} {off : Int} {tgt : Nat} (hd : decode y.2.2.1 pc = .ok (.ifCond .ge off, 3)) (ht : (pc : Int) + off = (tgt : Int)) (kt : 0 ≤ a → aE z y R Q tgt ls st n mem k1 k2) (kf : ¬ 0 ≤ a → aE z y R Q (pc + 3) ls st n mem k1 k2) : aE z y R Q pc ls (.int a :: st) n mem k1 k2 := by
  intro g hz p l e s m args below meth c H locs A hF hS hR hL
  exact lv_if_ge hF.1 hF.2.1 hd ht (fun h => kt h g hz p l e s m args below meth c H locs A hF hS hR hL) (fun h => kf h g hz p l e s m args below meth c H locs A hF hS hR hL)
theorem aE_icmp_gt {a b : Int32} {off : Int} {tgt : Nat} (hd : decode y.2.2.1 pc = .ok (.if_icmp .gt off, 3)) (ht : (pc : Int) + off = (tgt : Int)) (kt : b < a → aE z y R Q tgt ls st n mem k1 k2) (kf : ¬ b < a → aE z y R Q (pc + 3) ls st n mem k1 k2) : aE z y R Q pc ls (.int b :: .int a :: st) n mem k1 k2 := by
  intro g hz p l e s m args below meth c H locs A hF hS hR hL
  exact lv_icmp_gt hF.1 hF.2.1 hd ht (fun h => kt h g hz p l e s m args below meth c H locs A hF hS hR hL) (fun h => kf h g hz p l e s m args below meth c H locs A hF hS hR hL)
theorem aE_if_gt {a : Int32} {off : Int} {tgt : Nat} (hd : decode y.2.2.1 pc = .ok (.ifCond .gt off, 3)) (ht : (pc : Int) + off = (tgt : Int)) (kt : 0 < a → aE z y R Q tgt ls st n mem k1 k2) (kf : ¬ 0 < a → aE z y R Q (pc + 3) ls st n mem k1 k2) : aE z y R Q pc ls (.int a :: st) n mem k1 k2 := by
  intro g hz p l e s m args below meth c H locs A hF hS hR hL
  exact lv_if_gt hF.1 hF.2.1 hd ht (fun h => kt h g hz p l e s m args below meth c H locs A hF hS hR hL) (fun h => kf h g hz p l e s m args below meth c H locs A hF hS hR hL)
theorem aE_icmp_le {a b : Int32} {off : Int} {tgt : Nat} (hd : decode y.2.2.1 pc = .ok (.if_icmp .le off, 3)) (ht : (pc : Int) + off = (tgt : Int)) (kt : a ≤ b → aE z y R Q tgt ls st n mem k1 k2) (kf : ¬ a ≤ b → aE z y R Q (pc + 3) ls st n mem k1 k2) : aE z y R Q pc ls (.int b :: .int a :: st) n mem k1 k2 := by
  intro g hz p l e s m args below meth c H locs A hF hS hR hL
  exact lv_icmp_le hF.1 hF.2.1 hd ht (fun h => kt h g hz p l e s m args below meth c H locs A hF hS hR hL) (fun h => kf h g hz p l e s m args below meth c H locs A hF hS hR hL)
theorem aE_if_le {a : Int32} {off : Int} {tgt : Nat} (hd : decode y.2.2.1 pc = .ok (.ifCond .le off, 3)) (ht : (pc : Int) + off = (tgt : Int)) (kt : a ≤ 0 → aE z y R Q tgt ls st n mem k1 k2) (kf : ¬ a ≤ 0 → aE z y R Q (pc + 3) ls st n mem k1 k2) : aE z y R Q pc ls (.int a :: st) n mem k1 k2 := by
  intro g hz p l e s m args below meth c H locs A hF hS hR hL
  exact lv_if_le hF.1 hF.2.1 hd ht (fun h => kt h g hz p l e s m args below meth c H locs A hF hS hR hL) (fun h => kf h g hz p l e s m args below meth c H locs A hF hS hR hL)
theorem aE_goto {off : Int} {tgt : Nat} (hd : decode y.2.2.1 pc = .ok (.goto off, 3)) (ht : (pc : Int) + off = (tgt : Int)) (k : aE z y R Q tgt ls st n mem k1 k2) : aE z y R Q pc ls st n mem k1 k2 := by
  intro g hz p l e s m args below meth c H locs A hF hS hR hL
  exact lv_goto hF.1 hF.2.1 hd ht (k g hz p l e s m args below meth c H locs A hF hS hR hL)
theorem aE_nonnull {off : Int} {tgt x : Nat} (hd : decode y.2.2.1 pc = .ok (.ifnonnull off, 3)) (ht : (pc : Int) + off = (tgt : Int)) (k : aE z y R Q tgt ls st n mem k1 k2) : aE z y R Q pc ls (.ref x :: st) n mem k1 k2 := by
  intro g hz p l e s m args below meth c H locs A hF hS hR hL
  exact lv_ifnonnull hF.1 hF.2.1 hd ht (k g hz p l e s m args below meth c H locs A hF hS hR hL)
theorem aE_nonnullN {off : Int} (hd : decode y.2.2.1 pc = .ok (.ifnonnull off, 3)) (k : aE z y R Q (pc + 3) ls st n mem k1 k2) : aE z y R Q pc ls (.null :: st) n mem k1 k2 := by
  intro g hz p l e s m args below meth c H locs A hF hS hR hL
  exact lv_ifnonnullN hF.1 hF.2.1 hd (k g hz p l e s m args below meth c H locs A hF hS hR hL)
theorem aE_tableOut {dflt lo hi : Int} {offs : Array Int} {len tgt : Nat} {x : Int32} (hd : decode y.2.2.1 pc = .ok (.tableswitch dflt lo hi offs, len)) (h : x.toInt < lo ∨ hi < x.toInt) (ht : (pc : Int) + dflt = (tgt : Int)) (k : aE z y R Q tgt ls st n mem k1 k2) : aE z y R Q pc ls (.int x :: st) n mem k1 k2 := by
  intro g hz p l e s m args below meth c H locs A hF hS hR hL
  exact lv_tableOut hF.1 hF.2.1 hd h ht (k g hz p l e s m args below meth c H locs A hF hS hR hL)
theorem aE_tableIn {dflt lo hi off : Int} {offs : Array Int} {len tgt : Nat} {x : Int32} (hd : decode y.2.2.1 pc = .ok (.tableswitch dflt lo hi offs, len)) (h1 : ¬ x.toInt < lo) (h2 : ¬ hi < x.toInt) (ho : offs[(x.toInt - lo).toNat]? = some off) (ht : (pc : Int) + off = (tgt : Int)) (k : aE z y R Q tgt ls st n mem k1 k2) : aE z y R Q pc ls (.int x :: st) n mem k1 k2 := by
  intro g hz p l e s m args below meth c H locs A hF hS hR hL
  exact lv_tableIn hF.1 hF.2.1 hd h1 h2 ho ht (k g hz p l e s m args below meth c H locs A hF hS hR hL)
theorem aE_lookup {dflt off : Int} {ps : Array (Int × Int)} {len tgt : Nat} {x : Int32} (hd : decode y.2.2.1 pc = .ok (.lookupswitch dflt ps, len)) (hp : (ps.toList.zip (ps.toList.drop 1)).all (fun (a, next) => a.1 < next.1) = true) (ho : Op.lookupswitch.offset ps.toList dflt x.toInt = off) (ht : (pc : Int) + off = (tgt : Int)) (k : aE z y R Q tgt ls st n mem k1 k2) : aE z y R Q pc ls (.int x :: st) n mem k1 k2 := by
  intro g hz p l e s m args below meth c H locs A hF hS hR hL
  exact lv_lookup hF.1 hF.2.1 hd hp ho ht (k g hz p l e s m args below meth c H locs A hF hS hR hL)
/-! storing into locals -/
def a_c2 (ls : List (Option Value)) : Nat → Bool
  | 0 => true
  | j + 1 => match a_lk ls j with
    | some v => v.category == 1
    | none => true
def a_al (g : aG) (ls : List (Option Value)) : List (Nat × Value) := (List.range ls.length).filterMap fun i => (a_lk ls i).map fun v => (i, a_cv g v)
theorem a_al_has {g : aG} {nL : Nat} {ls : List (Option Value)} {A : Array Slot} (h : a_L g nL ls A) : lv_has A nL (a_al g ls) := by
  refine ⟨h.1, h.2.1, fun q hq => ?_⟩
  obtain ⟨i, -, hi⟩ := List.mem_filterMap.mp hq
  cases hv : a_lk ls i with
  | none => rw [hv] at hi; cases hi
  | some v =>
    rw [hv] at hi
    cases hi
    exact h.2.2 i v hv
theorem a_L_store {g : aG} {nL i : Nat} {ls : List (Option Value)} {A : Array Slot} {v : Value} (hc : a_c2 ls i = true) (h : lv_has A nL ((i, a_cv g v) :: (a_al g ls).filter (fun q => !(q.1 == i) && !(q.1 + 1 == i && q.2.category == 2)))) : a_L g nL (a_set ls i v) A := by
  refine ⟨h.1, h.2.1, fun j w hj => ?_⟩
  rcases a_lk_set ls i j v w hj with ⟨rfl, rfl⟩ | ⟨hne, hw⟩
  · exact h.2.2 _ List.mem_cons_self
  · refine h.2.2 (j, a_cv g w) (List.mem_cons_of_mem _ (List.mem_filter.mpr ⟨?_, ?_⟩))
    · refine List.mem_filterMap.mpr ⟨j, List.mem_range.mpr ?_, by rw [hw]; rfl⟩
      have := a_lk_get _ _ _ hw
      exact (List.getElem?_eq_some_iff.mp this).1
    · simp only [Bool.and_eq_true, Bool.not_eq_true', beq_eq_false_iff_ne, ne_eq, Bool.and_eq_false_iff]
      refine ⟨hne, ?_⟩
      by_cases h1 : j + 1 = i
      · right
        subst h1
        simp only [a_c2, hw, beq_iff_eq] at hc
        rw [a_cat, hc]
        decide
      · left
        exact h1
theorem aE_istore_n {j : Fin 4} {i : Nat} {x : Int32} (hd : decode y.2.2.1 pc = .ok (.istore_n j, 1)) (hi : (j : Nat) = i) (hn : i < y.2.2.2.1) (hc : a_c2 ls i = true) (k : aE z y R Q (pc + 1) (a_set ls i (.int x)) st n mem k1 k2) : aE z y R Q pc ls (.int x :: st) n mem k1 k2 := by
  intro g hz p l e s m args below meth c H locs A hF hS hR hL
  exact lv_istore_n hF.1 hF.2.1 hd hi (a_al_has hL) hn rfl fun A' hA' => k g hz p l e s m args below meth c H locs A' hF hS hR (a_L_store (v := .int x) hc hA')
theorem aE_istore {i : Nat} {x : Int32} (hd : decode y.2.2.1 pc = .ok (.istore i, 2)) (hn : i < y.2.2.2.1) (hc : a_c2 ls i = true) (k : aE z y R Q (pc + 2) (a_set ls i (.int x)) st n mem k1 k2) : aE z y R Q pc ls (.int x :: st) n mem k1 k2 := by
  intro g hz p l e s m args below meth c H locs A hF hS hR hL
  exact lv_istore hF.1 hF.2.1 hd (a_al_has hL) hn rfl fun A' hA' => k g hz p l e s m args below meth c H locs A' hF hS hR (a_L_store (v := .int x) hc hA')
theorem aE_astore_n {j : Fin 4} {i : Nat} {x : Nat} (hd : decode y.2.2.1 pc = .ok (.astore_n j, 1)) (hi : (j : Nat) = i) (hn : i < y.2.2.2.1) (hc : a_c2 ls i = true) (k : aE z y R Q (pc + 1) (a_set ls i (.ref x)) st n mem k1 k2) : aE z y R Q pc ls (.ref x :: st) n mem k1 k2 := by
  intro g hz p l e s m args below meth c H locs A hF hS hR hL
  exact lv_astore_n hF.1 hF.2.1 hd hi (a_al_has hL) hn rfl fun A' hA' => k g hz p l e s m args below meth c H locs A' hF hS hR (a_L_store (v := .ref x) hc hA')
theorem aE_astore {i : Nat} {x : Nat} (hd : decode y.2.2.1 pc = .ok (.astore i, 2)) (hn : i < y.2.2.2.1) (hc : a_c2 ls i = true) (k : aE z y R Q (pc + 2) (a_set ls i (.ref x)) st n mem k1 k2) : aE z y R Q pc ls (.ref x :: st) n mem k1 k2 := by
  intro g hz p l e s m args below meth c H locs A hF hS hR hL
  exact lv_astore hF.1 hF.2.1 hd (a_al_has hL) hn rfl fun A' hA' => k g hz p l e s m args below meth c H locs A' hF hS hR (a_L_store (v := .ref x) hc hA')
theorem aE_iinc {i : Nat} {dz : Int} {x v : Int32} (hd : decode y.2.2.1 pc = .ok (.iinc i dz, 3)) (hx : a_lk ls i = some (.int x)) (hv : x + Int32.ofInt dz = v) (hn : i < y.2.2.2.1) (hc : a_c2 ls i = true) (k : aE z y R Q (pc + 3) (a_set ls i (.int v)) st n mem k1 k2) : aE z y R Q pc ls st n mem k1 k2 := by
  intro g hz p l e s m args below meth c H locs A hF hS hR hL
  have hm : (i, Value.int x) ∈ a_al g ls := List.mem_filterMap.mpr ⟨i, List.mem_range.mpr (List.getElem?_eq_some_iff.mp (a_lk_get _ _ _ hx)).1, by rw [hx]; rfl⟩
  obtain ⟨q, hq⟩ := List.getElem?_of_mem hm
  exact lv_iinc hF.1 hF.2.1 hd (a_al_has hL) hq hv hn rfl fun A' hA' => k g hz p l e s m args below meth c H locs A' hF hS hR (a_L_store (v := .int v) hc hA')
/-! fields -/
/-- a class's own facts: its number, name, fields -/
def a_cf (ci : Nat) (C : String) (T : u_T) (N : Nat) : Prop := vwCl[ci]? = some (C, T, N) ∧ ci < 100 ∧ (∀ w ∈ u_ws C T N, w ∈ lw_g) ∧ (∃ ty0 : Nat → FieldType, ∀ k, k < N → parseFieldDescriptor (T k).2.2.1 = some (ty0 k)) ∧ (∀ a, a < N → ∀ b, b < N → a ≠ b → (T a).2.1 ≠ (T b).2.1)
/-- entry idx of class own: field j of class ci -/
def a_fw (own : String) (idx ci N j : Nat) (fin : Bool) (ty : FieldType) : Prop := ∃ (C : String) (T : u_T), a_cf ci C T N ∧ j < N ∧ Cond.fieldLink own idx (T j).1 (T j).2.1 (T j).2.2.1 ∈ lw_g ∧ (T j).2.2.2 = fin ∧ parseFieldDescriptor (T j).2.2.1 = some ty ∧ (fin = true → (T j).1 = own)
def a_fr (own : String) (idx ci N j : Nat) : Prop := ∃ (C : String) (T : u_T), a_cf ci C T N ∧ j < N ∧ Cond.fieldLink own idx (T j).1 (T j).2.1 (T j).2.2.1 ∈ lw_g
theorem a_fw.r {own : String} {idx ci N j : Nat} {fin : Bool} {ty : FieldType} (h : a_fw own idx ci N j fin ty) : a_fr own idx ci N j := by
  obtain ⟨C, T, h1, h2, h3, -⟩ := h
  exact ⟨C, T, h1, h2, h3⟩
def a_up (mem : aM) (a j : Nat) (v : Value) : aM := fun q i => if q = a ∧ i = j then v else mem q i
theorem a_up_ne {mem : aM} {a j q : Nat} {v : Value} (h : q ≠ a) : a_up mem a j v q = mem q := by
  funext i; simp [a_up, h]
theorem a_ce_o {g : aG} {a ci N : Nat} {row : Nat → Value} (hs : a_sh a = (ci, N)) (hc : ci < 100) : a_ce g (a_sh a) row = .inr (ci, (List.range N).map fun j => a_cv g (row j)) := by
  rw [hs]
  unfold a_ce
  simp only
  rw [if_neg (by omega), if_neg (by omega), if_neg (by omega)]
theorem a_R_set {g : aG} {n k : Nat} {mem mem' : aM} {H H' : Heap} (hR : a_R g n mem H) (hk : k < n) (hm : ∀ q, q ≠ k → mem' q = mem q) (he : va_at (aD g) vwCl (aB g + k, a_ce g (a_sh k) (mem' k)) H') (hz : H'.size = H.size) (oq : ∀ q : Nat, q ≠ aB g + k → H'[q]? = H[q]?) : a_R g n mem' H' := by
  refine ⟨?_, hz.trans hR.2.1, hR.2.2⟩
  rw [← a_wl_set hk hm]
  exact hR.1.set (a_wl_D g n mem) (a_wl_get hk) he oq
theorem a_R_push {g : aG} {n : Nat} {mem mem' : aM} {H H' : Heap} (hR : a_R g n mem H) (hn : n + 1 ≤ 1000) (hm : ∀ q, q < n → mem' q = mem q) (he : va_at (aD g) vwCl (aB g + n, a_ce g (a_sh n) (mem' n)) H') (hz : H'.size = H.size + 1) (oq : ∀ q : Nat, q < H.size → H'[q]? = H[q]?) : a_R g (n + 1) mem' H' := by
  refine ⟨?_, by rw [hz, hR.2.1]; rfl, hn⟩
  rw [← a_wl_push hm]
  refine va_P.app (hR.1.kept fun k q hk => oq _ ((hR.1 k q hk).lt)) fun k x hx => ?_
  have h0 : k < 1 := (List.getElem?_eq_some_iff.mp hx).1
  rw [show k = 0 by omega] at hx
  cases hx
  exact he
theorem a_S_push {g : aG} {H0 H H' : Heap} {locs : List Loc} (hS : va_S (a_A g) H0 H locs) (hz : H.size ≤ H'.size) (oq : ∀ q : Nat, q < H.size → H'[q]? = H[q]?) : va_S (a_A g) H0 H' locs :=
  ⟨Nat.le_trans hS.1 hz, fun q h1 h2 => (oq q (Nat.lt_of_lt_of_le h1 hS.1)).trans (hS.2.1 q h1 h2), hS.2.2⟩
/-- entry idx of class own, for reading: field j of class ci -/
theorem aE_getf {idx ci N j a : Nat} {v : Value} (hd : decode y.2.2.1 pc = .ok (.getfield idx, 3)) (hl : a_fr y.1 idx ci N j) (ha : a < n) (hs : a_sh a = (ci, N)) (hv : mem a j = v) (k : aE z y R Q (pc + 3) ls (v :: st) n mem k1 k2) : aE z y R Q pc ls (.ref a :: st) n mem k1 k2 := by
  intro g hz p l e s m args below meth c H locs A hF hS hR hL
  obtain ⟨C, T, ⟨c1, c2, c3, c4, c5⟩, hj, hw⟩ := hl
  have he := a_wl_get (g := g) (mem := mem) ha
  rw [a_ce_o hs c2] at he
  have hk := k g hz p l e s m args below meth c H locs A hF hS hR hL
  simp only [List.map_cons, a_cv] at hk ⊢
  rw [a_ad_k hR ha]
  exact va_get (D := aD g) hF.1 hF.2.1 (Ts := lw_g) hF.2.2.2.2.2.1 c3 hF.2.2.2.2.1 hF.2.2.2.2.2.2.2.2.1 hR.1 a he c1 j hj (hF.2.2.2.2.2.1 _ hw) (fun _ h => h) (v := a_cv g v) (by simp [hj, hv]) hd hk
theorem a_fsset {g : aG} {N j : Nat} {row : Nat → Value} {v : Value} (_hj : j < N) : ((List.range N).map fun i => a_cv g (row i)).set j (a_cv g v) = (List.range N).map fun i => a_cv g (if i = j then v else row i) := by
  apply List.ext_getElem?
  intro i
  by_cases hi : i = j
  · subst hi
    rw [List.getElem?_set_self (by simp; exact _hj)]
    simp [_hj]
  · rw [List.getElem?_set_ne (Ne.symm hi)]
    by_cases hl : i < N
    · simp [hl, hi]
    · simp [hl]
theorem aE_putf {idx ci N j a : Nat} {fin : Bool} {ty : FieldType} {v : Value} (hd : decode y.2.2.1 pc = .ok (.putfield idx, 3)) (hl : a_fw y.1 idx ci N j fin ty) (hfin : fin = false ∨ y.2.1.name = "<init>") (ha : a < n) (hs : a_sh a = (ci, N)) (hv : ∀ g : aG, narrow ty (a_cv g v) = a_cv g v ∧ fits ty (a_cv g v) = true) (k : aE z y R Q (pc + 3) ls st n (a_up mem a j v) k1 k2) : aE z y R Q pc ls (v :: .ref a :: st) n mem k1 k2 := by
  intro g hz p l e s m args below meth c H locs A hF hS hR hL
  obtain ⟨C, T, ⟨c1, c2, c3, ⟨ty0, c4⟩, c5⟩, hj, hw, hf, hd2, hdecl⟩ := hl
  have he := a_wl_get (g := g) (mem := mem) ha
  have hce := a_ce_o (g := g) (row := mem a) hs c2
  have hce' := a_ce_o (g := g) (row := a_up mem a j v a) hs c2
  rw [hce] at he
  simp only [List.map_cons]
  rw [show a_cv g (.ref a) = .ref (aB g + a) from congrArg Value.ref (a_ad_k hR ha)]
  have hts := hF.2.2.2.2.2.1
  have hK := hF.2.2.2.2.2.2.2.2.1
  have hap := va_apart (own := y.1) hts c3 ty0 c4 c5 hK c1
  obtain ⟨r, h1, cell, q1, q2, q3, q4⟩ := hR.1 a _ he
  have hr : r = (C, T, N) := Option.some.inj (h1.symm.trans c1)
  subst hr
  obtain ⟨hSl, hfc, kC, hkC, hkind⟩ := hK.1 ci _ c1
  obtain ⟨cf, kf, fi, f, hi, hsl⟩ := hSl j hj
  have hlay := hts _ (c3 _ (u_in_lay hj))
  unfold u_lay at hlay
  have hst := (u_facts hfc hkC (u_lays hts c3 hj) hi).1
  have fin1 : ∀ H' : Heap, H'[aB g + a]? = some (cell.setSlot f.slot (a_cv g v)) → H'.size = H.size → (∀ q, q ≠ aB g + a → H'[q]? = H[q]?) → W p l e R s m args below meth c H' (locs ++ [⟨aB g + a, f.slot⟩]) k1 k2 (MQ below (a_Q g Q) args s R.cells R.slots (a_A g)) (F0 m (pc + 3) A (st.map (a_cv g))) := by
    intro H' e1 e2 e3
    rw [hsl] at e1 ⊢
    refine k g hz p l e s m args below meth c H' _ A hF (hS.put e2 e3 (Nat.le_add_right _ _)) (a_R_set hR ha (fun q hq => a_up_ne hq) ?_ e2 e3) hL
    rw [hce']
    refine ⟨_, c1, t_OB.to (V := updV (vp_V ((List.range N).map fun j => a_cv g (mem a j))) j (a_cv g v)) ⟨_, e1, q2, q3, t_set q4 hap hj (a_cv g v)⟩ (fun i _ => ?_)⟩
    rw [vp_updV_set (by simp; exact hj), a_fsset hj]
    congr 2
    funext i
    simp [a_up]
  by_cases hfb : fin = true
  · rw [if_pos (by rw [hf]; exact hfb)] at hlay
    have hcf : m.cls = cf := by
      obtain ⟨_, _, c', _, _, _, -, -, hf', -, -, -, hown2, -⟩ := Cond.laysFinal_spec hlay
      have e1 : c' = cf := by have := hi.symm.trans hf'; simp at this; exact this.1.symm
      rw [hdecl hfb] at hown2
      rw [← e1]; exact Option.some.inj (hF.2.2.2.2.1.symm.trans hown2)
    have h6 := u_fits hfc hkC hkind (Or.inr hlay) hi hd2 (hv g).1 (hv g).2
    have hin2 : meth.name = "<init>" := by
      rw [hF.2.2.2.2.2.2.2.1]
      rcases hfin with h | h
      · rw [h] at hfb; cases hfb
      · exact h
    exact W.putFinK hF.1 hF.2.1 hF.2.2.2.2.1 (hts _ hw) hi hst hcf hin2 (by rw [q2]; exact h6) q1 q3 (by rw [hsl]; exact k2_hasslot (q4 j hj)) rfl rfl hd fin1
  · rw [if_neg (by rw [hf]; exact hfb)] at hlay
    have h6 := u_store hfc hkC hkind hlay hi hd2 (hv g).1 (hv g).2
    exact W.putK hF.1 hF.2.1 (f := f) ⟨hF.2.2.2.2.1, hts _ hw, ⟨_, _, _, hi⟩, hst⟩ (by rw [q2]; exact h6) q1 q3 (by rw [hsl]; exact k2_hasslot (q4 j hj)) rfl rfl hd fin1
/-! arrays -/
theorem a_ce_i {g : aG} {a N : Nat} {row : Nat → Value} (hs : a_sh a = (100, N)) : a_ce g (a_sh a) row = .inl (aC g 0, N, .inl fun i => a_vi (row i)) := by
  rw [hs]
  unfold a_ce
  simp
theorem a_ce_z {g : aG} {a N : Nat} {row : Nat → Value} (hs : a_sh a = (101, N)) : a_ce g (a_sh a) row = .inl (aC g 1, N, .inl fun i => a_vi (row i)) := by
  rw [hs]
  unfold a_ce
  simp
theorem a_ce_q {g : aG} {a N t : Nat} {row : Nat → Value} (ht : 102 ≤ t) (hs : a_sh a = (t, N)) : a_ce g (a_sh a) row = .inl (aC g (t - 100), N, .inr (.inr (.inr (.inr fun i => a_vr g (row i))))) := by
  rw [hs]
  unfold a_ce
  simp only
  rw [if_neg (by omega), if_neg (by omega), if_pos ht]
theorem aE_iald {a N j : Nat} {i x : Int32} (hd : decode y.2.2.1 pc = .ok (.iaload, 1)) (ha : a < n) (hs : a_sh a = (100, N)) (hN : N < 2 ^ 31) (hi : i = nI j) (hj : j < N) (hv : mem a j = .int x) (k : aE z y R Q (pc + 1) ls (.int x :: st) n mem k1 k2) : aE z y R Q pc ls (.int i :: .ref a :: st) n mem k1 k2 := by
  intro g hz p l e s m args below meth c H locs A hF hS hR hL
  have he := a_wl_get (g := g) (mem := mem) ha
  rw [a_ce_i hs] at he
  have hk := k g hz p l e s m args below meth c H locs A hF hS hR hL
  simp only [List.map_cons, a_cv] at hk ⊢
  rw [a_ad_k hR ha]
  subst hi
  refine va_iald (D := aD g) hF.1 hF.2.1 hF.2.2.2.2.2.2.2.2.1 hR.1 a 0 he rfl (vp_in_nI hj hN) hd ?_
  rw [nI_clamp (by omega)]
  simp only [hv, a_vi]
  exact hk
theorem aE_zald {a N j : Nat} {i x : Int32} (hd : decode y.2.2.1 pc = .ok (.baload, 1)) (ha : a < n) (hs : a_sh a = (101, N)) (hN : N < 2 ^ 31) (hi : i = nI j) (hj : j < N) (hv : mem a j = .int x) (k : aE z y R Q (pc + 1) ls (.int x :: st) n mem k1 k2) : aE z y R Q pc ls (.int i :: .ref a :: st) n mem k1 k2 := by
  intro g hz p l e s m args below meth c H locs A hF hS hR hL
  have he := a_wl_get (g := g) (mem := mem) ha
  rw [a_ce_z hs] at he
  have hk := k g hz p l e s m args below meth c H locs A hF hS hR hL
  simp only [List.map_cons, a_cv] at hk ⊢
  rw [a_ad_k hR ha]
  subst hi
  refine va_zald (D := aD g) hF.1 hF.2.1 hF.2.2.2.2.2.2.2.2.1 hR.1 a 1 he rfl (vp_in_nI hj hN) hd ?_
  rw [nI_clamp (by omega)]
  simp only [hv, a_vi]
  exact hk
theorem a_arr {g : aG} {s : State} (hK : a_K g s) {t : Nat} {ty : FieldType} (ht : (a_tys g)[t]? = some (aC g t, ty)) : ArrOfT s (aC g t) ty := (hK.1.2 t _ ht).1
theorem aE_aald {a N j t r : Nat} {i : Int32} (hd : decode y.2.2.1 pc = .ok (.aaload, 1)) (ha : a < n) (ht : 102 ≤ t ∧ t < 106) (hs : a_sh a = (t, N)) (hN : N < 2 ^ 31) (hi : i = nI j) (hj : j < N) (hv : mem a j = .ref r) (k : aE z y R Q (pc + 1) ls (.ref r :: st) n mem k1 k2) : aE z y R Q pc ls (.int i :: .ref a :: st) n mem k1 k2 := by
  intro g hz p l e s m args below meth c H locs A hF hS hR hL
  have he := a_wl_get (g := g) (mem := mem) ha
  rw [a_ce_q ht.1 hs] at he
  have hk := k g hz p l e s m args below meth c H locs A hF hS hR hL
  simp only [List.map_cons, a_cv] at hk ⊢
  rw [a_ad_k hR ha]
  subst hi
  have hcell : H[aB g + a]? = some (arrV (aC g (t - 100)) N fun q => va_rf (a_vr g (mem a q))) := hR.1 a _ he
  have hty : ∃ ty : FieldType, ty.isReference = true ∧ ArrOfT s (aC g (t - 100)) ty := by
    have hK := hF.2.2.2.2.2.2.2.2
    rcases (show t = 102 ∨ t = 103 ∨ t = 104 ∨ t = 105 by omega) with rfl | rfl | rfl | rfl
    · exact ⟨_, rfl, a_arr hK (t := 2) rfl⟩
    · exact ⟨_, rfl, a_arr hK (t := 3) rfl⟩
    · exact ⟨_, rfl, a_arr hK (t := 4) rfl⟩
    · exact ⟨_, rfl, a_arr hK (t := 5) rfl⟩
  obtain ⟨ty, hr, hty⟩ := hty
  refine W.aald (v := .ref (a_ad g r)) (ty := ty) hF.1 hF.2.1 hcell (hty N _) hr (fun q => by cases q) (by rw [arrV_size]; exact vp_in_nI hj hN) ?_ rfl rfl hd hk
  rw [nI_clamp (by omega), arrV_read _ _ hj, hv]
  rfl
theorem a_updi {g : aG} {a j N : Nat} {mem : aM} {x : Int32} {cA : ClassId} : (arrV cA N (fun q => .int (a_vi (mem a q)))).setSlot j (.int x) = arrV cA N (fun q => .int (a_vi (a_up mem a j (.int x) a q))) := by
  rw [arrV_store]
  congr 1
  funext q
  by_cases hq : q = j
  · subst hq; simp [updV, a_up, a_vi]
  · simp [updV, a_up, hq]
theorem aE_iast {a N j : Nat} {i x : Int32} (hd : decode y.2.2.1 pc = .ok (.iastore, 1)) (ha : a < n) (hs : a_sh a = (100, N)) (hN : N < 2 ^ 31) (hi : i = nI j) (hj : j < N) (k : aE z y R Q (pc + 1) ls st n (a_up mem a j (.int x)) k1 k2) : aE z y R Q pc ls (.int x :: .int i :: .ref a :: st) n mem k1 k2 := by
  intro g hz p l e s m args below meth c H locs A hF hS hR hL
  have he := a_wl_get (g := g) (mem := mem) ha
  rw [a_ce_i hs] at he
  simp only [List.map_cons, a_cv]
  rw [a_ad_k hR ha]
  subst hi
  have hcell : H[aB g + a]? = some (arrV (aC g 0) N fun q => .int (a_vi (mem a q))) := hR.1 a _ he
  refine W.iast hF.1 hF.2.1 hcell (a_arr hF.2.2.2.2.2.2.2.2 (t := 0) rfl N _) (fun q => by cases q) (by rw [arrV_size]; exact vp_in_nI hj hN) rfl rfl hd fun H1 e1 z oq => ?_
  refine k g hz p l e s m args below meth c H1 _ A hF (hS.put z oq (Nat.le_add_right _ _)) (a_R_set hR ha (fun q hq => a_up_ne hq) ?_ z oq) hL
  rw [a_ce_i hs]
  show H1[aB g + a]? = some (vp_cell _ _)
  rw [vp_cell_i, e1, nI_clamp (by omega), a_updi (g := g)]
theorem a_narZ {x : Int32} (h : x = 0 ∨ x = 1) : narrow .boolean (.int x) = .int x ∧ fits .boolean (.int x) = true := by
  rcases h with rfl | rfl <;> exact ⟨rfl, rfl⟩
theorem aE_zast {a N j : Nat} {i x : Int32} (hd : decode y.2.2.1 pc = .ok (.bastore, 1)) (ha : a < n) (hs : a_sh a = (101, N)) (hN : N < 2 ^ 31) (hi : i = nI j) (hj : j < N) (hx : x = 0 ∨ x = 1) (k : aE z y R Q (pc + 1) ls st n (a_up mem a j (.int x)) k1 k2) : aE z y R Q pc ls (.int x :: .int i :: .ref a :: st) n mem k1 k2 := by
  intro g hz p l e s m args below meth c H locs A hF hS hR hL
  have he := a_wl_get (g := g) (mem := mem) ha
  rw [a_ce_z hs] at he
  simp only [List.map_cons, a_cv]
  rw [a_ad_k hR ha]
  subst hi
  have hcell : H[aB g + a]? = some (arrV (aC g 1) N fun q => .int (a_vi (mem a q))) := hR.1 a _ he
  refine W.zast hF.1 hF.2.1 hcell (a_arr hF.2.2.2.2.2.2.2.2 (t := 1) rfl N _) (fun q => by cases q) (by rw [arrV_size]; exact vp_in_nI hj hN) rfl rfl hd fun H1 e1 z oq => ?_
  refine k g hz p l e s m args below meth c H1 _ A hF (hS.put z oq (Nat.le_add_right _ _)) (a_R_set hR ha (fun q hq => a_up_ne hq) ?_ z oq) hL
  rw [a_ce_z hs]
  show H1[aB g + a]? = some (vp_cell _ _)
  rw [(a_narZ hx).1] at e1
  rw [vp_cell_i, e1, nI_clamp (by omega), a_updi (g := g)]
theorem aE_alen {a N : Nat} (hd : decode y.2.2.1 pc = .ok (.arraylength, 1)) (ha : a < n) (hs : a_sh a = (100, N)) (k : aE z y R Q (pc + 1) ls (.int (nI N) :: st) n mem k1 k2) : aE z y R Q pc ls (.ref a :: st) n mem k1 k2 := by
  intro g hz p l e s m args below meth c H locs A hF hS hR hL
  have he := a_wl_get (g := g) (mem := mem) ha
  rw [a_ce_i hs] at he
  have hk := k g hz p l e s m args below meth c H locs A hF hS hR hL
  simp only [List.map_cons, a_cv] at hk ⊢
  rw [a_ad_k hR ha]
  exact va_alen (D := aD g) hF.1 hF.2.1 hF.2.2.2.2.2.2.2.2.1 hR.1 a 0 he (ty := .int) rfl rfl hd hk
/-! the script and UNDER -/
theorem aE_sld {i : Int32} {j : Nat} (hd : decode y.2.2.1 pc = .ok (.iaload, 1)) (hi : i = nI j) (hN : z.1 < 2 ^ 31) (hj : j < z.1) (k : aE z y R Q (pc + 1) ls (.int (z.2 j) :: st) n mem k1 k2) : aE z y R Q pc ls (.int i :: .ref 100000 :: st) n mem k1 k2 := by
  intro g hz p l e s m args below meth c H locs A hF hS hR hL
  have hk := k g hz p l e s m args below meth c H locs A hF hS hR hL
  have hK := hF.2.2.2.2.2.2.2.2
  subst hi
  subst hz
  refine va_sld hF.1 hF.2.1 hK.2.1 (Nat.lt_of_lt_of_le hK.2.2.1 hK.2.2.2.2.2.2.2.2.2.2) (Nat.not_le.mpr hK.2.2.1) hS (vp_in_nI hj hN) hd ?_
  rw [nI_clamp (Nat.lt_trans hj hN)]
  exact hk
theorem aE_slen (hd : decode y.2.2.1 pc = .ok (.arraylength, 1)) (k : aE z y R Q (pc + 1) ls (.int (nI z.1) :: st) n mem k1 k2) : aE z y R Q pc ls (.ref 100000 :: st) n mem k1 k2 := by
  intro g hz p l e s m args below meth c H locs A hF hS hR hL
  have hk := k g hz p l e s m args below meth c H locs A hF hS hR hL
  have hK := hF.2.2.2.2.2.2.2.2
  subst hz
  exact va_slen hF.1 hF.2.1 hK.2.1 (Nat.lt_of_lt_of_le hK.2.2.1 hK.2.2.2.2.2.2.2.2.2.2) (Nat.not_le.mpr hK.2.2.1) hS hd hk
theorem aE_under {idx : Nat} (hd : decode y.2.2.1 pc = .ok (.getstatic idx, 3)) (hw : Cond.fieldLink y.1 idx "BellWaves" "UNDER" "[I" ∈ lw_g) (k : aE z y R Q (pc + 3) ls (.ref 100001 :: st) n mem k1 k2) : aE z y R Q pc ls st n mem k1 k2 := by
  intro g hz p l e s m args below meth c H locs A hF hS hR hL
  have hk := k g hz p l e s m args below meth c H locs A hF hS hR hL
  have hK := hF.2.2.2.2.2.2.2.2
  exact va_gets hF.1 hF.2.1 hK.2.2.2.1 hS hF.2.2.2.2.1 (hF.2.2.2.2.2.1 _ hw) (fun _ h => h) hd hk
theorem aE_uld {i : Int32} {j : Nat} {v : Int32} (hd : decode y.2.2.1 pc = .ok (.iaload, 1)) (hi : i = nI j) (hj : j < 4) (hv : a_un j = .int v) (k : aE z y R Q (pc + 1) ls (.int v :: st) n mem k1 k2) : aE z y R Q pc ls (.int i :: .ref 100001 :: st) n mem k1 k2 := by
  intro g hz p l e s m args below meth c H locs A hF hS hR hL
  have hk := k g hz p l e s m args below meth c H locs A hF hS hR hL
  have hK := hF.2.2.2.2.2.2.2.2
  subst hi
  exact va_ti hF.1 hF.2.1 hK.2.2.2.2.1 hS (vp_in_nI hj (by omega)) (by rw [nI_clamp (by omega)]; exact hv) hd hk
/-! making cells -/
theorem aE_new {idx ci N : Nat} {C : String} {T : u_T} (hd : decode y.2.2.1 pc = .ok (.new idx, 3)) (hc : a_cf ci C T N) (hw : Cond.classLink y.1 idx C ∈ lw_g ∧ Cond.instantiable C N ∈ lw_g ∧ Cond.initialized C ∈ lw_g) (hs : a_sh n = (ci, N)) (hm : ∀ j, j < N → ∀ ty, parseFieldDescriptor (T j).2.2.1 = some ty → mem' n j = defaultValue ty) (hmm : ∀ q, q < n → mem' q = mem q) (hn : n + 1 ≤ 1000) (hr : k1 + 1 ≤ R.cells ∧ k2 + N ≤ R.slots) (k : aE z y R Q (pc + 3) ls (.ref n :: st) (n + 1) mem' (k1 + 1) (k2 + N)) : aE z y R Q pc ls st n mem k1 k2 := by
  intro g hz p l e s m args below meth c H locs A hF hS hR hL
  obtain ⟨c1, c2, c3, ⟨ty0, c4⟩, c5⟩ := hc
  have hts := hF.2.2.2.2.2.1
  have hK := hF.2.2.2.2.2.2.2.2.1
  have hKn := hK.1 ci _ c1
  refine W.newcK hF.1 hF.2.1 hF.2.2.2.2.1 (hts _ hw.1) (hts _ hw.2.1) (hts _ hw.2.2) rfl hd hr.1 hr.2 hKn.2.1 rfl fun H1 kC hkC e1 z1 o1 => ?_
  have hH : H.size = aB g + n := hR.2.1
  have hR1 : a_R g (n + 1) mem' H1 := by
    refine a_R_push hR hn hmm ?_ z1 o1
    rw [a_ce_o hs c2]
    rw [hH] at e1
    refine ⟨_, c1, (u_born ty0 hts c3 hKn hkC e1 c4).to fun j hj => ?_⟩
    have hj : j < N := hj
    have h1 := hm j hj _ (c4 j hj)
    have h2 : a_cv g (defaultValue (ty0 j)) = defaultValue (ty0 j) := by cases ty0 j <;> rfl
    simp [vp_V, hj, h1, h2]
  have hk := k g hz p l e s m args below meth c H1 locs A hF (a_S_push hS (by omega) o1) hR1 hL
  rw [hH]
  simp only [List.map_cons, a_cv] at hk
  rw [a_ad_k hR1 (Nat.lt_succ_self n)] at hk
  exact hk
theorem aE_newa {N : Nat} {i : Int32} {t : Nat} {atype : ArrayType} {ty : FieldType} (hd : decode y.2.2.1 pc = .ok (.newarray atype, 2)) (hty : (atype = .int ∧ ty = .int ∧ t = 0) ∨ (atype = .boolean ∧ ty = .boolean ∧ t = 1)) (hw : Cond.arrayClass ty ∈ lw_g) (hi : i = nI N) (hN : N ≤ 100000) (hs : a_sh n = (100 + t, N)) (hm : ∀ j, mem' n j = .int 0) (hmm : ∀ q, q < n → mem' q = mem q) (hn : n + 1 ≤ 1000) (hr : k1 + 1 ≤ R.cells ∧ k2 + N ≤ R.slots) (k : aE z y R Q (pc + 2) ls (.ref n :: st) (n + 1) mem' (k1 + 1) (k2 + N)) : aE z y R Q pc ls (.int i :: st) n mem k1 k2 := by
  intro g hz p l e s m args below meth c H locs A hF hS hR hL
  have hts := hF.2.2.2.2.2.1
  have hH : H.size = aB g + n := hR.2.1
  subst hi
  have htt : newarray.typeOf atype = ty := by rcases hty with ⟨rfl, rfl, rfl⟩ | ⟨rfl, rfl, rfl⟩ <;> rfl
  have hdf : defaultValue ty = .int 0 := by rcases hty with ⟨rfl, rfl, rfl⟩ | ⟨rfl, rfl, rfl⟩ <;> rfl
  have hcb : componentBytes ty ≤ 4 := by rcases hty with ⟨rfl, rfl, rfl⟩ | ⟨rfl, rfl, rfl⟩ <;> decide
  have hb : N * componentBytes ty ≤ 536870912 := Nat.le_trans (Nat.mul_le_mul_left N hcb) (by omega)
  refine va_newaK hF.1 hF.2.1 (by rw [htt]; exact hts _ hw) rfl hd (n := nI N) rfl (nI_pos (by omega)) (nI_clamp (by omega)) (by rw [htt]; exact hb) hr.1 hr.2 hH fun H1 cA e1 z1 o1 hAr hNm => ?_
  rw [htt] at e1 hNm
  have hcA : cA = aC g t := by
    have hK := hF.2.2.2.2.2.2.2.2.1
    rcases hty with ⟨rfl, rfl, rfl⟩ | ⟨rfl, rfl, rfl⟩
    · exact Option.some.inj (hNm.symm.trans (hK.2 0 _ rfl).2)
    · exact Option.some.inj (hNm.symm.trans (hK.2 1 _ rfl).2)
  have hR1 : a_R g (n + 1) mem' H1 := by
    refine a_R_push hR hn hmm ?_ (by rw [z1, hH]) (fun q hq => o1 q (by omega))
    have hce : a_ce g (a_sh n) (mem' n) = .inl (aC g t, N, .inl fun i => a_vi (mem' n i)) := by
      rcases hty with ⟨rfl, rfl, rfl⟩ | ⟨rfl, rfl, rfl⟩
      · exact a_ce_i hs
      · exact a_ce_z hs
    rw [hce]
    show H1[aB g + n]? = some (vp_cell _ _)
    rw [vp_cell_i, e1, hcA, hdf]
    congr 2
    funext j
    rw [hm j]
    rfl
  have hk := k g hz p l e s m args below meth c H1 locs A hF (a_S_push hS (by omega) (fun q hq => o1 q (by omega))) hR1 hL
  simp only [List.map_cons, a_cv] at hk
  rw [a_ad_k hR1 (Nat.lt_succ_self n)] at hk
  exact hk
theorem a_tO {g : aG} {U : State} (hK : a_K g U) {t : Nat} {C : String} (hC : (t = 2 ∧ C = "BellWaves$School") ∨ (t = 3 ∧ C = "BellWaves$Stop") ∨ (t = 4 ∧ C = "BellWaves$Sheet")) : va_AO C U ∧ ArrOfT U (aC g t) (.object C) ∧ va_RA U (aC g t) (.object C) := by
  obtain ⟨h1, h2, h3, h4, h5, h6, h7, h8, h9, h10, h11⟩ := hK
  rcases hC with ⟨rfl, rfl⟩ | ⟨rfl, rfl⟩ | ⟨rfl, rfl⟩
  · exact ⟨h7, h1.2 2 _ rfl⟩
  · exact ⟨h8, h1.2 3 _ rfl⟩
  · exact ⟨h9, h1.2 4 _ rfl⟩
theorem aE_anew {idx N t : Nat} {i : Int32} {C : String} (hd : decode y.2.2.1 pc = .ok (.anewarray idx, 3)) (hC : (t = 2 ∧ C = "BellWaves$School") ∨ (t = 3 ∧ C = "BellWaves$Stop") ∨ (t = 4 ∧ C = "BellWaves$Sheet")) (hw : Cond.classLink y.1 idx C ∈ lw_g) (hi : i = nI N) (hN : N ≤ 100000) (hs : a_sh n = (100 + t, N)) (hm : ∀ j, mem' n j = .null) (hmm : ∀ q, q < n → mem' q = mem q) (hn : n + 1 ≤ 1000) (hr : k1 + 1 ≤ R.cells ∧ k2 + N ≤ R.slots) (k : aE z y R Q (pc + 3) ls (.ref n :: st) (n + 1) mem' (k1 + 1) (k2 + N)) : aE z y R Q pc ls (.int i :: st) n mem k1 k2 := by
  intro g hz p l e s m args below meth c H locs A hF hS hR hL
  have hts := hF.2.2.2.2.2.1
  have hH : H.size = aB g + n := hR.2.1
  subst hi
  obtain ⟨hO, -, hRA⟩ := a_tO hF.2.2.2.2.2.2.2.2 hC
  have hcl : (nI N).toNatClampNeg = N := nI_clamp (by omega)
  refine W.anew hF.1 hF.2.1 hF.2.2.2.2.1 (hts _ hw) (va_AO.use hO) rfl hd rfl (nI_pos (by omega)) (by rw [hcl]; omega) hr.1 (by rw [hcl]; exact hr.2) fun cA kA comp f1 f2 f3 f4 => ?_
  rw [hcl]
  generalize hH1 : H.push ({ cls := cA, slots := Array.replicate N .null, vm := .none } : Cell) = H1
  have z1 : H1.size = H.size + 1 := by rw [← hH1, Array.size_push]
  have e1 : H1[H.size]? = some (arrV cA N (fun _ => .null)) := by rw [← hH1, Array.getElem?_push_size, ← arrV_new]
  have o1 : ∀ q : Nat, q < H.size → H1[q]? = H[q]? := fun q hq => by rw [← hH1, Array.getElem?_push, if_neg (Nat.ne_of_lt hq)]
  have hcA : cA = aC g t := by
    obtain ⟨_, _, -, -, -, q4⟩ := hRA
    exact Option.some.inj (f1.symm.trans q4)
  have ht2 : 102 ≤ 100 + t := by rcases hC with ⟨rfl, -⟩ | ⟨rfl, -⟩ | ⟨rfl, -⟩ <;> omega
  have hR1 : a_R g (n + 1) mem' H1 := by
    refine a_R_push hR hn hmm ?_ z1 o1
    rw [a_ce_q ht2 hs]
    show H1[aB g + n]? = some (vp_cell _ _)
    rw [vp_cell_q, ← hH, e1, hcA, show 100 + t - 100 = t by omega]
    congr 2
    funext j
    rw [hm j]
    rfl
  have hk := k g hz p l e s m args below meth c H1 locs A hF (a_S_push hS (by omega) o1) hR1 hL
  simp only [List.map_cons, a_cv] at hk
  rw [a_ad_k hR1 (Nat.lt_succ_self n), ← hH] at hk
  exact hk
theorem aE_aast {a N j r t ci Nr : Nat} {i : Int32} {C : String} {T : u_T} (hd : decode y.2.2.1 pc = .ok (.aastore, 1)) (ha : a < n) (hr : r < n) (hC : (t = 2 ∧ C = "BellWaves$School") ∨ (t = 3 ∧ C = "BellWaves$Stop") ∨ (t = 4 ∧ C = "BellWaves$Sheet")) (hs : a_sh a = (100 + t, N)) (hsr : a_sh r = (ci, Nr)) (hc : vwCl[ci]? = some (C, T, Nr) ∧ ci < 100) (hN : N < 2 ^ 31) (hi : i = nI j) (hj : j < N) (k : aE z y R Q (pc + 1) ls st n (a_up mem a j (.ref r)) k1 k2) : aE z y R Q pc ls (.ref r :: .int i :: .ref a :: st) n mem k1 k2 := by
  intro g hz p l e s m args below meth c H locs A hF hS hR hL
  have ht2 : 102 ≤ 100 + t := by rcases hC with ⟨rfl, -⟩ | ⟨rfl, -⟩ | ⟨rfl, -⟩ <;> omega
  have he := a_wl_get (g := g) (mem := mem) ha
  rw [a_ce_q ht2 hs, show 100 + t - 100 = t by omega] at he
  have her := a_wl_get (g := g) (mem := mem) hr
  rw [a_ce_o hsr hc.2] at her
  simp only [List.map_cons, a_cv]
  rw [a_ad_k hR ha, a_ad_k hR hr]
  subst hi
  have hcell : H[aB g + a]? = some (arrV (aC g t) N fun q => va_rf (a_vr g (mem a q))) := hR.1 a _ he
  obtain ⟨-, -, kA, comp, q1, q2, q3, -⟩ := a_tO hF.2.2.2.2.2.2.2.2 hC
  have hK := hF.2.2.2.2.2.2.2.2.1
  obtain ⟨r', hr', cellV, g1, g2, g3, -⟩ := hR.1 r _ her
  have hcls := (hK.1 ci _ hc.1).2
  have hcomp : comp = (aD g).1 ci := Option.some.inj (q3.symm.trans hcls.1)
  subst hcomp
  obtain ⟨kC, hkC, -⟩ := hcls.2
  refine W.aast hF.1 hF.2.1 hcell (fun q h => by cases h) (fun h => by cases h) q1 q2 rfl hkC ⟨nI_pos (by omega), by rw [arrV_size, nI_clamp (by omega)]; exact hj⟩ g1 (fun q h => by rw [g3] at h; cases h) (by rw [g2]; exact hkC) (by rw [g2]; exact va_assign hcls) rfl rfl hd fun H1 e1 z1 oq => ?_
  refine k g hz p l e s m args below meth c H1 _ A hF (hS.put z1 oq (Nat.le_add_right _ _)) (a_R_set hR ha (fun q hq => a_up_ne hq) ?_ z1 oq) hL
  rw [a_ce_q ht2 hs, show 100 + t - 100 = t by omega]
  show H1[aB g + a]? = some (vp_cell _ _)
  rw [vp_cell_q, e1, nI_clamp (by omega), arrV_store]
  congr 2
  funext q
  by_cases hq : q = j
  · subst hq; simp [updV, a_up, a_vr, va_rf, a_ad_k hR hr]
  · simp [updV, a_up, hq]
theorem a_R_of {g : aG} {n : Nat} {mem : aM} {H : Heap} (h : ∀ k, k < n → va_at (aD g) vwCl (aB g + k, a_ce g (a_sh k) (mem k)) H) (hz : H.size = aB g + n) (hn : n ≤ 1000) : a_R g n mem H := by
  refine ⟨fun k q hk => ?_, hz, hn⟩
  obtain ⟨h1, rfl⟩ := a_wl_inv hk
  exact h k h1
theorem aE_mna {idx N M : Nat} {i j : Int32} (hd : decode y.2.2.1 pc = .ok (.multianewarray idx 2, 4)) (hw : Cond.classLink y.1 idx "[[I" ∈ lw_g ∧ Cond.arrayClass .int ∈ lw_g) (hi : i = nI N) (hj : j = nI M) (hN : N ≤ 100 ∧ M ≤ 100) (hs : a_sh n = (105, N)) (hs2 : ∀ q, q < N → a_sh (n + 1 + q) = (100, M)) (hm : ∀ q, mem' n q = if q < N then .ref (n + 1 + q) else .null) (hm2 : ∀ q, q < N → ∀ b, mem' (n + 1 + q) b = .int 0) (hmm : ∀ q, q < n → mem' q = mem q) (hn : n + 1 + N ≤ 1000) (hr : k1 + (1 + N) ≤ R.cells ∧ k2 + (N + N * M) ≤ R.slots) (k : aE z y R Q (pc + 4) ls (.ref n :: st) (n + 1 + N) mem' (k1 + 1 + N) (k2 + N + N * M)) : aE z y R Q pc ls (.int j :: .int i :: st) n mem k1 k2 := by
  intro g hz p l e s m args below meth c H locs A hF hS hR hL
  have hts := hF.2.2.2.2.2.1
  have hH : H.size = aB g + n := hR.2.1
  subst hi
  subst hj
  have hK := hF.2.2.2.2.2.2.2.2
  obtain ⟨K1, -, -, -, -, -, -, -, -, hAO, -⟩ := hK
  simp only [List.map_cons, a_cv]
  refine nb_W (ty := .int) (N := N) (M := M) hF.1 hF.2.1 hF.2.2.2.2.1 (hts _ hw.1) (va_AOA.use hAO) (hts _ hw.2) hd (nI_pos (by omega)) (nI_pos (by omega)) (nI_clamp (by omega)) (nI_clamp (by omega)) (by omega) (by rw [show componentBytes .int = 4 from rfl]; omega) (by omega) rfl hr.1 hr.2 (fun cA cI H1 fA fC f1 f2 hold hrow => ?_)
  have eA : cA = aC g 5 := Option.some.inj (fA.symm.trans (K1.2 5 _ rfl).2)
  have eC : cI = aC g 0 := Option.some.inj (fC.symm.trans (K1.2 0 _ rfl).2)
  subst eA
  subst eC
  have hR1 : a_R g (n + 1 + N) mem' H1 := by
    refine a_R_of (fun q hq => ?_) (by rw [f1, hH]; omega) hn
    by_cases h1 : q < n
    · have h2 := hR.1 q _ (a_wl_get h1)
      rw [hmm q h1]
      exact h2.kept (hold _ (by rw [hH]; exact Nat.add_lt_add_left h1 _))
    · by_cases h2 : q = n
      · subst h2
        rw [a_ce_q (by omega) hs]
        show H1[aB g + q]? = some (vp_cell _ _)
        rw [vp_cell_q, ← hH, f2]
        unfold nb_out
        congr 2
        funext b
        rw [hm b]
        by_cases hb : b < N
        · simp only [hb, if_true, a_vr, va_rf]
          rw [a_ad, if_neg (by omega), if_neg (by omega), show aB g + (q + 1 + b) = H.size + 1 + b by omega]
        · simp [hb, a_vr, va_rf]
      · obtain ⟨b, rfl⟩ : ∃ b, q = n + 1 + b := ⟨q - (n + 1), by omega⟩
        rw [a_ce_i (hs2 b (by omega))]
        show H1[aB g + (n + 1 + b)]? = some (vp_cell _ _)
        rw [vp_cell_i, show aB g + (n + 1 + b) = H.size + 1 + b by omega, hrow b (by omega)]
        congr 2
        funext x
        rw [hm2 b (by omega)]
        rfl
  have hk := k g hz p l e s m args below meth c H1 locs A hF (a_S_push hS (by omega) hold) hR1 hL
  simp only [List.map_cons, a_cv] at hk
  rw [a_ad_k hR1 (by omega), ← hH] at hk
  exact hk
/-! the end of a method -/
theorem aE_iret {v : Int32} (hd : decode y.2.2.1 pc = .ok (.ireturn, 1)) (hr : y.2.2.2.2 = some .int) (hk : k1 ≤ R.cells ∧ k2 ≤ R.slots) (hq : Q (some (.int v)) n mem) : aE z y R Q pc ls [.int v] n mem k1 k2 := by
  intro g hz p l e s m args below meth c H locs A hF hS hR hL
  refine W.widen hk.1 hk.2 ?_
  have hlocks := hF.2.2.2.2.2.2.1
  exact W.iret hF.1 hF.2.1 (hF.2.2.1.trans hr) (fun t ht hW => ⟨⟨some (.int v), n, mem, rfl, hq, by rw [ht]; exact hR⟩, hS.F ht⟩) hS.2.2 hd hlocks
theorem aE_zret {v : Int32} (hd : decode y.2.2.1 pc = .ok (.ireturn, 1)) (hr : y.2.2.2.2 = some .boolean) (hv : v = 0 ∨ v = 1) (hk : k1 ≤ R.cells ∧ k2 ≤ R.slots) (hq : Q (some (.int v)) n mem) : aE z y R Q pc ls [.int v] n mem k1 k2 := by
  intro g hz p l e s m args below meth c H locs A hF hS hR hL
  refine W.widen hk.1 hk.2 ?_
  have hlocks := hF.2.2.2.2.2.2.1
  exact W.zret hF.1 hF.2.1 (hF.2.2.1.trans hr) (a_narZ hv).1 (fun t ht hW => ⟨⟨some (.int v), n, mem, rfl, hq, by rw [ht]; exact hR⟩, hS.F ht⟩) hS.2.2 hd hlocks
theorem aE_vret (hd : decode y.2.2.1 pc = .ok (.return_, 1)) (hr : y.2.2.2.2 = none) (hk : k1 ≤ R.cells ∧ k2 ≤ R.slots) (hq : Q none n mem) : aE z y R Q pc ls [] n mem k1 k2 := by
  intro g hz p l e s m args below meth c H locs A hF hS hR hL
  refine W.widen hk.1 hk.2 ?_
  have hlocks := hF.2.2.2.2.2.2.1
  exact W.vret hF.1 hF.2.1 (hF.2.2.1.trans hr) (fun t ht hW => ⟨⟨none, n, mem, rfl, hq, by rw [ht]; exact hR⟩, hS.F ht⟩) hS.2.2 hd hlocks
theorem aE_aret {a : Nat} {ty : FieldType} (hd : decode y.2.2.1 pc = .ok (.areturn, 1)) (hr : y.2.2.2.2 = some ty) (hty : (∃ n, ty = .object n) ∨ ∃ t, ty = .array t) (hk : k1 ≤ R.cells ∧ k2 ≤ R.slots) (hq : Q (some (.ref a)) n mem) : aE z y R Q pc ls [.ref a] n mem k1 k2 := by
  intro g hz p l e s m args below meth c H locs A hF hS hR hL
  refine W.widen hk.1 hk.2 ?_
  have hlocks := hF.2.2.2.2.2.2.1
  exact W.aret hF.1 hF.2.1 (hF.2.2.1.trans hr) hty (Or.inr ⟨_, rfl⟩) (fun t ht hW => ⟨⟨some (.ref a), n, mem, rfl, hq, by rw [ht]; exact hR⟩, hS.F ht⟩) hS.2.2 hd hlocks
/-! calls -/
theorem a_blind (g : aG) (as : List Value) (n : Nat) (mem : aM) : FrameBlind (a_P g as n mem) := by
  intro a U f mk h
  exact ⟨h.1, h.2.1, a_K_to (s := U) h.2.2 (State.WarmedH.refl U) (Nat.le_refl _) (fun _ _ _ => rfl)⟩
theorem a_pre {g : aG} {as : List Value} {n : Nat} {mem : aM} {s : State} {H : Heap} {locs : List Loc} (hK : a_K g s) (hS : va_S (a_A g) s.heap H locs) (hR : a_R g n mem H) : ∀ U : State, U.heap = H → s.WarmedH U.vm → a_P g as n mem (as.map (a_cv g)).toArray U := by
  intro U hU hW
  subst hU
  exact ⟨rfl, hR, a_K_to hK hW hS.1 hS.2.1⟩
theorem a_go {g : aG} {p : Program} {l : Launch} {e : Env} {s : State} {m : MethodId} {args a : Array Value} {below : List Frame} {meth : Method} {c : Code} {H : Heap} {locs : List Loc} {A : Array Slot} {mc ms : Nat} {st0 rest : List Value} {Qz : Option Value → Nat → aM → Prop} {Qw : State → Prop} {free : Addr → Prop}
    (hr : va_Run p l e R s m args below meth c H locs k1 k2 mc ms (F0 m pc A st0) rest (a_Q g Qz a) free) (hS : va_S (a_A g) s.heap H locs) (hf : ∀ q, free q → a_A g q)
    (kk : ∀ (r : Option Value) (n' : Nat) (mem' : aM) (H1 : Heap) (locs1 : List Loc), Qz r n' mem' → a_R g n' mem' H1 → va_S (a_A g) s.heap H1 locs1 → W p l e R s m args below meth c H1 locs1 (k1 + mc) (k2 + ms) Qw (F0 m (pc + 3) A ((r.map (a_cv g)).toList ++ rest))) :
    W p l e R s m args below meth c H locs k1 k2 Qw (F0 m pc A st0) := by
  intro T hT X
  obtain ⟨v, st₀, t, T', L, h0, X', hL, e1, e2, ⟨⟨r, n', mem', hv, hp, hb⟩, hz, hk⟩, st⟩ := hr T hT X
  cases hv
  rw [h0] at hz hk
  obtain ⟨t2, a1, b1⟩ := kk r n' mem' T'.heap (locs ++ L) hp (by rw [e1]; exact hb)
    ⟨Nat.le_trans hS.1 (by rw [e1]; exact hz), fun q h1 h2 => by rw [e1, hk q (Nat.lt_of_lt_of_le h1 hS.1) h2]; exact hS.2.1 q h1 h2, fun q hq => by
      rcases List.mem_append.mp hq with h | h
      · exact hS.2.2 q h
      · exact hf _ (hL q h)⟩ T' rfl X'
  exact ⟨t2, st t2 a1, b1⟩
/-- a method's own words -/
def a_me (x : aY) (np : Nat) : Prop := Cond.code x.2.1 x.2.2.1 x.2.2.2.1 x.2.2.2.2 ∈ lw_g ∧ Cond.initialized x.2.1.cls ∈ lw_g ∧ (x.2.1.cls ≠ "java/lang/invoke/MethodHandle" ∧ x.2.1.cls ≠ "java/lang/invoke/VarHandle" ∧ (parseMethodDescriptor x.2.1.desc).map (fun d => d.parameters.length) = some np) ∧ plainName x.2.1.cls = true ∧ x.1 = x.2.1.cls
def a_mv (x : aY) (np ci : Nat) : Prop := a_me x np ∧ Cond.instanceMethod x.2.1 ∈ lw_g ∧ Cond.selects x.2.1.cls x.2.1 x.2.1 ∈ lw_g ∧ (∃ (T : u_T) (N : Nat), vwCl[ci]? = some (x.2.1.cls, T, N)) ∧ ci < 100
def a_ms (x : aY) (np : Nat) : Prop := a_me x np ∧ Cond.static x.2.1 ∈ lw_g
def a_mi (x : aY) (np : Nat) : Prop := a_me x np ∧ Cond.instanceMethod x.2.1 ∈ lw_g ∧ x.2.1.name = "<init>" ∧ x.2.2.2.2 = none
def a_ok (x : aY) (Rx R : Room) : Prop := Rx.frames + 1 ≤ R.frames ∧ 8 + (x.2.2.2.1 + 11) + Rx.locals ≤ R.locals
theorem a_goodws (x : aY) (h : Cond.code x.2.1 x.2.2.1 x.2.2.2.1 x.2.2.2.2 ∈ lw_g) : GoodIn lw_g (a_ws x) := by
  intro w hw
  rcases List.mem_cons.mp hw with rfl | h1
  · exact ⟨h, a_good h⟩
  · exact ⟨h1, a_good h1⟩
theorem a_cats (g : aG) (st : List Value) : ((st.map (a_cv g)).map fun v => v.category).sum = (st.map fun v => v.category).sum := by
  congr 1
  rw [List.map_map]
  apply List.map_congr_left
  intro v _
  exact a_cat g v
theorem aE_callV {x : aY} {Rx : Room} {idx np ci N b : Nat} {as st0 : List Value} {Qx : Option Value → Nat → aM → Prop} (hd : decode y.2.2.1 pc = .ok (.invokevirtual idx, 3)) (hw : Cond.methodLink y.1 idx x.2.1 ∈ lw_g) (hm : a_mv x np ci) (hM : aRuns x Rx (.ref b :: as) n mem Qx) (hst : st0 = as.reverse ++ .ref b :: st) (hb : b < n) (hs : a_sh b = (ci, N)) (hnp : as.length = np) (hok : a_ok x Rx R) (hcat : (st.map fun v => v.category).sum ≤ 8) (hf : k1 + Rx.cells ≤ R.cells ∧ k2 + Rx.slots ≤ R.slots)
    (k : ∀ r n' mem', Qx r n' mem' → aE z y R Q (pc + 3) ls (r.toList ++ st) n' mem' (k1 + Rx.cells) (k2 + Rx.slots)) : aE z y R Q pc ls st0 n mem k1 k2 := by
  intro g hz p l e s m args below meth c H locs A hF hS hR hL
  subst hst
  obtain ⟨⟨hc, hi, hdd, -, -⟩, hin, hsel, ⟨T, N', hcl⟩, hci⟩ := hm
  have hts := hF.2.2.2.2.2.1
  have hK := hF.2.2.2.2.2.2.2.2
  have he := a_wl_get (g := g) (mem := mem) hb
  rw [a_ce_o hs hci] at he
  have hrun := va_runV (p := p) (l := l) (e := e) (R := R) (s := s) (m := m) (args := args) (below := below) (meth := meth) (c := c) (H := H) (locs := locs) (cells := k1) (slots := k2) (g := F0 m pc A ((as.reverse ++ .ref b :: st).map (a_cv g))) (b := aB g + b) (As := as.map (a_cv g)) (rest := st.map (a_cv g)) (C := x.2.1.cls) ⟨hF.1, hF.2.1, hF.2.2.2.1, hF.2.2.2.2.1, hts⟩ (hM l g)
    ⟨callB_of np hts (a_goodws x hc) rfl rfl rfl (hts _ hi) (hts _ hw) hdd hok, hts _ hin, hts _ hsel⟩
    ⟨a_blind g _ n mem, va_recv hK.1 hR.1 hcl he, fun U hU hW => by
      have := a_pre (as := .ref b :: as) hK hS hR U hU hW
      simp only [List.map_cons, a_cv] at this
      rw [a_ad_k hR hb] at this
      exact this⟩ rfl (by rw [List.length_map]; exact hnp) hL.1 (by simp [List.map_append, List.map_reverse, a_cv, a_ad_k hR hb]) (by show 2 * 0 + _ ≤ 8; rw [a_cats]; omega) hd hf
  refine a_go hrun hS (fun q h => h) fun r n' mem' H1 locs1 hq hR1 hS1 => ?_
  have hk := k r n' mem' hq g hz p l e s m args below meth c H1 locs1 A hF hS1 hR1 hL
  have er : (r.toList ++ st).map (a_cv g) = (r.map (a_cv g)).toList ++ st.map (a_cv g) := by cases r <;> simp
  rw [er] at hk
  exact hk
theorem aE_callVN {x : aY} {Rx : Room} {idx np ci N b : Nat} {host : String} {as st0 : List Value} {Qx : Option Value → Nat → aM → Prop} (hd : decode y.2.2.1 pc = .ok (.invokevirtual idx, 3)) (hw : Cond.methodLinkNest y.1 idx x.2.1 host ∈ lw_n) (hm : a_mv x np ci) (hM : aRuns x Rx (.ref b :: as) n mem Qx) (hst : st0 = as.reverse ++ .ref b :: st) (hb : b < n) (hs : a_sh b = (ci, N)) (hnp : as.length = np) (hok : a_ok x Rx R) (hcat : (st.map fun v => v.category).sum ≤ 8) (hf : k1 + Rx.cells ≤ R.cells ∧ k2 + Rx.slots ≤ R.slots)
    (k : ∀ r n' mem', Qx r n' mem' → aE z y R Q (pc + 3) ls (r.toList ++ st) n' mem' (k1 + Rx.cells) (k2 + Rx.slots)) : aE z y R Q pc ls st0 n mem k1 k2 := by
  intro g hz p l e s m args below meth c H locs A hF hS hR hL
  subst hst
  obtain ⟨⟨hc, hi, hdd, -, -⟩, hin, hsel, ⟨T, N', hcl⟩, hci⟩ := hm
  have hts := hF.2.2.2.2.2.1
  have hK := hF.2.2.2.2.2.2.2.2
  have hNw := hK.2.2.2.2.2.1 _ hw
  have he := a_wl_get (g := g) (mem := mem) hb
  rw [a_ce_o hs hci] at he
  have hrun := va_runVN (p := p) (l := l) (e := e) (R := R) (s := s) (m := m) (args := args) (below := below) (meth := meth) (c := c) (H := H) (locs := locs) (cells := k1) (slots := k2) (g := F0 m pc A ((as.reverse ++ .ref b :: st).map (a_cv g))) (b := aB g + b) (As := as.map (a_cv g)) (rest := st.map (a_cv g)) (C := x.2.1.cls) ⟨hF.1, hF.2.1, hF.2.2.2.1, hF.2.2.2.2.1, hts⟩ (hM l g)
    ⟨va_cnB np hts (a_goodws x hc) rfl rfl rfl hNw (hts _ hi) hdd hok, hts _ hin, hts _ hsel⟩
    ⟨a_blind g _ n mem, va_recv hK.1 hR.1 hcl he, fun U hU hW => by
      have := a_pre (as := .ref b :: as) hK hS hR U hU hW
      simp only [List.map_cons, a_cv] at this
      rw [a_ad_k hR hb] at this
      exact this⟩ rfl (by rw [List.length_map]; exact hnp) hL.1 (by simp [List.map_append, List.map_reverse, a_cv, a_ad_k hR hb]) (by show 2 * 0 + _ ≤ 8; rw [a_cats]; omega) hd hf
  refine a_go hrun hS (fun q h => h) fun r n' mem' H1 locs1 hq hR1 hS1 => ?_
  have hk := k r n' mem' hq g hz p l e s m args below meth c H1 locs1 A hF hS1 hR1 hL
  have er : (r.toList ++ st).map (a_cv g) = (r.map (a_cv g)).toList ++ st.map (a_cv g) := by cases r <;> simp
  rw [er] at hk
  exact hk
theorem aE_callS {x : aY} {Rx : Room} {idx np : Nat} {as st0 : List Value} {Qx : Option Value → Nat → aM → Prop} (hd : decode y.2.2.1 pc = .ok (.invokestatic idx, 3)) (hw : Cond.methodLink y.1 idx x.2.1 ∈ lw_g) (hm : a_ms x np) (hM : aRuns x Rx as n mem Qx) (hst : st0 = as.reverse ++ st) (hnp : as.length = np) (hok : a_ok x Rx R) (hcat : (st.map fun v => v.category).sum ≤ 8) (hf : k1 + Rx.cells ≤ R.cells ∧ k2 + Rx.slots ≤ R.slots)
    (k : ∀ r n' mem', Qx r n' mem' → aE z y R Q (pc + 3) ls (r.toList ++ st) n' mem' (k1 + Rx.cells) (k2 + Rx.slots)) : aE z y R Q pc ls st0 n mem k1 k2 := by
  intro g hz p l e s m args below meth c H locs A hF hS hR hL
  subst hst
  obtain ⟨⟨hc, hi, hdd, -, -⟩, hsta⟩ := hm
  have hts := hF.2.2.2.2.2.1
  have hK := hF.2.2.2.2.2.2.2.2
  have hrun := va_runS (p := p) (l := l) (e := e) (R := R) (s := s) (m := m) (args := args) (below := below) (meth := meth) (c := c) (H := H) (locs := locs) (cells := k1) (slots := k2) (g := F0 m pc A ((as.reverse ++ st).map (a_cv g))) (As := as.map (a_cv g)) (rest := st.map (a_cv g)) ⟨hF.1, hF.2.1, hF.2.2.2.1, hF.2.2.2.2.1, hts⟩ (hM l g)
    ⟨callB_of np hts (a_goodws x hc) rfl rfl rfl (hts _ hi) (hts _ hw) hdd hok, hts _ hsta⟩
    ⟨a_blind g _ n mem, a_pre (as := as) hK hS hR⟩ rfl (by rw [List.length_map]; exact hnp) hL.1 (by simp [List.map_append, List.map_reverse]) (by show 2 * 0 + _ ≤ 8; rw [a_cats]; omega) hd hf
  refine a_go hrun hS (fun q h => h) fun r n' mem' H1 locs1 hq hR1 hS1 => ?_
  have hk := k r n' mem' hq g hz p l e s m args below meth c H1 locs1 A hF hS1 hR1 hL
  have er : (r.toList ++ st).map (a_cv g) = (r.map (a_cv g)).toList ++ st.map (a_cv g) := by cases r <;> simp
  rw [er] at hk
  exact hk
theorem aE_callSN {x : aY} {Rx : Room} {idx np : Nat} {host : String} {as st0 : List Value} {Qx : Option Value → Nat → aM → Prop} (hd : decode y.2.2.1 pc = .ok (.invokestatic idx, 3)) (hw : Cond.methodLinkNest y.1 idx x.2.1 host ∈ lw_n) (hm : a_ms x np) (hM : aRuns x Rx as n mem Qx) (hst : st0 = as.reverse ++ st) (hnp : as.length = np) (hok : a_ok x Rx R) (hcat : (st.map fun v => v.category).sum ≤ 8) (hf : k1 + Rx.cells ≤ R.cells ∧ k2 + Rx.slots ≤ R.slots)
    (k : ∀ r n' mem', Qx r n' mem' → aE z y R Q (pc + 3) ls (r.toList ++ st) n' mem' (k1 + Rx.cells) (k2 + Rx.slots)) : aE z y R Q pc ls st0 n mem k1 k2 := by
  intro g hz p l e s m args below meth c H locs A hF hS hR hL
  subst hst
  obtain ⟨⟨hc, hi, hdd, -, -⟩, hsta⟩ := hm
  have hts := hF.2.2.2.2.2.1
  have hK := hF.2.2.2.2.2.2.2.2
  have hrun := va_runSN (p := p) (l := l) (e := e) (R := R) (s := s) (m := m) (args := args) (below := below) (meth := meth) (c := c) (H := H) (locs := locs) (cells := k1) (slots := k2) (g := F0 m pc A ((as.reverse ++ st).map (a_cv g))) (As := as.map (a_cv g)) (rest := st.map (a_cv g)) ⟨hF.1, hF.2.1, hF.2.2.2.1, hF.2.2.2.2.1, hts⟩ (hM l g)
    ⟨va_cnB np hts (a_goodws x hc) rfl rfl rfl (hK.2.2.2.2.2.1 _ hw) (hts _ hi) hdd hok, hts _ hsta, trivial⟩
    ⟨a_blind g _ n mem, a_pre (as := as) hK hS hR⟩ rfl (by rw [List.length_map]; exact hnp) hL.1 (by simp [List.map_append, List.map_reverse]) (by show 2 * 0 + _ ≤ 8; rw [a_cats]; omega) hd hf
  refine a_go hrun hS (fun q h => h) fun r n' mem' H1 locs1 hq hR1 hS1 => ?_
  have hk := k r n' mem' hq g hz p l e s m args below meth c H1 locs1 A hF hS1 hR1 hL
  have er : (r.toList ++ st).map (a_cv g) = (r.map (a_cv g)).toList ++ st.map (a_cv g) := by cases r <;> simp
  rw [er] at hk
  exact hk
theorem aE_callI {x : aY} {Rx : Room} {idx np b : Nat} {as st0 : List Value} {Qx : Option Value → Nat → aM → Prop} (hd : decode y.2.2.1 pc = .ok (.invokespecial idx, 3)) (hw : (Cond.methodLink y.1 idx x.2.1 ∈ lw_g) ∨ ∃ host, Cond.methodLinkNest y.1 idx x.2.1 host ∈ lw_n) (hm : a_mi x np) (hM : aRuns x Rx (.ref b :: as) n mem Qx) (hst : st0 = as.reverse ++ .ref b :: st) (hb : b < n) (hnp : as.length = np) (hok : a_ok x Rx R) (hcat : (st.map fun v => v.category).sum ≤ 8) (hf : k1 + Rx.cells ≤ R.cells ∧ k2 + Rx.slots ≤ R.slots)
    (k : ∀ r n' mem', Qx r n' mem' → aE z y R Q (pc + 3) ls (r.toList ++ st) n' mem' (k1 + Rx.cells) (k2 + Rx.slots)) : aE z y R Q pc ls st0 n mem k1 k2 := by
  intro g hz p l e s m args below meth c H locs A hF hS hR hL
  subst hst
  obtain ⟨⟨hc, hi, hdd, -, -⟩, hin, hnm, hret⟩ := hm
  have hts := hF.2.2.2.2.2.1
  have hK := hF.2.2.2.2.2.2.2.2
  have hPre : PreS s H (a_P g (.ref b :: as) n mem) (.ref (aB g + b) :: as.map (a_cv g)) := ⟨a_blind g _ n mem, fun U hU hW => by
      have := a_pre (as := .ref b :: as) hK hS hR U hU hW
      simp only [List.map_cons, a_cv] at this
      rw [a_ad_k hR hb] at this
      exact this⟩
  have hws : a_ws x = Cond.code x.2.1 x.2.2.1 x.2.2.2.1 none :: lw_g := by unfold a_ws; rw [hret]
  have hrun : va_Run p l e R s m args below meth c H locs k1 k2 Rx.cells Rx.slots (F0 m pc A ((as.reverse ++ .ref b :: st).map (a_cv g))) (st.map (a_cv g)) (a_Q g Qx (Value.ref (aB g + b) :: as.map (a_cv g)).toArray) (a_A g) := by
    rcases hw with hw | ⟨host, hw⟩
    · exact va_runI (b := aB g + b) (As := as.map (a_cv g)) (maxL := x.2.2.2.1) (bytes := x.2.2.1) ⟨hF.1, hF.2.1, hF.2.2.2.1, hF.2.2.2.2.1, hts⟩ (hM l g)
        ⟨callB_of np hts (a_goodws x hc) hws rfl rfl (hts _ hi) (hts _ hw) hdd hok, hnm, hts _ hin⟩ hPre rfl (by rw [List.length_map]; exact hnp) hL.1 (by simp [List.map_append, List.map_reverse, a_cv, a_ad_k hR hb]) (by show 2 * 0 + _ ≤ 8; rw [a_cats]; omega) hd hf
    · exact va_runIN (b := aB g + b) (As := as.map (a_cv g)) (maxL := x.2.2.2.1) (bytes := x.2.2.1) (host := host) ⟨hF.1, hF.2.1, hF.2.2.2.1, hF.2.2.2.2.1, hts⟩ (hM l g)
        ⟨va_cnB np hts (a_goodws x hc) hws rfl rfl (hK.2.2.2.2.2.1 _ hw) (hts _ hi) hdd hok, hnm, hts _ hin⟩ hPre rfl (by rw [List.length_map]; exact hnp) hL.1 (by simp [List.map_append, List.map_reverse, a_cv, a_ad_k hR hb]) (by show 2 * 0 + _ ≤ 8; rw [a_cats]; omega) hd hf
  refine a_go hrun hS (fun q h => h) fun r n' mem' H1 locs1 hq hR1 hS1 => ?_
  have hk := k r n' mem' hq g hz p l e s m args below meth c H1 locs1 A hF hS1 hR1 hL
  have er : (r.toList ++ st).map (a_cv g) = (r.map (a_cv g)).toList ++ st.map (a_cv g) := by cases r <;> simp
  rw [er] at hk
  exact hk
theorem aE_obj {idx b : Nat} (hd : decode y.2.2.1 pc = .ok (.invokespecial idx, 3)) (hw : Cond.methodLink y.1 idx Lib.objectInit ∈ lw_g ∧ Cond.instanceMethod Lib.objectInit ∈ lw_g ∧ Cond.code Lib.objectInit ⟨#[0xb1]⟩ 1 none ∈ lw_g) (hok : 1 ≤ R.frames ∧ 20 ≤ R.locals) (hcat : (st.map fun v => v.category).sum ≤ 8) (k : aE z y R Q (pc + 3) ls st n mem k1 k2) : aE z y R Q pc ls (.ref b :: st) n mem k1 k2 := by
  intro g hz p l e s m args below meth c H locs A hF hS hR hL
  have hts := hF.2.2.2.2.2.1
  exact W.objInit hF.1 hF.2.1 hF.2.2.2.2.1 (hts _ hw.1) (hts _ hw.2.1) (hts _ hw.2.2) rfl (hL.1.trans hF.2.2.2.1.symm) rfl hd hok.1 (by show 2 * 0 + _ + 12 ≤ _; rw [a_cats]; omega) (k g hz p l e s m args below meth c H locs A hF hS hR hL)
def a_cp (mem : aM) (a0 a1 sp dp len : Nat) : aM := fun q i => if q = a1 ∧ dp ≤ i ∧ i < dp + len then mem a0 (sp + (i - dp)) else mem q i
theorem aE_copy {idx a0 a1 n0 n1 sp dp len : Nat} {isp idp ilen : Int32} (hd : decode y.2.2.1 pc = .ok (.invokestatic idx, 3)) (hw : Cond.methodLink y.1 idx arraycopyName ∈ lw_g ∧ Cond.native arraycopyName ∈ lw_g ∧ Cond.static arraycopyName ∈ lw_g ∧ Cond.initialized "java/lang/System" ∈ lw_g) (h0 : a0 < n) (h1 : a1 < n) (hs0 : a_sh a0 = (100, n0)) (hs1 : a_sh a1 = (100, n1)) (hi : isp = nI sp ∧ idp = nI dp ∧ ilen = nI len) (hb0 : sp + len ≤ n0) (hb1 : dp + len ≤ n1) (hN : n0 ≤ 100000 ∧ n1 ≤ 100000) (hok : 1 ≤ R.frames ∧ (st.map fun v => v.category).sum + (nativeFrameWords "java/lang/System" "arraycopy" 5 + 11) ≤ R.locals)
    (k : aE z y R Q (pc + 3) ls st n (a_cp mem a0 a1 sp dp len) k1 k2) : aE z y R Q pc ls (.int ilen :: .int idp :: .ref a1 :: .int isp :: .ref a0 :: st) n mem k1 k2 := by
  intro g hz p l e s m args below meth c H locs A hF hS hR hL
  have hts := hF.2.2.2.2.2.1
  have hK := hF.2.2.2.2.2.2.2.2.1
  obtain ⟨rfl, rfl, rfl⟩ := hi
  have he0 := a_wl_get (g := g) (mem := mem) h0
  rw [a_ce_i hs0] at he0
  have he1 := a_wl_get (g := g) (mem := mem) h1
  rw [a_ce_i hs1] at he1
  simp only [List.map_cons, a_cv]
  rw [a_ad_k hR h0, a_ad_k hR h1]
  have csp : (nI sp).toNatClampNeg = sp := nI_clamp (by omega)
  have cdp : (nI dp).toNatClampNeg = dp := nI_clamp (by omega)
  have cln : (nI len).toNatClampNeg = len := nI_clamp (by omega)
  have isp : (nI sp).toInt = (sp : Int) := nI_toInt (by omega)
  have idp : (nI dp).toInt = (dp : Int) := nI_toInt (by omega)
  have iln : (nI len).toInt = (len : Int) := nI_toInt (by omega)
  intro T hT X
  have hc0 : H[aB g + a0]? = some (vp_cell (aC g 0) (n0, .inl fun i => a_vi (mem a0 i))) := hR.1 a0 _ he0
  have hc1 : H[aB g + a1]? = some (vp_cell (aC g 0) (n1, .inl fun i => a_vi (mem a1 i))) := hR.1 a1 _ he1
  obtain ⟨-, k0, hk0, cm0, hkk0⟩ := (hK.2 0 _ rfl).1 n0 (fun j => .int (a_vi (mem a0 j)))
  obtain ⟨vm', X', step⟩ := X.arraycopy hF.1 hF.2.2.2.2.1 (hts _ hw.1) (hts _ hw.2.1) (hts _ hw.2.2.1) (hts _ hw.2.2.2) (src := aB g + a0) (dst := aB g + a1) (cs := vp_cell (aC g 0) (n0, .inl fun i => a_vi (mem a0 i))) (cd := vp_cell (aC g 0) (n1, .inl fun i => a_vi (mem a1 i))) (srcPos := nI sp) (destPos := nI dp) (n := nI len) (by rw [hT]; exact hc0) (by rw [hT]; exact hc1)
    (fun _ h => by cases h) (fun _ h => by cases h) (fun h => by cases h) (fun h => by cases h) hk0 hk0 hkk0 hkk0 (by simp [refKind]) (nI_pos (by omega)) (nI_pos (by omega)) (nI_pos (by omega))
    (by rw [isp, iln]; show ¬ _ > ((arrV (aC g 0) n0 (fun j => .int (a_vi (mem a0 j)))).slots.size : Int); rw [arrV_size]; omega)
    (by rw [idp, iln]; show ¬ _ > ((arrV (aC g 0) n1 (fun j => .int (a_vi (mem a1 j)))).slots.size : Int); rw [arrV_size]; omega)
    (fun vm₁ _ i hi => by
      rw [cln] at hi
      have e : (vp_cell (aC g 0) (n0, .inl fun i => a_vi (mem a0 i))).slots.getD ((nI sp).toNatClampNeg + i) .null = .int (a_vi (mem a0 (sp + i))) := by
        show (arrV (aC g 0) n0 (fun j => .int (a_vi (mem a0 j)))).slots.getD _ _ = _
        rw [csp, Array.getD_eq_getD_getElem?, arrV_read _ _ (by omega)]
        rfl
      refine ⟨?_, ?_⟩
      · rw [e]
        rfl
      · rw [e]
        exact trivial)
    (g := F0 m pc A (.int (nI len) :: .int (nI dp) :: .ref (aB g + a1) :: .int (nI sp) :: .ref (aB g + a0) :: st.map (a_cv g))) rfl (by rw [hF.2.2.2.1]; exact hL.1) (rest := st.map (a_cv g)) rfl (by rw [hF.2.1]; exact hd) hok.1 (by show 2 * 0 + _ + _ ≤ _; rw [a_cats]; omega)
  have h4c : (nI sp).toNatClampNeg + (nI len).toNatClampNeg ≤ n0 := by rw [csp, cln]; exact hb0
  have e1 : copied (vp_cell (aC g 0) (n0, .inl fun i => a_vi (mem a0 i))) (vp_cell (aC g 0) (n1, .inl fun i => a_vi (mem a1 i))) (nI sp) (nI dp) (nI len) = vp_cell (aC g 0) (n1, .inl (va_cpy (fun i => a_vi (mem a0 i)) (fun i => a_vi (mem a1 i)) (nI sp).toNatClampNeg (nI dp).toNatClampNeg (nI len).toNatClampNeg)) := va_copied (fun z => .int z) (aC g 0) (aC g 0) (fun i => a_vi (mem a0 i)) (fun i => a_vi (mem a1 i)) h4c
  rw [e1, csp, cdp, cln] at X' step
  have hl : aB g + a1 < H.size := (Array.getElem?_eq_some_iff.mp hc1).1
  generalize hcell : vp_cell (aC g 0) (n1, .inl (va_cpy (fun i => a_vi (mem a0 i)) (fun i => a_vi (mem a1 i)) sp dp len)) = cell at X' step
  have hheap : ((T.setVm vm').setCell (aB g + a1) cell).heap = H.setIfInBounds (aB g + a1) cell := by rw [← hT]; rfl
  have oq : ∀ q : Nat, q ≠ aB g + a1 → (H.setIfInBounds (aB g + a1) cell)[q]? = H[q]? := fun q hq => by simp [Array.getElem?_setIfInBounds, Ne.symm hq]
  have hR1 : a_R g n (a_cp mem a0 a1 sp dp len) (H.setIfInBounds (aB g + a1) cell) := by
    refine a_R_set hR h1 (fun q hq => ?_) ?_ (by simp) oq
    · funext i; simp [a_cp, hq]
    · rw [a_ce_i hs1]
      show (H.setIfInBounds (aB g + a1) cell)[aB g + a1]? = some (vp_cell _ _)
      rw [Array.getElem?_setIfInBounds, if_pos rfl, if_pos hl, ← hcell]
      congr 4
      funext i
      by_cases hc : dp ≤ i ∧ i < dp + len
      · simp [a_cp, va_cpy, hc]
      · simp only [a_cp, va_cpy, hc, if_false, and_false, true_and]
  obtain ⟨t, a1', b1⟩ := k g hz p l e s m args below meth c _ _ A hF ⟨by simp; exact hS.1, fun q g1 g2 => by
      rw [oq q (fun e => g2 (by rw [e]; exact Nat.le_add_right _ _))]
      exact hS.2.1 q g1 g2, fun q hq => by
      rcases List.mem_append.mp hq with h | h
      · exact hS.2.2 q h
      · obtain ⟨z9, -, hz9⟩ := List.mem_map.mp h
        rw [← hz9]
        exact Nat.le_add_right _ _⟩ hR1 hL _ hheap X'
  exact ⟨t, step t a1', b1⟩
end AE
