/-! ===== new int[n][m] from the machine itself: the outer array at the next free address, its rows right behind it ===== -/
/-- the outer array when i rows are in it -/
def nb_out (cA : ClassId) (N h i : Nat) : Cell := arrV cA N (fun j => if j < i then .ref (h + 1 + j) else .null)
/-- the state when i rows are made -/
def nb_fill (S : State) (cA : ClassId) (row : Cell) (N : Nat) : Nat → State
  | 0 => S.pushCell (nb_out cA N S.heap.size 0)
  | i + 1 => ((nb_fill S cA row N i).pushCell row).setCell S.heap.size (nb_out cA N S.heap.size (i + 1))
theorem nb_out_z (cA : ClassId) (N h : Nat) : ({ cls := cA, slots := Array.replicate N .null, vm := .none } : Cell) = nb_out cA N h 0 := by
  rw [arrV_new]
  unfold nb_out
  refine congrArg (arrV cA N) (funext fun j => ?_)
  rw [if_neg (Nat.not_lt_zero j)]
theorem nb_out_s (cA : ClassId) (N h i : Nat) : (nb_out cA N h i).setSlot i (.ref (h + 1 + i)) = nb_out cA N h (i + 1) := by
  unfold nb_out
  rw [arrV_store]
  refine congrArg (arrV cA N) (funext fun j => ?_)
  unfold updV
  by_cases e : j = i
  · subst e
    rw [if_pos rfl, if_pos (Nat.lt_succ_self j)]
  · rw [if_neg e]
    show (if j < i then Value.ref (h + 1 + j) else Value.null) = _
    by_cases h2 : j < i
    · rw [if_pos h2, if_pos (Nat.lt_succ_of_lt h2)]
    · rw [if_neg h2, if_neg (by omega)]
theorem nb_psize (S : State) (x : Cell) : (S.pushCell x).heap.size = S.heap.size + 1 := Array.size_push ..
theorem nb_pold {S : State} {x : Cell} {q : Nat} (h : q < S.heap.size) : (S.pushCell x).heap[q]? = S.heap[q]? := by
  show (S.heap.push x)[q]? = _
  rw [Array.getElem?_push, if_neg (by omega)]
theorem nb_pnew {S : State} {x : Cell} {q : Nat} (h : q = S.heap.size) : (S.pushCell x).heap[q]? = some x := by
  show (S.heap.push x)[q]? = _
  rw [Array.getElem?_push, if_pos h]
section NB1
variable (S : State) (cA : ClassId) (row : Cell) (N : Nat)
theorem nb_size : ∀ i : Nat, (nb_fill S cA row N i).heap.size = S.heap.size + 1 + i
  | 0 => nb_psize ..
  | i + 1 => by
    show (State.setCell _ _ _).heap.size = _
    rw [size_setCell, nb_psize, nb_size i]
    rfl
theorem nb_at : ∀ i : Nat, (nb_fill S cA row N i).heap[S.heap.size]? = some (nb_out cA N S.heap.size i)
  | 0 => nb_pnew rfl
  | i + 1 => heapAt_setCell_self _ (show S.heap.size < ((nb_fill S cA row N i).pushCell row).heap.size by rw [nb_psize, nb_size]; omega)
theorem nb_at' (i : Nat) : ((nb_fill S cA row N i).pushCell row).heap[S.heap.size]? = some (nb_out cA N S.heap.size i) := by
  rw [nb_pold (by rw [nb_size]; omega)]
  exact nb_at S cA row N i
theorem nb_old {x : Nat} (hx : x < S.heap.size) : ∀ i : Nat, (nb_fill S cA row N i).heap[x]? = S.heap[x]?
  | 0 => nb_pold hx
  | i + 1 => by
    show (State.setCell _ _ _).heap[x]? = _
    rw [heapAt_setCell_ne _ (show S.heap.size ≠ x by omega), nb_pold (by rw [nb_size]; omega)]
    exact nb_old hx i
theorem nb_rows : ∀ i j : Nat, j < i → (nb_fill S cA row N i).heap[S.heap.size + 1 + j]? = some row
  | 0, j, h => absurd h (Nat.not_lt_zero j)
  | i + 1, j, h => by
    show (State.setCell _ _ _).heap[S.heap.size + 1 + j]? = _
    rw [heapAt_setCell_ne _ (show S.heap.size ≠ S.heap.size + 1 + j by omega)]
    by_cases e : j = i
    · exact nb_pnew (by rw [nb_size, e])
    · rw [nb_pold (by rw [nb_size]; omega)]
      exact nb_rows i j (by omega)
theorem nb_vm : ∀ i : Nat, (nb_fill S cA row N i).vm = S.vm
  | 0 => rfl
  | i + 1 => nb_vm i
theorem nb_used : ∀ i : Nat, (nb_fill S cA row N i).slotsUsed = S.slotsUsed + N + i * row.slots.size
  | 0 => by
    show S.slotsUsed + (nb_out cA N S.heap.size 0).slots.size = _
    rw [show (nb_out cA N S.heap.size 0).slots.size = N from arrV_size _ _ _, Nat.zero_mul]
    rfl
  | i + 1 => by
    show (nb_fill S cA row N i).slotsUsed + row.slots.size = _
    rw [nb_used i, Nat.succ_mul, Nat.add_assoc (S.slotsUsed + N)]
theorem nb_top (f : JFrame) : ∀ i : Nat, nb_fill (S.setTop f) cA row N i = (nb_fill S cA row N i).setTop f
  | 0 => rfl
  | i + 1 => by
    show ((nb_fill (S.setTop f) cA row N i).pushCell row).setCell S.heap.size (nb_out cA N S.heap.size (i + 1)) = _
    rw [nb_top f i]
    rfl
end NB1
section NB2
variable {p : Program} {l : Launch} {e : Env} {R : Room} {s : State} {m : MethodId} {args : Array Value} {below : List Frame} {meth : Method} {c : Code} {T : State} {locs : List Loc} {cells slots : Nat}
/-- a store into a cell that wasn't there at the method's begin needn't be listed -/
theorem nb_drop {a : Addr} {i : Nat} (X : Stand p l e R s m args below meth c T (locs ++ [⟨a, i⟩]) cells slots) (h : s.heap.size ≤ a) : Stand p l e R s m args below meth c T locs cells slots :=
  ⟨X.admits, X.cas, X.clock, X.frames, X.room, X.hears, X.method, X.code, X.here, X.tail, X.warmed, X.limits, X.bytes, X.same.weaken (fun x hx hb => by
    rcases List.mem_append.mp hx with h1 | h1
    · exact h1
    · rw [List.mem_singleton.mp h1] at hb
      exact absurd hb (Nat.not_lt.mpr h)) (Nat.le_refl _) (Nat.le_refl _)⟩
theorem nb_stand (X : Stand p l e R s m args below meth c T locs cells slots) (cA : ClassId) (row : Cell) (N : Nat) : ∀ i : Nat, Stand p l e R s m args below meth c (nb_fill T cA row N i) locs (cells + 1 + i) (slots + N + i * row.slots.size)
  | 0 => by
    have h := X.pushed (nb_out cA N T.heap.size 0)
    rw [show (nb_out cA N T.heap.size 0).slots.size = N from arrV_size _ _ _] at h
    rw [Nat.zero_mul]
    exact h
  | i + 1 => by
    have h := ((nb_stand X cA row N i).pushed row).stored (nb_at' T cA row N i) i (.ref (T.heap.size + 1 + i))
    rw [nb_out_s] at h
    have h2 := nb_drop h X.same.2.1
    rw [Nat.succ_mul, ← Nat.add_assoc (slots + N)]
    exact h2
end NB2
section NB3
variable {E : CtlPost} {e : Env} {S : State} {cA cI q : ClassId} {kA kI : Class} {ty : FieldType} {n k : Int32}
/-- one row is made -/
theorem nb_one {d : Bool} {acts : List Action} {Q : Addr → Pre} (hkI : S.vm.classes[cI]? = some kI) (hkind : kI.kind = .array q ty) (hk : ¬ k < 0) (hlim : ¬ k.toNatClampNeg > e.platform.arrayLengthLimit) (hheap : ¬ k.toNatClampNeg * componentBytes ty > e.platform.maxHeapBytes) (hc : S.heap.size < e.platform.maxCells) (hs : S.slotsUsed + k.toNatClampNeg ≤ e.platform.maxSlots) (hfit : fits ty (defaultValue ty) = true)
    (hq : ∀ acts' : List Action, Q S.heap.size d acts' (S.pushCell { cls := cI, slots := Array.replicate k.toNatClampNeg (defaultValue ty), vm := .none })) : wp (multianewarray.make cI [k]) Q E e d acts S := by
  rw [multianewarray.make]
  simp only [hk, if_false, wp_bind', wp_pure', Jvm.W.theClass, hkI, Option.some.injEq, exists_eq_left', hkind]
  exact Jvm.W.newArray_of hkI hkind hlim hheap hc hs hfit hq
/-- the rows from i on are made and put into the outer array -/
theorem nb_loop {N : Nat} {row : Cell} {f : Nat → PUnit → Sem (ForInStep PUnit)} (hrow : row = { cls := cI, slots := Array.replicate k.toNatClampNeg (defaultValue ty), vm := .none }) (hf : ∀ (i : Nat) (u : PUnit), f i u = (do let x ← multianewarray.make cI [k]; Jvm.writeLoc S.heap.size i (.ref x); Pure.pure (ForInStep.yield PUnit.unit)))
    (hkA : S.vm.classes[cA]? = some kA) (hkindA : kA.kind = .array cI (.array ty)) (hkI : S.vm.classes[cI]? = some kI) (hkind : kI.kind = .array q ty) (hk : ¬ k < 0) (hlim : ¬ k.toNatClampNeg > e.platform.arrayLengthLimit) (hheap : ¬ k.toNatClampNeg * componentBytes ty > e.platform.maxHeapBytes) (hfit : fits ty (defaultValue ty) = true)
    (hc : S.heap.size + (1 + N) ≤ e.platform.maxCells) (hs : S.slotsUsed + (N + N * k.toNatClampNeg) ≤ e.platform.maxSlots) {Q : PUnit → Pre} (hq : ∀ (d' : Bool) (acts' : List Action), Q PUnit.unit d' acts' (nb_fill S cA row N N)) :
    ∀ (r i : Nat) (d : Bool) (acts : List Action), i + r = N → wp (forIn (List.range' i r) PUnit.unit f) Q E e d acts (nb_fill S cA row N i) := by
  intro r
  induction r with
  | zero =>
    intro i d acts h
    rw [show i = N by omega]
    simp only [List.range'_zero, List.forIn_nil, wp_pure']
    exact hq d acts
  | succ r ih =>
    intro i d acts h
    have hsz : row.slots.size = k.toNatClampNeg := by rw [hrow]; exact Array.size_replicate
    have hmul : i * k.toNatClampNeg + k.toNatClampNeg ≤ N * k.toNatClampNeg := by
      rw [← Nat.succ_mul]
      exact Nat.mul_le_mul_right _ (by omega)
    rw [List.range'_succ]
    simp only [List.forIn_cons, hf, wp_bind']
    refine nb_one (kI := kI) (q := q) (ty := ty) (by rw [nb_vm]; exact hkI) hkind hk hlim hheap (by rw [nb_size]; omega) (by rw [nb_used, hsz]; omega) hfit (fun acts' => ?_)
    rw [← hrow]
    simp only [wp_bind', Jvm.W.writeLoc, wp_pure']
    refine ⟨nb_out cA N S.heap.size i, nb_at' S cA row N i, ?_, ?_, ?_, ?_⟩
    · show VmData.none ≠ VmData.unknown
      intro h9
      cases h9
    · rw [show (nb_out cA N S.heap.size i).slots.size = N from arrV_size _ _ _]
      omega
    · have hk2 : (nb_fill S cA row N i).vm.classes[cA]? = some kA := by
        rw [nb_vm]
        exact hkA
      show ((nb_fill S cA row N i).pushCell row).fitsSlot cA .none i _ = true
      simp [State.fitsSlot, State.slotType?, hk2, hkindA, fits]
    · rw [nb_size, nb_out_s]
      exact ih (i + 1) _ _ (by omega)
theorem nb_make {d : Bool} {acts : List Action} {N : Nat} {row : Cell} {Q : Addr → Pre} (hN : n.toNatClampNeg = N) (hrow : row = { cls := cI, slots := Array.replicate k.toNatClampNeg (defaultValue ty), vm := .none })
    (hkA : S.vm.classes[cA]? = some kA) (hkindA : kA.kind = .array cI (.array ty)) (hkI : S.vm.classes[cI]? = some kI) (hkind : kI.kind = .array q ty) (hn : ¬ n < 0) (hk : ¬ k < 0) (hlimn : ¬ N > e.platform.arrayLengthLimit) (hheapn : ¬ N * 4 > e.platform.maxHeapBytes) (hlim : ¬ k.toNatClampNeg > e.platform.arrayLengthLimit) (hheap : ¬ k.toNatClampNeg * componentBytes ty > e.platform.maxHeapBytes) (hfit : fits ty (defaultValue ty) = true)
    (hc : S.heap.size + (1 + N) ≤ e.platform.maxCells) (hs : S.slotsUsed + (N + N * k.toNatClampNeg) ≤ e.platform.maxSlots) (hq : ∀ (d' : Bool) (acts' : List Action), Q S.heap.size d' acts' (nb_fill S cA row N N)) : wp (multianewarray.make cA [n, k]) Q E e d acts S := by
  have hfind : [k].find? (fun x => decide (x < 0)) = none := by simp [hk]
  rw [multianewarray.make]
  simp only [hn, if_false, wp_bind', wp_pure', Jvm.W.theClass, hkA, Option.some.injEq, exists_eq_left', hkindA, hN]
  refine Jvm.W.newArray_of hkA hkindA hlimn hheapn (by omega) (by omega) rfl (fun acts' => ?_)
  rw [show S.pushCell { cls := cA, slots := Array.replicate N .null } = nb_fill S cA row N 0 from congrArg S.pushCell (nb_out_z cA N S.heap.size)]
  simp only [hfind, ite_self, wp_pure', Std.Legacy.Range.forIn_eq_forIn_range', wp_bind']
  rw [show Std.Legacy.Range.size [:N] = N by simp [Std.Legacy.Range.size]]
  exact nb_loop hrow (fun _ _ => rfl) hkA hkindA hkI hkind hk hlim hheap hfit hc hs (fun d' acts'' => by rw [wp_pure']; exact hq d' acts'') N 0 d acts' (by omega)
theorem nb_tj (S : State) (cA : ClassId) (row : Cell) (N : Nat) : ∀ i : Nat, (nb_fill S cA row N i).topJava? = S.topJava?
  | 0 => rfl
  | i + 1 => nb_tj S cA row N i
theorem nb_sem {d : Bool} {acts : List Action} {N : Nat} {row : Cell} {f : JFrame} {index : Nat} {rest : List Value} {Q : Unit → Pre} (hs0 : S.topJava?.isSome) (hr : S.vm.classReady f.method.cls index cA) (hst : f.stack = .int k :: .int n :: rest) (hN : n.toNatClampNeg = N) (hrow : row = { cls := cI, slots := Array.replicate k.toNatClampNeg (defaultValue ty), vm := .none })
    (hkA : S.vm.classes[cA]? = some kA) (hkindA : kA.kind = .array cI (.array ty)) (hkI : S.vm.classes[cI]? = some kI) (hkind : kI.kind = .array q ty) (hn : ¬ n < 0) (hk : ¬ k < 0) (hlimn : ¬ N > e.platform.arrayLengthLimit) (hheapn : ¬ N * 4 > e.platform.maxHeapBytes) (hlim : ¬ k.toNatClampNeg > e.platform.arrayLengthLimit) (hheap : ¬ k.toNatClampNeg * componentBytes ty > e.platform.maxHeapBytes) (hfit : fits ty (defaultValue ty) = true)
    (hc : S.heap.size + (1 + N) ≤ e.platform.maxCells) (hs : S.slotsUsed + (N + N * k.toNatClampNeg) ≤ e.platform.maxSlots) (hq : ∀ (d' : Bool) (acts' : List Action), Q () d' acts' ((nb_fill S cA row N N).setTop { f with stack := .ref S.heap.size :: rest })) : wp (multianewarray.sem index 2) Q E e d acts (S.setTop f) := by
  unfold multianewarray.sem
  simp only [wp_bind', Jvm.W.resolveClassAt_ready (State.method?_setTop f hs0) hr]
  rw [show (2 : Nat) = [Value.int n, Value.int k].length from rfl, Jvm.Op.popN_top hs0 (args := [.int n, .int k]) (rest := rest) (by rw [hst]; rfl)]
  simp only [List.mapM_cons, List.mapM_nil, wp_bind', wp_pure']
  refine nb_make (S := S.setTop { f with stack := rest }) hN hrow hkA hkindA hkI hkind hn hk hlimn hheapn hlim hheap hfit hc hs (fun d' acts' => ?_)
  simp only [wp_bind', Jvm.W.mark, Jvm.W.pushRef]
  rw [nb_top]
  refine ⟨{ f with stack := rest }, State.topJava?_setTop' _ (by rw [nb_tj]; exact hs0), ?_⟩
  rw [State.setTop_setTop]
  exact hq _ _
/-- the entry of the pool, resolved here for the first time or before -/
theorem nb_cold {d : Bool} {acts : List Action} {f : JFrame} {index : Nat} {vm' : Vm} {Q : Unit → Pre} (hs0 : S.topJava?.isSome) (hg : (Jvm.resolveClass f.method.cls index).Gives e.toSetting S.vm (.ok cA) vm') (hr : vm'.classReady f.method.cls index cA) (hsz : vm'.classes.size ≤ S.vm.classes.size) (h : wp (multianewarray.sem index 2) Q E e d acts ((S.setVm vm').setTop f)) : wp (multianewarray.sem index 2) Q E e d acts (S.setTop f) := by
  simp only [multianewarray.sem, wp_bind'] at h ⊢
  exact (Jvm.W.resolveClassAt_transfer (s := S.setTop f) (State.method?_setTop f hs0) hg hr hsz).mpr h
end NB3
section NB4
variable {p : Program} {l : Launch} {e : Env} {R : Room} {s : State} {m : MethodId} {args : Array Value} {below : List Frame} {meth : Method} {c : Code} {H : Heap} {locs : List Loc} {cells slots : Nat} {Q : State → Prop}
/-- new T[n][k], T a basic type: where the arrays come to lie, and what they hold -/
theorem nb_W {cc : ByteArray} (hexec : p.tables.exec = Jvm.exec) (hb : c.code = cc) {own : String} {index : Nat} {ty : FieldType} (hown : s.vm.findClass own = some m.cls) (hclink : (Cond.classLink own index ("[" ++ (FieldType.array ty).toString)).before args s = true) (hover : (Cond.arrayOver (.array ty)).before args s = true) (harr : (Cond.arrayClass ty).before args s = true) {pc : Nat} {ls : Array Slot} {rest : List Value} {n k : Int32} {N M : Nat}
    (hd : decode cc pc = .ok (.multianewarray index 2, 4)) (hn : ¬ n < 0) (hk : ¬ k < 0) (hN : n.toNatClampNeg = N) (hM : k.toNatClampNeg = M) (hb1 : N * 4 ≤ 536870912) (hb2 : M * componentBytes ty ≤ 536870912) (hb3 : M ≤ 536870912) (hfit : fits ty (defaultValue ty) = true) (hcells : cells + (1 + N) ≤ R.cells) (hslots : slots + (N + N * M) ≤ R.slots)
    (kk : ∀ (cA cI : ClassId) (H1 : Heap), s.vm.findClass ("[" ++ (FieldType.array ty).toString) = some cA → s.vm.findClass (FieldType.array ty).toString = some cI → H1.size = H.size + 1 + N → H1[H.size]? = some (nb_out cA N H.size N) → (∀ x : Nat, x < H.size → H1[x]? = H[x]?) → (∀ j : Nat, j < N → H1[H.size + 1 + j]? = some (arrV cI M fun _ => defaultValue ty)) →
      W p l e R s m args below meth c H1 locs (cells + 1 + N) (slots + N + N * M) Q (F0 m (pc + 4) ls (.ref H.size :: rest))) : W p l e R s m args below meth c H locs cells slots Q (F0 m pc ls (.int k :: .int n :: rest)) := by
  intro T hT X
  subst hT
  subst hb
  subst hN
  subst hM
  have hpl : e.platform.magicAccessors = ({} : Platform).magicAccessors := by rw [X.admits.platform]
  have ets : (FieldType.array ty).toString = "[" ++ ty.toString := by first | rfl | simp [FieldType.toString]
  obtain ⟨comp, cA, kA, hcomp, -, hkA, hkindA, hnameA⟩ := arrayOverA_spec hover
  obtain ⟨cI, kI, q, hnameI, hkI, hkindI⟩ := Cond.arrayClass_spec harr
  rw [← ets] at hnameI
  cases hcomp.symm.trans hnameI
  obtain ⟨cB, hfcc, hcl⟩ := Cond.classLink_spec hown hclink e.platform hpl
  cases hnameA.symm.trans hfcc
  obtain ⟨hg1, hwarm1, hready1⟩ := State.classEntry (e := e) X.warmed hcl
  generalize T.vm.noted m.cls index (.cls cA) = vm1 at hg1 hwarm1 hready1
  have hal : s.vm.Alike vm1 := hwarm1.alike
  have hsz : vm1.classes.size ≤ T.vm.classes.size := Vm.Alike.size_le (X.warmed.alike.symm.trans hal)
  obtain ⟨kA1, hkA1, heA⟩ := hal.2.2 _ _ hkA
  have hkindA1 : kA1.kind = .array comp (.array ty) := by rw [heA]; exact hkindA
  obtain ⟨kI1, hkI1, heI⟩ := hal.2.2 _ _ hkI
  have hkindI1 : kI1.kind = .array q ty := by rw [heI]; exact hkindI
  have h1 := Launch.admits_arrayLengthLimit X.admits
  have h2 := Launch.admits_maxHeapBytes X.admits
  obtain ⟨hr1, hr2⟩ := X.roomAbove hcells hslots
  have Y := nb_stand (X.noted hwarm1) cA { cls := comp, slots := Array.replicate k.toNatClampNeg (defaultValue ty), vm := .none } n.toNatClampNeg n.toNatClampNeg
  rw [show ({ cls := comp, slots := Array.replicate k.toNatClampNeg (defaultValue ty), vm := .none } : Cell).slots.size = k.toNatClampNeg from Array.size_replicate] at Y
  obtain ⟨t, a1, b1⟩ := kk cA comp _ hnameA hcomp (nb_size (T.setVm vm1) cA { cls := comp, slots := Array.replicate k.toNatClampNeg (defaultValue ty), vm := .none } n.toNatClampNeg n.toNatClampNeg) (nb_at (T.setVm vm1) cA _ _ _) (fun x hx => nb_old (T.setVm vm1) cA _ _ hx _) (fun j hj => (nb_rows (T.setVm vm1) cA _ _ _ j hj).trans (congrArg some (arrV_new comp k.toNatClampNeg (defaultValue ty)))) _ rfl Y
  refine ⟨t, ?_, b1⟩
  refine Steps.instr (f := F0 m pc ls (.int k :: .int n :: rest)) X.here ?_
  rw [show decode c.code (F0 m pc ls (.int k :: .int n :: rest)).pc = .ok (.multianewarray index 2, 4) from hd]
  show wpRun (p.tables.exec (.multianewarray index 2)) _ _ _ _
  rw [hexec]
  show wp (multianewarray.sem index 2) _ _ _ _ _ _
  refine nb_cold X.here.top hg1 hready1 hsz ?_
  refine nb_sem (S := T.setVm vm1) X.here.top hready1 rfl rfl rfl hkA1 hkindA1 hkI1 hkindI1 hn hk (by omega) (by omega) (by omega) (by omega) hfit hr1 hr2 (fun d' acts' acts => ?_)
  rw [afterInstr_ok]
  exact a1
end NB4
