def a_shL : List (Nat × Nat) := [(11, 11), (0, 9), (10, 9), (100, 14), (100, 14), (100, 14), (101, 14), (105, 8), (100, 8), (100, 8), (100, 8), (100, 8), (100, 8), (100, 8), (100, 8), (100, 8), (105, 8), (100, 8), (100, 8), (100, 8), (100, 8), (100, 8), (100, 8), (100, 8), (100, 8), (102, 4), (100, 4), (103, 10), (7, 8), (100, 11), (100, 10), (100, 10), (7, 8), (100, 11), (100, 10), (100, 10), (7, 8), (100, 11), (100, 10), (100, 10), (7, 8), (100, 11), (100, 10), (100, 10), (9, 4), (9, 4), (9, 4), (9, 4), (9, 4), (9, 4), (9, 4), (9, 4), (9, 4), (9, 4), (1, 9), (100, 10), (100, 10), (100, 10), (105, 10), (100, 10), (100, 10), (100, 10), (100, 10), (100, 10), (100, 10), (100, 10), (100, 10), (100, 10), (100, 10), (3, 6), (100, 10), (100, 10), (100, 10), (100, 10), (100, 10), (6, 6), (100, 60), (100, 8), (100, 8), (100, 8), (2, 7), (100, 11), (100, 11), (100, 11), (105, 4), (100, 7), (100, 7), (100, 7), (100, 7), (100, 4), (4, 2), (100, 10), (104, 4), (8, 3), (100, 10), (8, 3), (100, 10), (8, 3), (100, 10), (8, 3), (100, 10), (12, 61), (100, 14), (100, 14), (100, 14), (101, 14), (100, 4), (100, 4), (100, 4), (100, 4), (100, 10), (100, 10), (100, 10), (100, 10), (100, 8), (100, 8), (100, 8), (100, 60), (100, 4), (100, 4), (100, 40), (100, 64), (100, 10240), (100, 1024), (100, 1024), (100, 1024), (100, 1024), (100, 10), (100, 10), (100, 10), (100, 4), (100, 4), (100, 4), (100, 10), (100, 11264), (100, 10), (100, 10), (100, 10), (100, 10), (100, 11), (100, 11), (100, 11), (100, 44), (100, 44), (100, 10), (100, 110), (100, 10), (5, 9), (100, 10), (100, 10), (100, 10), (105, 10), (100, 10), (100, 10), (100, 10), (100, 10), (100, 10), (100, 10), (100, 10), (100, 10), (100, 10), (100, 10), (100, 10240), (100, 1024), (100, 1024), (100, 1024)]
/-! ===== THE ABSTRACT MACHINE: a memory of addresses and slots in place of the heap; one judgement aE for a state of a method, one (aRuns) for a method ===== -/
abbrev aM : Type := Nat → Nat → Value
/-- classes and slots; array classes; the first new address; the script's address; UNDER's address; the script's length and ints -/
abbrev aG : Type := va_G × (Nat → ClassId) × Nat × Nat × Nat × Nat × (Nat → Int32)
abbrev aD (g : aG) : va_G := g.1
abbrev aC (g : aG) : Nat → ClassId := g.2.1
abbrev aB (g : aG) : Nat := g.2.2.1
abbrev aS (g : aG) : Nat := g.2.2.2.1
abbrev aU (g : aG) : Nat := g.2.2.2.2.1
abbrev aLn (g : aG) : Nat := g.2.2.2.2.2.1
abbrev aXs (g : aG) : Nat → Int32 := g.2.2.2.2.2.2
def a_ad (g : aG) (k : Nat) : Nat := if k = 100000 then aS g else if k = 100001 then aU g else aB g + k
def a_cv (g : aG) : Value → Value
  | .ref k => .ref (a_ad g k)
  | v => v
def a_vi : Value → Int32
  | .int x => x
  | _ => 0
def a_vr (g : aG) : Value → Option Nat
  | .ref k => some (a_ad g k)
  | _ => none
abbrev a_tys (g : aG) : List (ClassId × FieldType) := [(aC g 0, .int), (aC g 1, .boolean), (aC g 2, .object "BellWaves$School"), (aC g 3, .object "BellWaves$Stop"), (aC g 4, .object "BellWaves$Sheet"), (aC g 5, .array .int)]
/-- a cell by its shape (an object's class number and its fields' number, or 100 and on, an array's kind, and its length) and its row -/
def a_ce (g : aG) (sh : Nat × Nat) (row : Nat → Value) : va_E :=
  if sh.1 = 100 then .inl (aC g 0, sh.2, .inl fun i => a_vi (row i))
  else if sh.1 = 101 then .inl (aC g 1, sh.2, .inl fun i => a_vi (row i))
  else if 102 ≤ sh.1 then .inl (aC g (sh.1 - 100), sh.2, .inr (.inr (.inr (.inr fun i => a_vr g (row i)))))
  else .inr (sh.1, (List.range sh.2).map fun j => a_cv g (row j))
def a_sh (k : Nat) : Nat × Nat := a_shL.getD k (0, 0)
def a_wl (g : aG) (n : Nat) (mem : aM) : va_W := (List.range n).map fun k => (aB g + k, a_ce g (a_sh k) (mem k))
theorem a_wl_get {g : aG} {n k : Nat} {mem : aM} (h : k < n) : (a_wl g n mem)[k]? = some (aB g + k, a_ce g (a_sh k) (mem k)) := by
  simp [a_wl, h]
theorem a_wl_inv {g : aG} {n k : Nat} {mem : aM} {q : Nat × va_E} (h : (a_wl g n mem)[k]? = some q) : k < n ∧ q = (aB g + k, a_ce g (a_sh k) (mem k)) := by
  by_cases hk : k < n
  · rw [a_wl_get hk] at h
    exact ⟨hk, (Option.some.inj h).symm⟩
  · simp [a_wl, hk] at h
theorem a_wl_set {g : aG} {n k : Nat} {mem mem' : aM} (hk : k < n) (h : ∀ q, q ≠ k → mem' q = mem q) : (a_wl g n mem).set k (aB g + k, a_ce g (a_sh k) (mem' k)) = a_wl g n mem' := by
  apply List.ext_getElem?
  intro i
  by_cases hi : i = k
  · subst hi
    rw [List.getElem?_set_self (by simp [a_wl]; exact hk), a_wl_get hk]
  · rw [List.getElem?_set_ne (Ne.symm hi)]
    simp only [a_wl, List.getElem?_map]
    by_cases hl : i < n
    · simp [hl, h i hi]
    · simp [hl]
theorem a_wl_push {g : aG} {n : Nat} {mem mem' : aM} (h : ∀ q, q < n → mem' q = mem q) : a_wl g n mem ++ [(aB g + n, a_ce g (a_sh n) (mem' n))] = a_wl g (n + 1) mem' := by
  unfold a_wl
  rw [List.range_succ, List.map_append]
  congr 1
  apply List.map_congr_left
  intro a ha
  rw [h a (List.mem_range.mp ha)]
def a_A (g : aG) : Nat → Prop := fun q => aB g ≤ q
theorem a_wl_D (g : aG) (n : Nat) (mem : aM) : va_D (a_A g) (a_wl g n mem) := by
  refine ⟨fun i j p q hi hj hpq => ?_, fun k q hk => ?_⟩
  · obtain ⟨-, rfl⟩ := a_wl_inv hi
    obtain ⟨-, rfl⟩ := a_wl_inv hj
    have : aB g + i = aB g + j := hpq
    omega
  · obtain ⟨-, rfl⟩ := a_wl_inv hk
    exact Nat.le_add_right _ _
/-- the heap holds the memory -/
def a_R (g : aG) (n : Nat) (mem : aM) (H : Heap) : Prop := va_P (aD g) vwCl (a_wl g n mem) H ∧ H.size = aB g + n ∧ n ≤ 1000
theorem a_ad_k {g : aG} {n k : Nat} {mem : aM} {H : Heap} (hR : a_R g n mem H) (h : k < n) : a_ad g k = aB g + k := by
  have := hR.2.2
  unfold a_ad
  rw [if_neg (by omega), if_neg (by omega)]
def lw_g : List Cond := lw_tbl.filter goodWord
theorem a_in {w : Cond} (i : Nat) (h : lw_tbl[i]? = some w) (hg : goodWord w = true) : w ∈ lw_g := List.mem_filter.mpr ⟨List.mem_of_getElem? h, hg⟩
theorem a_good {w : Cond} (h : w ∈ lw_g) : (w.onTables && w.keeps) = true ∨ ∃ ty, w = .arrayClass ty := good_of_word (List.mem_filter.mp h).2
def a_isN : Cond → Bool
  | .methodLinkNest _ _ _ _ => true
  | _ => false
def lw_n : List Cond := lw_tbl.filter a_isN
theorem a_inN {w : Cond} (i : Nat) (h : lw_tbl[i]? = some w) (hg : a_isN w = true) : w ∈ lw_n := List.mem_filter.mpr ⟨List.mem_of_getElem? h, hg⟩
def a_un : Nat → Value := fun j => if j = 0 then .int (-1) else if j = 3 then .int 1 else .int 0
/-- what stands through the whole run: the classes, the script, UNDER, the words of private members, the array classes -/
def a_K (g : aG) (U : State) : Prop :=
  va_K (aD g) vwCl (a_tys g) U ∧ va_X (aS g) (aLn g) (aXs g) U U.heap ∧ aS g < aB g ∧ va_Z "BellWaves" "UNDER" "[I" (.ref (aU g)) (a_A g) U U.heap ∧ va_T .int (aU g) 4 a_un (a_A g) U U.heap ∧
  (∀ w ∈ lw_n, va_Nw w U) ∧ va_AO "BellWaves$School" U ∧ va_AO "BellWaves$Stop" U ∧ va_AO "BellWaves$Sheet" U ∧ va_AOA .int U ∧ aB g ≤ U.heap.size
theorem a_K_to {g : aG} {s U : State} (h : a_K g s) (hvm : s.WarmedH U.vm) (hsz : s.heap.size ≤ U.heap.size) (hq : ∀ q : Nat, q < s.heap.size → ¬ a_A g q → U.heap[q]? = s.heap[q]?) : a_K g U := by
  obtain ⟨h1, h2, h3, h4, h5, h6, h7, h8, h9, h10, h11⟩ := h
  have hal := hvm.alike
  refine ⟨h1.moved hal, (h2.moved hal).kept (hq _ (by omega) (by unfold a_A; omega)), h3, (h4.moved hal).kept hq, (h5.moved hal).kept hq, fun w hw => ?_, h7.moved hal, h8.moved hal, h9.moved hal, h10.moved hal, by omega⟩
  have hw0 := h6 w hw
  have hN := (List.mem_filter.mp hw).2
  cases w <;> simp only [a_isN] at hN <;> first | exact absurd hN (by decide) | skip
  exact va_Nw.warmM hvm hw0
abbrev aY : Type := String × MethodName × ByteArray × Nat × Option FieldType
/-- what is fixed while method y runs from the state s -/
def a_F (g : aG) (y : aY) (p : Program) (s : State) (m : MethodId) (args : Array Value) (meth : Method) (c : Code) : Prop :=
  p.tables.exec = Jvm.exec ∧ c.code = y.2.2.1 ∧ meth.sig.returnType = y.2.2.2.2 ∧ c.maxLocals = y.2.2.2.1 ∧ s.vm.findClass y.1 = some m.cls ∧ (∀ w ∈ lw_g, w.before args s = true) ∧ meth.locks = false ∧ meth.name = y.2.1.name ∧ a_K g s
def a_lk : List (Option Value) → Nat → Option Value
  | [], _ => none
  | x :: _, 0 => x
  | _ :: xs, i + 1 => a_lk xs i
def a_set : List (Option Value) → Nat → Value → List (Option Value)
  | [], _, _ => []
  | _ :: xs, 0, v => some v :: xs
  | x :: xs, i + 1, v => x :: a_set xs i v
theorem a_lk_get : ∀ (ls : List (Option Value)) (i : Nat) (v : Value), a_lk ls i = some v → ls[i]? = some (some v)
  | [], _, _, h => by simp [a_lk] at h
  | x :: _, 0, _, h => by simp [a_lk] at h; simp [h]
  | _ :: xs, i + 1, v, h => by simp only [a_lk] at h; simpa using a_lk_get xs i v h
theorem a_lk_set : ∀ (ls : List (Option Value)) (i j : Nat) (v w : Value), a_lk (a_set ls i v) j = some w → (j = i ∧ w = v) ∨ (j ≠ i ∧ a_lk ls j = some w)
  | [], _, _, _, _, h => by simp [a_set, a_lk] at h
  | _ :: _, 0, 0, _, _, h => by simp only [a_set, a_lk] at h; exact Or.inl ⟨rfl, (Option.some.inj h).symm⟩
  | _ :: _, 0, j + 1, _, _, h => by simp only [a_set, a_lk] at h; exact Or.inr ⟨by omega, h⟩
  | _ :: _, i + 1, 0, _, _, h => by simp only [a_set, a_lk] at h; exact Or.inr ⟨by omega, h⟩
  | _ :: xs, i + 1, j + 1, v, w, h => by
    simp only [a_set, a_lk] at h
    rcases a_lk_set xs i j v w h with ⟨a, b⟩ | ⟨a, b⟩
    · exact Or.inl ⟨by omega, b⟩
    · exact Or.inr ⟨by omega, b⟩
def a_L (g : aG) (nL : Nat) (ls : List (Option Value)) (A : Array Slot) : Prop := A.size = nL ∧ lv_wf A ∧ ∀ (i : Nat) (v : Value), a_lk ls i = some v → A[i]? = some (.val (a_cv g v))
/-- a method's end: its answer and memory -/
def a_Q (g : aG) (Q : Option Value → Nat → aM → Prop) : Array Value → State → Outcome → State → Prop := fun _ st o t =>
  (∃ (r : Option Value) (n : Nat) (mem : aM), o = .returned (r.map (a_cv g)) ∧ Q r n mem ∧ a_R g n mem t.heap) ∧ va_F (a_A g) st t
def a_P (g : aG) (as : List Value) (n : Nat) (mem : aM) : Array Value → State → Prop := fun v U => v = (as.map (a_cv g)).toArray ∧ a_R g n mem U.heap ∧ a_K g U
def aE (z : Nat × (Nat → Int32)) (y : aY) (R : Room) (Q : Option Value → Nat → aM → Prop) (pc : Nat) (ls : List (Option Value)) (st : List Value) (n : Nat) (mem : aM) (k1 k2 : Nat) : Prop :=
  ∀ (g : aG), (aLn g, aXs g) = z → ∀ (p : Program) (l : Launch) (e : Env) (s : State) (m : MethodId) (args : Array Value) (below : List Frame) (meth : Method) (c : Code) (H : Heap) (locs : List Loc) (A : Array Slot),
    a_F g y p s m args meth c → va_S (a_A g) s.heap H locs → a_R g n mem H → a_L g y.2.2.2.1 ls A →
    W p l e R s m args below meth c H locs k1 k2 (MQ below (a_Q g Q) args s R.cells R.slots (a_A g)) (F0 m pc A (st.map (a_cv g)))
def a_ws (y : aY) : List Cond := Cond.code y.2.1 y.2.2.1 y.2.2.2.1 y.2.2.2.2 :: lw_g
def aRuns (y : aY) (R : Room) (as : List Value) (n : Nat) (mem : aM) (Q : Option Value → Nat → aM → Prop) : Prop :=
  ∀ (l : Launch) (g : aG), Met l y.2.1 (a_ws y) R (a_P g as n mem) (a_Q g Q) R.cells R.slots (a_A g)
theorem aE.wk {z : Nat × (Nat → Int32)} {y : aY} {R : Room} {Q Q' : Option Value → Nat → aM → Prop} {pc : Nat} {ls : List (Option Value)} {st : List Value} {n : Nat} {mem : aM} {k1 k2 : Nat} (hq : ∀ r n m, Q r n m → Q' r n m) (h : aE z y R Q pc ls st n mem k1 k2) : aE z y R Q' pc ls st n mem k1 k2 := by
  intro g hz p l e s m args below meth c H locs A hF hS hR hL T hT X
  obtain ⟨t, a, o, b1, b2, ⟨⟨r, n', m', e1, e2, e3⟩, e4⟩, b4⟩ := h g hz p l e s m args below meth c H locs A hF hS hR hL T hT X
  exact ⟨t, a, o, b1, b2, ⟨⟨r, n', m', e1, hq _ _ _ e2, e3⟩, e4⟩, b4⟩
/-- the locals with which a method begins -/
def a_el (nL : Nat) (as : List Value) : List (Option Value) := let l := as.flatMap fun v => if v.category = 2 then [some v, none] else [some v]; l ++ List.replicate (nL - l.length) none
theorem a_cat (g : aG) (v : Value) : (a_cv g v).category = v.category := by cases v <;> rfl
theorem a_el_args (g : aG) (vs : List Value) : ∀ (i k : Nat) (v : Value), (vs.flatMap fun v => if v.category = 2 then [some v, none] else [some v])[i]? = some (some v) → (k + i, a_cv g v) ∈ lv_args k (vs.map (a_cv g)) := by
  induction vs with
  | nil => intro i k v h; simp at h
  | cons w ws ih =>
    intro i k v h
    simp only [List.flatMap_cons] at h
    simp only [List.map_cons, lv_args, a_cat]
    by_cases hc : w.category = 2
    · rw [if_pos hc] at h ⊢
      match i, h with
      | 0, h => simp at h; subst h; simp
      | 1, h => simp at h
      | i + 2, h =>
        have h' : (ws.flatMap fun v => if v.category = 2 then [some v, none] else [some v])[i]? = some (some v) := by simpa using h
        have := ih i (k + 2) v h'
        rw [show k + (i + 2) = k + 2 + i by omega]
        exact List.mem_cons_of_mem _ this
    · rw [if_neg hc] at h ⊢
      match i, h with
      | 0, h => simp at h; subst h; simp
      | i + 1, h =>
        have h' : (ws.flatMap fun v => if v.category = 2 then [some v, none] else [some v])[i]? = some (some v) := by simpa using h
        have := ih i (k + 1) v h'
        rw [show k + (i + 1) = k + 1 + i by omega]
        exact List.mem_cons_of_mem _ this
theorem a_el_ok (g : aG) (nL : Nat) (as : List Value) (h : (as.flatMap fun v => if v.category = 2 then [some v, none] else [some v]).length ≤ nL) : a_L g nL (a_el nL as) ((lg_sl (as.map (a_cv g)) ++ List.replicate (nL - (lg_sl (as.map (a_cv g))).length) Slot.unset).toArray) := by
  have hlen : (lg_sl (as.map (a_cv g))).length = (as.flatMap fun v => if v.category = 2 then [some v, none] else [some v]).length := by
    unfold lg_sl
    induction as with
    | nil => rfl
    | cons w ws ih =>
      have h' : (ws.flatMap fun v => if v.category = 2 then [some v, none] else [some v]).length ≤ nL := by
        simp only [List.flatMap_cons, List.length_append] at h; omega
      simp only [List.map_cons, List.flatMap_cons, List.length_append, a_cat]
      rw [ih h']
      by_cases hc : w.category = 2 <;> simp [hc]
  have hl := lv_entry (as.map (a_cv g)) (n := nL) (by rw [hlen]; exact h)
  refine ⟨hl.1, hl.2.1, fun i v hi => ?_⟩
  replace hi := a_lk_get _ _ _ hi
  unfold a_el at hi
  simp only at hi
  by_cases hlt : i < (as.flatMap fun v => if v.category = 2 then [some v, none] else [some v]).length
  · rw [List.getElem?_append_left hlt] at hi
    have := a_el_args g as i 0 v hi
    rw [Nat.zero_add] at this
    exact hl.2.2 _ this
  · rw [List.getElem?_append_right (by omega)] at hi
    have := List.eq_of_mem_replicate (List.mem_of_getElem? hi)
    cases this
theorem aRuns_of {y : aY} {R : Room} {as : List Value} {n : Nat} {mem : aM} {Q : Option Value → Nat → aM → Prop} (hy : plainName y.2.1.cls = true ∧ y.1 = y.2.1.cls) (hl : (as.flatMap fun v => if v.category = 2 then [some v, none] else [some v]).length ≤ y.2.2.2.1) (h : ∀ z, aE z y R Q 0 (a_el y.2.2.2.1 as) [] n mem 0 0) : aRuns y R as n mem Q := by
  intro l g
  refine Met.ofW (cc := y.2.2.1) (maxL := y.2.2.2.1) (ret := y.2.2.2.2) hy.1 rfl ?_
  intro p e s m args below meth c s₁ B hml hv
  obtain ⟨rfl, hR, hK⟩ := hv
  have hts := atoms_spec (ws := a_ws y) B.pre
  have hown : s.vm.findClass y.1 = some m.cls := by rw [hy.2]; exact findClass_of_methodNamed B.named
  rw [lg_entry_eq]
  exact h _ g rfl p l e s m _ below meth c s.heap [] _ ⟨B.exec, B.bytes, B.returns, hml, hown, fun w hw => hts w (List.mem_cons_of_mem _ hw), B.notSynchronized, (name_of_methodNamed B.named B.method).1, hK⟩ va_S.rf hR (a_el_ok g _ as hl)
