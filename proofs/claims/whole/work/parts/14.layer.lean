def mmL : List (List Nat) := [[3, 56, 77, 82, 92, 94, 1], [4, 27, 28, 29], [0, 0, 5, 6, 7, 8, 9, 18], [], [], [], [], [10, 11, 12, 13, 14, 15, 16, 17], [], [], [], [], [], [], [], [], [19, 20, 21, 22, 23, 24, 25, 26], [], [], [], [], [], [], [], [], [30, 34, 38, 42], [], [46, 47, 48, 49, 50, 51, 52, 53, 54, 55], [0, 0, 0, 0, 0, 31, 32, 33], [], [], [], [0, 0, 0, 0, 0, 35, 36, 37], [], [], [], [0, 0, 0, 0, 0, 39, 40, 41], [], [], [], [0, 0, 0, 0, 0, 43, 44, 45], [], [], [], [], [], [], [], [], [], [], [], [], [], [0, 0, 0, 57, 58, 59, 60, 71], [], [], [], [61, 62, 63, 64, 65, 66, 67, 68, 69, 70], [], [], [], [], [], [], [], [], [], [], [0, 72, 73, 74, 75, 76], [], [], [], [], [], [0, 0, 78, 79, 80, 81], [], [], [], [], [0, 0, 83, 84, 85, 86, 91], [], [], [], [87, 88, 89, 90], [], [], [], [], [], [0, 93], [], [95, 97, 99, 101], [0, 0, 96], [], [0, 0, 98], [], [0, 0, 100], [], [0, 0, 102], [], [0, 0, 0, 0, 0, 0, 0, 0, 0, 0, 104, 105, 106, 107, 108, 109, 110, 111, 112, 113, 114, 115, 116, 117, 118, 119, 120, 121, 122, 0, 0, 123, 124, 125, 126, 127, 128, 129, 130, 131, 132, 133, 0, 0, 134, 135, 136, 137, 138, 139, 140, 141, 142, 143, 144, 145, 0, 0, 146, 147, 148], [], [], [], [], [], [], [], [], [], [], [], [], [], [], [], [], [], [], [], [], [], [], [], [], [], [], [], [], [], [], [], [], [], [], [], [], [], [], [], [], [], [], [], [], [], [0, 150, 151, 152, 153, 164, 165, 166, 167], [], [], [], [154, 155, 156, 157, 158, 159, 160, 161, 162, 163], [], [], [], [], [], [], [], [], [], [], [], [], [], []]
/-! ===== THE MEMORY AS INTS: all references but the stops' row and the planner are the same through the whole run ===== -/
def mmc (a j : Nat) : Nat := (mmL.getD a []).getD j 0
/-- I: all ints, by address and slot; sp: where each stop's object is; pl: whether the planner is made -/
def MM (I : Nat → Nat → Int32) (sp : Nat → Nat) (pl : Bool) : aM := fun a j => if a = 27 then .ref (sp j) else match mmc a j with
  | 0 => .int (I a j)
  | 1 => if pl then .ref 147 else .null
  | k + 2 => .ref k
def nn (pl : Bool) : Nat := if pl then 166 else 147
def iu (I : Nat → Nat → Int32) (a j : Nat) (x : Int32) : Nat → Nat → Int32 := fun q i => if q = a ∧ i = j then x else I q i
theorem lt_nn {a : Nat} {pl : Bool} (h : a < 147) : a < nn pl := by
  unfold nn; split <;> omega
theorem lt_nt {a : Nat} (h : a < 166) : a < nn true := h
theorem mm_int {I : Nat → Nat → Int32} {sp : Nat → Nat} {pl : Bool} {a j : Nat} (h : a ≠ 27) (hc : mmc a j = 0) : MM I sp pl a j = .int (I a j) := by
  unfold MM; rw [if_neg h, hc]
theorem mm_ref {I : Nat → Nat → Int32} {sp : Nat → Nat} {pl : Bool} {a j r : Nat} (h : a ≠ 27) (hc : mmc a j = r + 2) : MM I sp pl a j = .ref r := by
  unfold MM; rw [if_neg h, hc]
theorem mm_stop {I : Nat → Nat → Int32} {sp : Nat → Nat} {pl : Bool} {j : Nat} : MM I sp pl 27 j = .ref (sp j) := by
  unfold MM; rw [if_pos rfl]
theorem mm_up {I : Nat → Nat → Int32} {sp : Nat → Nat} {pl : Bool} {a j : Nat} {x : Int32} (h : a ≠ 27) (hc : mmc a j = 0) : a_up (MM I sp pl) a j (.int x) = MM (iu I a j x) sp pl := by
  funext q i
  unfold a_up
  by_cases hq : q = a ∧ i = j
  · obtain ⟨rfl, rfl⟩ := hq
    rw [if_pos ⟨rfl, rfl⟩, mm_int h hc]
    simp [iu]
  · rw [if_neg hq]
    unfold MM
    simp only [iu, if_neg hq]
theorem mm_arr {a N : Nat} (h : a_sh a = (100, N) ∨ a_sh a = (101, N)) : a ≠ 27 ∧ ∀ j, mmc a j = 0 := by
  have key : ∀ a, a < 166 → (a_sh a).1 = 100 ∨ (a_sh a).1 = 101 → a ≠ 27 ∧ mmL.getD a [] = [] := by decide +kernel
  by_cases ha : a < 166
  · obtain ⟨h1, h2⟩ := key a ha (by rcases h with h | h <;> rw [h] <;> simp)
    exact ⟨h1, fun j => by unfold mmc; rw [h2]; rfl⟩
  · have : a_sh a = (0, 0) := by
      unfold a_sh
      rw [List.getD_eq_getElem?_getD, List.getElem?_eq_none (by have : a_shL.length = 166 := by decide +kernel
                                                                omega)]
      rfl
    rw [this] at h
    simp at h
theorem a_inc (k : Nat) : nI k + Int32.ofInt 1 = nI (k + 1) := nI_1 k
def a_ri (v : Int32) (n : Nat) (mem : aM) : Option Value → Nat → aM → Prop := fun r n' m' => r = some (.int v) ∧ n' = n ∧ m' = mem
def a_rr (v : Nat) (n : Nat) (mem : aM) : Option Value → Nat → aM → Prop := fun r n' m' => r = some (.ref v) ∧ n' = n ∧ m' = mem
def a_rv (n : Nat) (mem : aM) : Option Value → Nat → aM → Prop := fun r n' m' => r = none ∧ n' = n ∧ m' = mem
section AE3
variable {z : Nat × (Nat → Int32)} {mem' : aM} {y : aY} {R : Room} {Q : Option Value → Nat → aM → Prop} {pc : Nat} {ls ls' : List (Option Value)} {st : List Value} {n n' : Nat} {mem : aM} {k1 k2 : Nat}
variable {I : Nat → Nat → Int32} {sp : Nat → Nat} {pl : Bool}
theorem aE_loc (h : ls = ls') (k : aE z y R Q pc ls' st n mem k1 k2) : aE z y R Q pc ls st n mem k1 k2 := h ▸ k
theorem aE_top {x x' : Int32} (h : x = x') (k : aE z y R Q pc ls (.int x' :: st) n mem k1 k2) : aE z y R Q pc ls (.int x :: st) n mem k1 k2 := h ▸ k
theorem aE_topl {x x' : Int64} (h : x = x') (k : aE z y R Q pc ls (.long x' :: st) n mem k1 k2) : aE z y R Q pc ls (.long x :: st) n mem k1 k2 := h ▸ k
theorem aE_mem (h : mem = mem') (k : aE z y R Q pc ls st n mem' k1 k2) : aE z y R Q pc ls st n mem k1 k2 := h ▸ k
theorem aE_I {I' : Nat → Nat → Int32} (h : I = I') (k : aE z y R Q pc ls st n (MM I' sp pl) k1 k2) : aE z y R Q pc ls st n (MM I sp pl) k1 k2 := h ▸ k
theorem aE_puti {idx ci N j a : Nat} {fin : Bool} {ty : FieldType} {x : Int32} (hd : decode y.2.2.1 pc = .ok (.putfield idx, 3)) (hl : a_fw y.1 idx ci N j fin ty) (hfin : fin = false ∨ y.2.1.name = "<init>") (ha : a < n) (hs : a_sh a = (ci, N)) (hv : ∀ g : aG, narrow ty (a_cv g (.int x)) = a_cv g (.int x) ∧ fits ty (a_cv g (.int x)) = true) (h27 : a ≠ 27) (hc : mmc a j = 0) (k : aE z y R Q (pc + 3) ls st n (MM (iu I a j x) sp pl) k1 k2) : aE z y R Q pc ls (.int x :: .ref a :: st) n (MM I sp pl) k1 k2 :=
  aE_putf hd hl hfin ha hs hv (aE_mem (mm_up h27 hc) k)
theorem aE_geti {idx ci N j a : Nat} (hd : decode y.2.2.1 pc = .ok (.getfield idx, 3)) (hl : a_fr y.1 idx ci N j) (ha : a < n) (hs : a_sh a = (ci, N)) (h27 : a ≠ 27) (hc : mmc a j = 0) (k : aE z y R Q (pc + 3) ls (.int (I a j) :: st) n (MM I sp pl) k1 k2) : aE z y R Q pc ls (.ref a :: st) n (MM I sp pl) k1 k2 :=
  aE_getf hd hl ha hs (mm_int h27 hc) k
theorem aE_ildM {a N j : Nat} {i : Int32} (hd : decode y.2.2.1 pc = .ok (.iaload, 1)) (ha : a < n) (hs : a_sh a = (100, N)) (hN : N < 2 ^ 31) (hi : i = nI j) (hj : j < N) (k : aE z y R Q (pc + 1) ls (.int (I a j) :: st) n (MM I sp pl) k1 k2) : aE z y R Q pc ls (.int i :: .ref a :: st) n (MM I sp pl) k1 k2 :=
  aE_iald hd ha hs hN hi hj (mm_int (mm_arr (Or.inl hs)).1 ((mm_arr (Or.inl hs)).2 j)) k
theorem aE_istM {a N j : Nat} {i x : Int32} (hd : decode y.2.2.1 pc = .ok (.iastore, 1)) (ha : a < n) (hs : a_sh a = (100, N)) (hN : N < 2 ^ 31) (hi : i = nI j) (hj : j < N) (k : aE z y R Q (pc + 1) ls st n (MM (iu I a j x) sp pl) k1 k2) : aE z y R Q pc ls (.int x :: .int i :: .ref a :: st) n (MM I sp pl) k1 k2 :=
  aE_iast hd ha hs hN hi hj (aE_mem (mm_up (mm_arr (Or.inl hs)).1 ((mm_arr (Or.inl hs)).2 j)) k)
theorem aE_zldM {a N j : Nat} {i : Int32} (hd : decode y.2.2.1 pc = .ok (.baload, 1)) (ha : a < n) (hs : a_sh a = (101, N)) (hN : N < 2 ^ 31) (hi : i = nI j) (hj : j < N) (k : aE z y R Q (pc + 1) ls (.int (I a j) :: st) n (MM I sp pl) k1 k2) : aE z y R Q pc ls (.int i :: .ref a :: st) n (MM I sp pl) k1 k2 :=
  aE_zald hd ha hs hN hi hj (mm_int (mm_arr (Or.inr hs)).1 ((mm_arr (Or.inr hs)).2 j)) k
theorem aE_zstM {a N j : Nat} {i x : Int32} (hd : decode y.2.2.1 pc = .ok (.bastore, 1)) (ha : a < n) (hs : a_sh a = (101, N)) (hN : N < 2 ^ 31) (hi : i = nI j) (hj : j < N) (hx : x = 0 ∨ x = 1) (k : aE z y R Q (pc + 1) ls st n (MM (iu I a j x) sp pl) k1 k2) : aE z y R Q pc ls (.int x :: .int i :: .ref a :: st) n (MM I sp pl) k1 k2 :=
  aE_zast hd ha hs hN hi hj hx (aE_mem (mm_up (mm_arr (Or.inr hs)).1 ((mm_arr (Or.inr hs)).2 j)) k)
theorem a_z0 {Rx : Room} (h0 : Rx.cells = 0 ∧ Rx.slots = 0) (hk : k1 ≤ R.cells ∧ k2 ≤ R.slots) : k1 + Rx.cells ≤ R.cells ∧ k2 + Rx.slots ≤ R.slots := by
  rw [h0.1, h0.2]; exact hk
theorem aE_cVi {x : aY} {Rx : Room} {idx np ci N b : Nat} {as st0 : List Value} {v : Int32} (hd : decode y.2.2.1 pc = .ok (.invokevirtual idx, 3)) (hw : Cond.methodLink y.1 idx x.2.1 ∈ lw_g) (hm : a_mv x np ci) (hM : aRuns x Rx (.ref b :: as) n mem (a_ri v n' mem')) (hst : st0 = as.reverse ++ .ref b :: st) (hb : b < n) (hs : a_sh b = (ci, N)) (hnp : as.length = np) (hok : a_ok x Rx R) (hcat : (st.map fun v => v.category).sum ≤ 8) (h0 : Rx.cells = 0 ∧ Rx.slots = 0) (hk : k1 ≤ R.cells ∧ k2 ≤ R.slots) (k : aE z y R Q (pc + 3) ls (.int v :: st) n' mem' k1 k2) : aE z y R Q pc ls st0 n mem k1 k2 := by
  refine aE_callV hd hw hm hM hst hb hs hnp hok hcat (a_z0 h0 hk) fun r n1 m1 h => ?_
  obtain ⟨rfl, rfl, rfl⟩ := h
  rw [h0.1, h0.2]
  exact k
theorem aE_cVr {x : aY} {Rx : Room} {idx np ci N b : Nat} {as st0 : List Value} {v : Nat} (hd : decode y.2.2.1 pc = .ok (.invokevirtual idx, 3)) (hw : Cond.methodLink y.1 idx x.2.1 ∈ lw_g) (hm : a_mv x np ci) (hM : aRuns x Rx (.ref b :: as) n mem (a_rr v n' mem')) (hst : st0 = as.reverse ++ .ref b :: st) (hb : b < n) (hs : a_sh b = (ci, N)) (hnp : as.length = np) (hok : a_ok x Rx R) (hcat : (st.map fun v => v.category).sum ≤ 8) (h0 : Rx.cells = 0 ∧ Rx.slots = 0) (hk : k1 ≤ R.cells ∧ k2 ≤ R.slots) (k : aE z y R Q (pc + 3) ls (.ref v :: st) n' mem' k1 k2) : aE z y R Q pc ls st0 n mem k1 k2 := by
  refine aE_callV hd hw hm hM hst hb hs hnp hok hcat (a_z0 h0 hk) fun r n1 m1 h => ?_
  obtain ⟨rfl, rfl, rfl⟩ := h
  rw [h0.1, h0.2]
  exact k
theorem aE_cVv {x : aY} {Rx : Room} {idx np ci N b : Nat} {as st0 : List Value}  (hd : decode y.2.2.1 pc = .ok (.invokevirtual idx, 3)) (hw : Cond.methodLink y.1 idx x.2.1 ∈ lw_g) (hm : a_mv x np ci) (hM : aRuns x Rx (.ref b :: as) n mem (a_rv n' mem')) (hst : st0 = as.reverse ++ .ref b :: st) (hb : b < n) (hs : a_sh b = (ci, N)) (hnp : as.length = np) (hok : a_ok x Rx R) (hcat : (st.map fun v => v.category).sum ≤ 8) (h0 : Rx.cells = 0 ∧ Rx.slots = 0) (hk : k1 ≤ R.cells ∧ k2 ≤ R.slots) (k : aE z y R Q (pc + 3) ls (st) n' mem' k1 k2) : aE z y R Q pc ls st0 n mem k1 k2 := by
  refine aE_callV hd hw hm hM hst hb hs hnp hok hcat (a_z0 h0 hk) fun r n1 m1 h => ?_
  obtain ⟨rfl, rfl, rfl⟩ := h
  rw [h0.1, h0.2]
  exact k
theorem aE_cVq {x : aY} {Rx : Room} {idx np ci N b : Nat} {as st0 : List Value} {Qx : Option Value → Nat → aM → Prop} (hd : decode y.2.2.1 pc = .ok (.invokevirtual idx, 3)) (hw : Cond.methodLink y.1 idx x.2.1 ∈ lw_g) (hm : a_mv x np ci) (hM : aRuns x Rx (.ref b :: as) n mem Qx) (hst : st0 = as.reverse ++ .ref b :: st) (hb : b < n) (hs : a_sh b = (ci, N)) (hnp : as.length = np) (hok : a_ok x Rx R) (hcat : (st.map fun v => v.category).sum ≤ 8) (h0 : Rx.cells = 0 ∧ Rx.slots = 0) (hk : k1 ≤ R.cells ∧ k2 ≤ R.slots) (k : ∀ r n' mem', Qx r n' mem' → aE z y R Q (pc + 3) ls (r.toList ++ st) n' mem' k1 k2) : aE z y R Q pc ls st0 n mem k1 k2 := by
  refine aE_callV hd hw hm hM hst hb hs hnp hok hcat (a_z0 h0 hk) fun r n1 m1 h => ?_
  rw [h0.1, h0.2]
  exact k r n1 m1 h
theorem aE_cVNi {x : aY} {Rx : Room} {idx np ci N b : Nat} {host : String} {as st0 : List Value} {v : Int32} (hd : decode y.2.2.1 pc = .ok (.invokevirtual idx, 3)) (hw : Cond.methodLinkNest y.1 idx x.2.1 host ∈ lw_n) (hm : a_mv x np ci) (hM : aRuns x Rx (.ref b :: as) n mem (a_ri v n' mem')) (hst : st0 = as.reverse ++ .ref b :: st) (hb : b < n) (hs : a_sh b = (ci, N)) (hnp : as.length = np) (hok : a_ok x Rx R) (hcat : (st.map fun v => v.category).sum ≤ 8) (h0 : Rx.cells = 0 ∧ Rx.slots = 0) (hk : k1 ≤ R.cells ∧ k2 ≤ R.slots) (k : aE z y R Q (pc + 3) ls (.int v :: st) n' mem' k1 k2) : aE z y R Q pc ls st0 n mem k1 k2 := by
  refine aE_callVN hd hw hm hM hst hb hs hnp hok hcat (a_z0 h0 hk) fun r n1 m1 h => ?_
  obtain ⟨rfl, rfl, rfl⟩ := h
  rw [h0.1, h0.2]
  exact k
theorem aE_cVNr {x : aY} {Rx : Room} {idx np ci N b : Nat} {host : String} {as st0 : List Value} {v : Nat} (hd : decode y.2.2.1 pc = .ok (.invokevirtual idx, 3)) (hw : Cond.methodLinkNest y.1 idx x.2.1 host ∈ lw_n) (hm : a_mv x np ci) (hM : aRuns x Rx (.ref b :: as) n mem (a_rr v n' mem')) (hst : st0 = as.reverse ++ .ref b :: st) (hb : b < n) (hs : a_sh b = (ci, N)) (hnp : as.length = np) (hok : a_ok x Rx R) (hcat : (st.map fun v => v.category).sum ≤ 8) (h0 : Rx.cells = 0 ∧ Rx.slots = 0) (hk : k1 ≤ R.cells ∧ k2 ≤ R.slots) (k : aE z y R Q (pc + 3) ls (.ref v :: st) n' mem' k1 k2) : aE z y R Q pc ls st0 n mem k1 k2 := by
  refine aE_callVN hd hw hm hM hst hb hs hnp hok hcat (a_z0 h0 hk) fun r n1 m1 h => ?_
  obtain ⟨rfl, rfl, rfl⟩ := h
  rw [h0.1, h0.2]
  exact k
theorem aE_cVNv {x : aY} {Rx : Room} {idx np ci N b : Nat} {host : String} {as st0 : List Value}  (hd : decode y.2.2.1 pc = .ok (.invokevirtual idx, 3)) (hw : Cond.methodLinkNest y.1 idx x.2.1 host ∈ lw_n) (hm : a_mv x np ci) (hM : aRuns x Rx (.ref b :: as) n mem (a_rv n' mem')) (hst : st0 = as.reverse ++ .ref b :: st) (hb : b < n) (hs : a_sh b = (ci, N)) (hnp : as.length = np) (hok : a_ok x Rx R) (hcat : (st.map fun v => v.category).sum ≤ 8) (h0 : Rx.cells = 0 ∧ Rx.slots = 0) (hk : k1 ≤ R.cells ∧ k2 ≤ R.slots) (k : aE z y R Q (pc + 3) ls (st) n' mem' k1 k2) : aE z y R Q pc ls st0 n mem k1 k2 := by
  refine aE_callVN hd hw hm hM hst hb hs hnp hok hcat (a_z0 h0 hk) fun r n1 m1 h => ?_
  obtain ⟨rfl, rfl, rfl⟩ := h
  rw [h0.1, h0.2]
  exact k
theorem aE_cVNq {x : aY} {Rx : Room} {idx np ci N b : Nat} {host : String} {as st0 : List Value} {Qx : Option Value → Nat → aM → Prop} (hd : decode y.2.2.1 pc = .ok (.invokevirtual idx, 3)) (hw : Cond.methodLinkNest y.1 idx x.2.1 host ∈ lw_n) (hm : a_mv x np ci) (hM : aRuns x Rx (.ref b :: as) n mem Qx) (hst : st0 = as.reverse ++ .ref b :: st) (hb : b < n) (hs : a_sh b = (ci, N)) (hnp : as.length = np) (hok : a_ok x Rx R) (hcat : (st.map fun v => v.category).sum ≤ 8) (h0 : Rx.cells = 0 ∧ Rx.slots = 0) (hk : k1 ≤ R.cells ∧ k2 ≤ R.slots) (k : ∀ r n' mem', Qx r n' mem' → aE z y R Q (pc + 3) ls (r.toList ++ st) n' mem' k1 k2) : aE z y R Q pc ls st0 n mem k1 k2 := by
  refine aE_callVN hd hw hm hM hst hb hs hnp hok hcat (a_z0 h0 hk) fun r n1 m1 h => ?_
  rw [h0.1, h0.2]
  exact k r n1 m1 h
theorem aE_cSi {x : aY} {Rx : Room} {idx np : Nat} {as st0 : List Value} {v : Int32} (hd : decode y.2.2.1 pc = .ok (.invokestatic idx, 3)) (hw : Cond.methodLink y.1 idx x.2.1 ∈ lw_g) (hm : a_ms x np) (hM : aRuns x Rx as n mem (a_ri v n' mem')) (hst : st0 = as.reverse ++ st) (hnp : as.length = np) (hok : a_ok x Rx R) (hcat : (st.map fun v => v.category).sum ≤ 8) (h0 : Rx.cells = 0 ∧ Rx.slots = 0) (hk : k1 ≤ R.cells ∧ k2 ≤ R.slots) (k : aE z y R Q (pc + 3) ls (.int v :: st) n' mem' k1 k2) : aE z y R Q pc ls st0 n mem k1 k2 := by
  refine aE_callS hd hw hm hM hst hnp hok hcat (a_z0 h0 hk) fun r n1 m1 h => ?_
  obtain ⟨rfl, rfl, rfl⟩ := h
  rw [h0.1, h0.2]
  exact k
theorem aE_cSr {x : aY} {Rx : Room} {idx np : Nat} {as st0 : List Value} {v : Nat} (hd : decode y.2.2.1 pc = .ok (.invokestatic idx, 3)) (hw : Cond.methodLink y.1 idx x.2.1 ∈ lw_g) (hm : a_ms x np) (hM : aRuns x Rx as n mem (a_rr v n' mem')) (hst : st0 = as.reverse ++ st) (hnp : as.length = np) (hok : a_ok x Rx R) (hcat : (st.map fun v => v.category).sum ≤ 8) (h0 : Rx.cells = 0 ∧ Rx.slots = 0) (hk : k1 ≤ R.cells ∧ k2 ≤ R.slots) (k : aE z y R Q (pc + 3) ls (.ref v :: st) n' mem' k1 k2) : aE z y R Q pc ls st0 n mem k1 k2 := by
  refine aE_callS hd hw hm hM hst hnp hok hcat (a_z0 h0 hk) fun r n1 m1 h => ?_
  obtain ⟨rfl, rfl, rfl⟩ := h
  rw [h0.1, h0.2]
  exact k
theorem aE_cSv {x : aY} {Rx : Room} {idx np : Nat} {as st0 : List Value}  (hd : decode y.2.2.1 pc = .ok (.invokestatic idx, 3)) (hw : Cond.methodLink y.1 idx x.2.1 ∈ lw_g) (hm : a_ms x np) (hM : aRuns x Rx as n mem (a_rv n' mem')) (hst : st0 = as.reverse ++ st) (hnp : as.length = np) (hok : a_ok x Rx R) (hcat : (st.map fun v => v.category).sum ≤ 8) (h0 : Rx.cells = 0 ∧ Rx.slots = 0) (hk : k1 ≤ R.cells ∧ k2 ≤ R.slots) (k : aE z y R Q (pc + 3) ls (st) n' mem' k1 k2) : aE z y R Q pc ls st0 n mem k1 k2 := by
  refine aE_callS hd hw hm hM hst hnp hok hcat (a_z0 h0 hk) fun r n1 m1 h => ?_
  obtain ⟨rfl, rfl, rfl⟩ := h
  rw [h0.1, h0.2]
  exact k
theorem aE_cSq {x : aY} {Rx : Room} {idx np : Nat} {as st0 : List Value} {Qx : Option Value → Nat → aM → Prop} (hd : decode y.2.2.1 pc = .ok (.invokestatic idx, 3)) (hw : Cond.methodLink y.1 idx x.2.1 ∈ lw_g) (hm : a_ms x np) (hM : aRuns x Rx as n mem Qx) (hst : st0 = as.reverse ++ st) (hnp : as.length = np) (hok : a_ok x Rx R) (hcat : (st.map fun v => v.category).sum ≤ 8) (h0 : Rx.cells = 0 ∧ Rx.slots = 0) (hk : k1 ≤ R.cells ∧ k2 ≤ R.slots) (k : ∀ r n' mem', Qx r n' mem' → aE z y R Q (pc + 3) ls (r.toList ++ st) n' mem' k1 k2) : aE z y R Q pc ls st0 n mem k1 k2 := by
  refine aE_callS hd hw hm hM hst hnp hok hcat (a_z0 h0 hk) fun r n1 m1 h => ?_
  rw [h0.1, h0.2]
  exact k r n1 m1 h
theorem aE_cSNi {x : aY} {Rx : Room} {idx np : Nat} {host : String} {as st0 : List Value} {v : Int32} (hd : decode y.2.2.1 pc = .ok (.invokestatic idx, 3)) (hw : Cond.methodLinkNest y.1 idx x.2.1 host ∈ lw_n) (hm : a_ms x np) (hM : aRuns x Rx as n mem (a_ri v n' mem')) (hst : st0 = as.reverse ++ st) (hnp : as.length = np) (hok : a_ok x Rx R) (hcat : (st.map fun v => v.category).sum ≤ 8) (h0 : Rx.cells = 0 ∧ Rx.slots = 0) (hk : k1 ≤ R.cells ∧ k2 ≤ R.slots) (k : aE z y R Q (pc + 3) ls (.int v :: st) n' mem' k1 k2) : aE z y R Q pc ls st0 n mem k1 k2 := by
  refine aE_callSN hd hw hm hM hst hnp hok hcat (a_z0 h0 hk) fun r n1 m1 h => ?_
  obtain ⟨rfl, rfl, rfl⟩ := h
  rw [h0.1, h0.2]
  exact k
theorem aE_cSNr {x : aY} {Rx : Room} {idx np : Nat} {host : String} {as st0 : List Value} {v : Nat} (hd : decode y.2.2.1 pc = .ok (.invokestatic idx, 3)) (hw : Cond.methodLinkNest y.1 idx x.2.1 host ∈ lw_n) (hm : a_ms x np) (hM : aRuns x Rx as n mem (a_rr v n' mem')) (hst : st0 = as.reverse ++ st) (hnp : as.length = np) (hok : a_ok x Rx R) (hcat : (st.map fun v => v.category).sum ≤ 8) (h0 : Rx.cells = 0 ∧ Rx.slots = 0) (hk : k1 ≤ R.cells ∧ k2 ≤ R.slots) (k : aE z y R Q (pc + 3) ls (.ref v :: st) n' mem' k1 k2) : aE z y R Q pc ls st0 n mem k1 k2 := by
  refine aE_callSN hd hw hm hM hst hnp hok hcat (a_z0 h0 hk) fun r n1 m1 h => ?_
  obtain ⟨rfl, rfl, rfl⟩ := h
  rw [h0.1, h0.2]
  exact k
theorem aE_cSNv {x : aY} {Rx : Room} {idx np : Nat} {host : String} {as st0 : List Value}  (hd : decode y.2.2.1 pc = .ok (.invokestatic idx, 3)) (hw : Cond.methodLinkNest y.1 idx x.2.1 host ∈ lw_n) (hm : a_ms x np) (hM : aRuns x Rx as n mem (a_rv n' mem')) (hst : st0 = as.reverse ++ st) (hnp : as.length = np) (hok : a_ok x Rx R) (hcat : (st.map fun v => v.category).sum ≤ 8) (h0 : Rx.cells = 0 ∧ Rx.slots = 0) (hk : k1 ≤ R.cells ∧ k2 ≤ R.slots) (k : aE z y R Q (pc + 3) ls (st) n' mem' k1 k2) : aE z y R Q pc ls st0 n mem k1 k2 := by
  refine aE_callSN hd hw hm hM hst hnp hok hcat (a_z0 h0 hk) fun r n1 m1 h => ?_
  obtain ⟨rfl, rfl, rfl⟩ := h
  rw [h0.1, h0.2]
  exact k
theorem aE_cSNq {x : aY} {Rx : Room} {idx np : Nat} {host : String} {as st0 : List Value} {Qx : Option Value → Nat → aM → Prop} (hd : decode y.2.2.1 pc = .ok (.invokestatic idx, 3)) (hw : Cond.methodLinkNest y.1 idx x.2.1 host ∈ lw_n) (hm : a_ms x np) (hM : aRuns x Rx as n mem Qx) (hst : st0 = as.reverse ++ st) (hnp : as.length = np) (hok : a_ok x Rx R) (hcat : (st.map fun v => v.category).sum ≤ 8) (h0 : Rx.cells = 0 ∧ Rx.slots = 0) (hk : k1 ≤ R.cells ∧ k2 ≤ R.slots) (k : ∀ r n' mem', Qx r n' mem' → aE z y R Q (pc + 3) ls (r.toList ++ st) n' mem' k1 k2) : aE z y R Q pc ls st0 n mem k1 k2 := by
  refine aE_callSN hd hw hm hM hst hnp hok hcat (a_z0 h0 hk) fun r n1 m1 h => ?_
  rw [h0.1, h0.2]
  exact k r n1 m1 h
end AE3
/-! shapes and references at addresses with a variable -/
theorem sh_sch {j : Nat} (h : j < 4) : a_sh (28 + 4 * j) = (7, 8) := by
  rcases (show j = 0 ∨ j = 1 ∨ j = 2 ∨ j = 3 by omega) with rfl | rfl | rfl | rfl <;> rfl
theorem sh_beg {j : Nat} (h : j < 4) : a_sh (29 + 4 * j) = (100, 11) := by
  rcases (show j = 0 ∨ j = 1 ∨ j = 2 ∨ j = 3 by omega) with rfl | rfl | rfl | rfl <;> rfl
theorem sh_ord {j : Nat} (h : j < 4) : a_sh (30 + 4 * j) = (100, 10) := by
  rcases (show j = 0 ∨ j = 1 ∨ j = 2 ∨ j = 3 by omega) with rfl | rfl | rfl | rfl <;> rfl
theorem sh_len {j : Nat} (h : j < 4) : a_sh (31 + 4 * j) = (100, 10) := by
  rcases (show j = 0 ∨ j = 1 ∨ j = 2 ∨ j = 3 by omega) with rfl | rfl | rfl | rfl <;> rfl
theorem sh_sht {j : Nat} (h : j < 4) : a_sh (93 + 2 * j) = (8, 3) := by
  rcases (show j = 0 ∨ j = 1 ∨ j = 2 ∨ j = 3 by omega) with rfl | rfl | rfl | rfl <;> rfl
theorem sh_num {j : Nat} (h : j < 4) : a_sh (94 + 2 * j) = (100, 10) := by
  rcases (show j = 0 ∨ j = 1 ∨ j = 2 ∨ j = 3 by omega) with rfl | rfl | rfl | rfl <;> rfl
theorem sh_stop {a : Nat} (h : 44 ≤ a ∧ a < 54) : a_sh a = (9, 4) := by
  have key : ∀ a, a < 54 → 44 ≤ a → a_sh a = (9, 4) := by decide +kernel
  exact key a h.2 h.1
theorem sh_plain {j : Nat} (h : j < 8) : a_sh (8 + j) = (100, 8) := by
  have key : ∀ j, j < 8 → a_sh (8 + j) = (100, 8) := by decide +kernel
  exact key j h
theorem sh_snowy {j : Nat} (h : j < 8) : a_sh (17 + j) = (100, 8) := by
  have key : ∀ j, j < 8 → a_sh (17 + j) = (100, 8) := by decide +kernel
  exact key j h
theorem sh_gap {j : Nat} (h : j < 10) : a_sh (59 + j) = (100, 10) := by
  have key : ∀ j, j < 10 → a_sh (59 + j) = (100, 10) := by decide +kernel
  exact key j h
theorem sh_price {j : Nat} (h : j < 4) : a_sh (85 + j) = (100, 7) := by
  have key : ∀ j, j < 4 → a_sh (85 + j) = (100, 7) := by decide +kernel
  exact key j h
theorem sh_btw {j : Nat} (h : j < 10) : a_sh (152 + j) = (100, 10) := by
  have key : ∀ j, j < 10 → a_sh (152 + j) = (100, 10) := by decide +kernel
  exact key j h
section MMF
variable {I : Nat → Nat → Int32} {sp : Nat → Nat} {pl : Bool} {j : Nat}
theorem mm_schs (h : j < 4) : MM I sp pl 25 j = .ref (28 + 4 * j) := mm_ref (by decide) (by
  have key : ∀ j, j < 4 → mmc 25 j = 28 + 4 * j + 2 := by decide +kernel
  exact key j h)
theorem mm_shts (h : j < 4) : MM I sp pl 92 j = .ref (93 + 2 * j) := mm_ref (by decide) (by
  have key : ∀ j, j < 4 → mmc 92 j = 93 + 2 * j + 2 := by decide +kernel
  exact key j h)
theorem mm_plain (h : j < 8) : MM I sp pl 7 j = .ref (8 + j) := mm_ref (by decide) (by
  have key : ∀ j, j < 8 → mmc 7 j = 8 + j + 2 := by decide +kernel
  exact key j h)
theorem mm_snowy (h : j < 8) : MM I sp pl 16 j = .ref (17 + j) := mm_ref (by decide) (by
  have key : ∀ j, j < 8 → mmc 16 j = 17 + j + 2 := by decide +kernel
  exact key j h)
theorem mm_gap (h : j < 10) : MM I sp pl 58 j = .ref (59 + j) := mm_ref (by decide) (by
  have key : ∀ j, j < 10 → mmc 58 j = 59 + j + 2 := by decide +kernel
  exact key j h)
theorem mm_price (h : j < 4) : MM I sp pl 84 j = .ref (85 + j) := mm_ref (by decide) (by
  have key : ∀ j, j < 4 → mmc 84 j = 85 + j + 2 := by decide +kernel
  exact key j h)
theorem mm_btw (h : j < 10) : MM I sp pl 151 j = .ref (152 + j) := mm_ref (by decide) (by
  have key : ∀ j, j < 10 → mmc 151 j = 152 + j + 2 := by decide +kernel
  exact key j h)
theorem mc_sch {i : Nat} (h : j < 4) (hi : i < 5) : 28 + 4 * j ≠ 27 ∧ mmc (28 + 4 * j) i = 0 := by
  have key : ∀ j, j < 4 → ∀ i, i < 5 → mmc (28 + 4 * j) i = 0 := by decide +kernel
  exact ⟨by omega, key j h i hi⟩
theorem mm_schi {i : Nat} (h : j < 4) (hi : i < 5) : MM I sp pl (28 + 4 * j) i = .int (I (28 + 4 * j) i) := mm_int (mc_sch h hi).1 (mc_sch h hi).2
theorem mm_beg (h : j < 4) : MM I sp pl (28 + 4 * j) 5 = .ref (29 + 4 * j) := by
  rcases (show j = 0 ∨ j = 1 ∨ j = 2 ∨ j = 3 by omega) with rfl | rfl | rfl | rfl <;> rfl
theorem mm_ord (h : j < 4) : MM I sp pl (28 + 4 * j) 6 = .ref (30 + 4 * j) := by
  rcases (show j = 0 ∨ j = 1 ∨ j = 2 ∨ j = 3 by omega) with rfl | rfl | rfl | rfl <;> rfl
theorem mm_len (h : j < 4) : MM I sp pl (28 + 4 * j) 7 = .ref (31 + 4 * j) := by
  rcases (show j = 0 ∨ j = 1 ∨ j = 2 ∨ j = 3 by omega) with rfl | rfl | rfl | rfl <;> rfl
theorem mc_sht {i : Nat} (h : j < 4) (hi : i < 2) : 93 + 2 * j ≠ 27 ∧ mmc (93 + 2 * j) i = 0 := by
  have key : ∀ j, j < 4 → ∀ i, i < 2 → mmc (93 + 2 * j) i = 0 := by decide +kernel
  exact ⟨by omega, key j h i hi⟩
theorem mm_shti {i : Nat} (h : j < 4) (hi : i < 2) : MM I sp pl (93 + 2 * j) i = .int (I (93 + 2 * j) i) := mm_int (mc_sht h hi).1 (mc_sht h hi).2
theorem mm_num (h : j < 4) : MM I sp pl (93 + 2 * j) 2 = .ref (94 + 2 * j) := by
  rcases (show j = 0 ∨ j = 1 ∨ j = 2 ∨ j = 3 by omega) with rfl | rfl | rfl | rfl <;> rfl
theorem mc_stop {a i : Nat} (h : 44 ≤ a ∧ a < 54) : a ≠ 27 ∧ mmc a i = 0 := by
  have key : ∀ a, a < 54 → 44 ≤ a → mmL.getD a [] = [] := by decide +kernel
  refine ⟨by omega, ?_⟩
  unfold mmc
  rw [key a h.2 h.1]
  rfl
theorem mm_stopi {a i : Nat} (h : 44 ≤ a ∧ a < 54) : MM I sp pl a i = .int (I a i) := mm_int (mc_stop (i := i) h).1 (mc_stop (i := i) h).2
end MMF
