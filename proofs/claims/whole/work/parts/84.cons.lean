/-! ===== cells that are being made ===== -/
theorem arrV_cg {cI : ClassId} {N : Nat} {f f' : Nat → Value} (h : ∀ j, j < N → f j = f' j) : arrV cI N f = arrV cI N f' := by
  unfold arrV
  have : (fun j : Fin N => f j.val) = (fun j : Fin N => f' j.val) := funext fun j => h j.1 j.2
  rw [this]
theorem a_R_len {g : aG} {n : Nat} {mem mem' : aM} {H : Heap} (h : ∀ q, q < n → ∀ j, j < (a_sh q).2 → mem q j = mem' q j) (hR : a_R g n mem H) : a_R g n mem' H := by
  refine ⟨fun k q hk => ?_, hR.2⟩
  obtain ⟨hk1, rfl⟩ := a_wl_inv hk
  have h0 := hR.1 k _ (a_wl_get hk1)
  have hh := h k hk1
  revert h0 hh
  generalize a_sh k = sh
  obtain ⟨t, N⟩ := sh
  unfold va_at a_ce
  dsimp only
  intro h0 hh
  by_cases h1 : t = 100
  · rw [if_pos h1] at h0 ⊢
    dsimp only at h0 ⊢
    rw [vp_cell_i] at h0 ⊢
    rw [h0]
    exact congrArg some (arrV_cg fun j hj => by rw [hh j hj])
  · rw [if_neg h1] at h0 ⊢
    by_cases h2 : t = 101
    · rw [if_pos h2] at h0 ⊢
      dsimp only at h0 ⊢
      rw [vp_cell_i] at h0 ⊢
      rw [h0]
      exact congrArg some (arrV_cg fun j hj => by rw [hh j hj])
    · rw [if_neg h2] at h0 ⊢
      by_cases h3 : 102 ≤ t
      · rw [if_pos h3] at h0 ⊢
        dsimp only at h0 ⊢
        rw [vp_cell_q] at h0 ⊢
        rw [h0]
        exact congrArg some (arrV_cg fun j hj => by rw [hh j hj])
      · rw [if_neg h3] at h0 ⊢
        dsimp only at h0 ⊢
        have e : (List.range N).map (fun j => a_cv g (mem k j)) = (List.range N).map (fun j => a_cv g (mem' k j)) := List.map_congr_left fun j hj => by rw [hh j (List.mem_range.mp hj)]
        rw [← e]; exact h0
section CONS
variable {z : Nat × (Nat → Int32)} {y : aY} {R : Room} {Q : Option Value → Nat → aM → Prop} {pc : Nat} {ls : List (Option Value)} {st : List Value} {n k1 k2 : Nat} {mem : aM}
theorem aE_len {mem' : aM} (h : ∀ q, q < n → ∀ j, j < (a_sh q).2 → mem q j = mem' q j) (k : aE z y R Q pc ls st n mem' k1 k2) : aE z y R Q pc ls st n mem k1 k2 :=
  fun g hz p l e s m args below meth c H locs A hF hS hR hL => k g hz p l e s m args below meth c H locs A hF hS (a_R_len h hR) hL
/-- references from slot k on are not yet set -/
def OV (m : aM) (a k : Nat) : aM := fun q j => if q = a ∧ k ≤ j then (match m q j with | .ref _ => .null | v => v) else m q j
theorem OV_ne {m : aM} {a k q : Nat} (h : q ≠ a) : OV m a k q = m q := by
  funext j; unfold OV; rw [if_neg (fun w => h w.1)]
theorem OV_nj {m : aM} {a k q j : Nat} (h : q ≠ a) : OV m a k q j = m q j := by rw [OV_ne h]
theorem OV_up {m : aM} {a j r : Nat} (h : m a j = .ref r) : a_up (OV m a j) a j (.ref r) = OV m a (j + 1) := by
  funext q i
  unfold a_up OV
  by_cases hq : q = a
  · subst hq
    by_cases hi : i = j
    · subst hi; rw [if_pos ⟨rfl, rfl⟩, if_neg (by omega), h]
    · rw [if_neg (fun w => hi w.2)]
      by_cases hl : j ≤ i
      · rw [if_pos ⟨rfl, hl⟩, if_pos ⟨rfl, by omega⟩]
      · rw [if_neg (fun w => hl w.2), if_neg (fun w => hl (by omega))]
  · rw [if_neg (fun w => hq w.1), if_neg (fun w => hq w.1), if_neg (fun w => hq w.1)]
theorem OV_int {m : aM} {a j : Nat} {x : Int32} (h : m a j = .int x) : OV m a j = OV m a (j + 1) := by
  funext q i
  unfold OV
  by_cases hq : q = a ∧ i = j
  · obtain ⟨rfl, rfl⟩ := hq
    rw [if_pos ⟨rfl, Nat.le_refl _⟩, if_neg (by omega), h]
  · by_cases h1 : q = a ∧ j ≤ i
    · rw [if_pos h1, if_pos (by omega)]
    · rw [if_neg h1, if_neg (by omega)]
theorem OV_end {m : aM} {a k : Nat} (h : (a_sh a).2 ≤ k) (q j : Nat) (hj : j < (a_sh q).2) : OV m a k q j = m q j := by
  unfold OV
  rw [if_neg]
  rintro ⟨rfl, h2⟩
  omega
theorem OV_0 {I : Nat → Nat → Int32} {sp : Nat → Nat} {pl : Bool} {a j : Nat} (ha : a ≠ 27) {m : aM} (hm : m a j = MM I sp pl a j) : OV m a 0 a j = if mmc a j = 0 then .int (I a j) else .null := by
  unfold OV
  rw [if_pos ⟨rfl, Nat.zero_le _⟩, hm]
  unfold MM
  rw [if_neg ha]
  match h : mmc a j with
  | 0 => rfl
  | 1 => cases pl <;> rfl
  | k + 2 => rfl
theorem new_ok {T : u_T} {N a : Nat} {ty0 : Nat → FieldType} {I : Nat → Nat → Int32} {sp : Nat → Nat} {pl : Bool} {m : aM} (h0 : ∀ k, k < N → parseFieldDescriptor (T k).2.2.1 = some (ty0 k)) (hd : ∀ j, j < N → defaultValue (ty0 j) = if mmc a j = 0 then .int 0 else .null) (hI : ∀ i, I a i = 0) (ha : a ≠ 27) (hm : ∀ j, m a j = MM I sp pl a j) : ∀ j, j < N → ∀ ty, parseFieldDescriptor (T j).2.2.1 = some ty → OV m a 0 a j = defaultValue ty := by
  intro j hj ty hty
  rw [h0 j hj] at hty
  cases hty
  rw [OV_0 ha (hm j), hd j hj, hI j]
theorem mz {I : Nat → Nat → Int32} {sp : Nat → Nat} {pl : Bool} {a j N : Nat} (h : a_sh a = (100, N) ∨ a_sh a = (101, N)) (hI : I a j = 0) : MM I sp pl a j = .int 0 := by
  rw [mm_int (mm_arr h).1 ((mm_arr h).2 j), hI]
def FX (m : aM) (a k : Nat) : aM := fun q j => if q = a ∧ k ≤ j then .null else m q j
theorem FX_ne {m : aM} {a k q : Nat} (h : q ≠ a) : FX m a k q = m q := by
  funext j; unfold FX; rw [if_neg (fun w => h w.1)]
theorem FX_end {m : aM} {a k : Nat} (h : (a_sh a).2 ≤ k) (q j : Nat) (hj : j < (a_sh q).2) : FX m a k q j = m q j := by
  unfold FX
  rw [if_neg]
  rintro ⟨rfl, h2⟩
  omega
end CONS
/-- ints of cells from a on are 0 -/
def zI (I : Nat → Nat → Int32) (a : Nat) : Nat → Nat → Int32 := fun q i => if a ≤ q then 0 else I q i
theorem zI_lt {I : Nat → Nat → Int32} {a q : Nat} (h : q < a) : zI I a q = I q := by
  funext i; unfold zI; rw [if_neg (by omega)]
theorem zI_ge {I : Nat → Nat → Int32} {a q i : Nat} (h : a ≤ q) : zI I a q i = 0 := by
  unfold zI; rw [if_pos h]
abbrev rP (k : Nat) : Room := { frames := k, cells := 19, slots := 13461, locals := 40 * k }
