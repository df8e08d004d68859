/-! ===== the constructors ===== -/
/-- the ints at the start -/
def iI : Nat → Nat → Int32 := fun q j => if q = 1 ∧ j = 6 then 40 else if q = 1 ∧ j = 7 then 60 else if q = 101 ∧ j = 7 then 40 else if q = 101 ∧ j = 8 then 60 else 0
def iS : Nat → Nat := fun k => 44 + k
abbrev iM : aM := MM iI iS false
/-- the slots in the order in which they are set -/
def SEQ : List (Nat × Nat) := [(2, 2), (2, 3), (2, 4), (2, 5), (2, 6), (2, 7), (1, 0), (1, 1), (1, 2), (1, 3), (1, 6), (1, 7), (28, 5), (28, 6), (28, 7), (25, 0), (32, 5), (32, 6), (32, 7), (25, 1), (36, 5), (36, 6), (36, 7), (25, 2), (40, 5), (40, 6), (40, 7), (25, 3), (27, 0), (27, 1), (27, 2), (27, 3), (27, 4), (27, 5), (27, 6), (27, 7), (27, 8), (27, 9), (0, 0), (54, 3), (54, 4), (54, 5), (54, 6), (69, 1), (69, 2), (69, 3), (69, 4), (69, 5), (54, 7), (0, 1), (75, 2), (75, 3), (75, 4), (75, 5), (0, 2), (80, 2), (80, 3), (80, 4), (80, 5), (80, 6), (0, 3), (90, 1), (0, 4), (0, 5), (93, 2), (92, 0), (95, 2), (92, 1), (97, 2), (92, 2), (99, 2), (92, 3), (101, 7), (101, 8), (101, 10), (101, 11), (101, 12), (101, 13), (101, 14), (101, 15), (101, 16), (101, 17), (101, 18), (101, 19), (101, 20), (101, 21), (101, 22), (101, 23), (101, 24), (101, 25), (101, 26), (101, 27), (101, 28), (101, 31), (101, 32), (101, 33), (101, 34), (101, 35), (101, 36), (101, 37), (101, 38), (101, 39), (101, 40), (101, 41), (101, 44), (101, 45), (101, 46), (101, 47), (101, 48), (101, 49), (101, 50), (101, 51), (101, 52), (101, 53), (101, 54), (101, 55), (101, 58), (101, 59), (101, 60)]
def uV : Value → Value
  | .ref _ => .null
  | .int _ => .int 0
  | v => v
/-- the first k slots are set -/
def UN (k : Nat) : aM := fun q j => if (q, j) ∈ SEQ.drop k then uV (iM q j) else iM q j
theorem UN_out {k a j : Nat} (h : (a, j) ∉ SEQ.drop k) : UN k a j = iM a j := by unfold UN; rw [if_neg h]
theorem UN_row {k a : Nat} (h : ∀ p ∈ SEQ.drop k, p.1 ≠ a) {j : Nat} : UN k a j = iM a j := UN_out fun q => h _ q rfl
theorem UN_null {k a j r : Nat} (h : (a, j) ∈ SEQ.drop k) (hr : iM a j = .ref r) : UN k a j = .null := by unfold UN; rw [if_pos h, hr]; rfl
theorem UN_put {k a j : Nat} {v : Value} (h : SEQ[k]? = some (a, j)) (hn : (a, j) ∉ SEQ.drop (k + 1)) (hv : iM a j = v) : a_up (UN k) a j v = UN (k + 1) := by
  obtain ⟨hk, he⟩ := List.getElem?_eq_some_iff.mp h
  have e : SEQ.drop k = (a, j) :: SEQ.drop (k + 1) := by rw [List.drop_eq_getElem_cons hk, he]
  funext q i
  unfold a_up UN
  by_cases hq : q = a ∧ i = j
  · obtain ⟨rfl, rfl⟩ := hq
    rw [if_pos ⟨rfl, rfl⟩, if_neg hn, hv]
  · rw [if_neg hq]
    by_cases hm : (q, i) ∈ SEQ.drop (k + 1)
    · rw [if_pos hm, if_pos (by rw [e]; exact List.mem_cons_of_mem _ hm)]
    · rw [if_neg hm, if_neg (fun w => by
        rw [e] at w
        rcases List.mem_cons.mp w with w | w
        · cases w; exact hq ⟨rfl, rfl⟩
        · exact hm w)]
theorem UN_new {k a N : Nat} {T : u_T} {ty0 : Nat → FieldType} (h0 : ∀ j, j < N → parseFieldDescriptor (T j).2.2.1 = some (ty0 j)) (hd : ∀ j, j < N → defaultValue (ty0 j) = if mmc a j = 0 then .int 0 else .null) (ha : a ≠ 27) (hS : ∀ j, j < N → (a, j) ∈ SEQ.drop k ∨ (mmc a j = 0 ∧ iI a j = 0) ∨ mmc a j = 1) : ∀ j, j < N → ∀ ty, parseFieldDescriptor (T j).2.2.1 = some ty → UN k a j = defaultValue ty := by
  intro j hj ty hty
  rw [h0 j hj] at hty
  cases hty
  rw [hd j hj]
  have hm : iM a j = match mmc a j with
    | 0 => .int (iI a j)
    | 1 => .null
    | k + 2 => .ref k := by
    show MM iI iS false a j = _
    unfold MM; rw [if_neg ha]; rfl
  by_cases hin : (a, j) ∈ SEQ.drop k
  · unfold UN; rw [if_pos hin, hm]
    match mmc a j with
    | 0 => rfl
    | 1 => rfl
    | k + 2 => rfl
  · rcases hS j hj with q | ⟨q1, q2⟩ | q
    · exact absurd q hin
    · rw [UN_out hin, hm, q1, q2]; rfl
    · rw [UN_out hin, hm, q]; rfl
theorem iI_z {a : Nat} (h : a ≠ 1 ∧ a ≠ 101) (j : Nat) : iI a j = 0 := by
  unfold iI; rw [if_neg (by omega), if_neg (by omega), if_neg (by omega), if_neg (by omega)]
theorem UN_z {k a N : Nat} (h : a_sh a = (100, N) ∨ a_sh a = (101, N)) (hr : ∀ p ∈ SEQ.drop k, p.1 ≠ a) (h1 : a ≠ 1 ∧ a ≠ 101) (j : Nat) : UN k a j = .int 0 := by
  rw [UN_row hr]; exact mz h (iI_z h1 j)
theorem UN_sh {k a N : Nat} (h : a_sh a = (100, N) ∨ a_sh a = (101, N)) : ∀ p ∈ SEQ.drop k, p.1 ≠ a := fun p hp e => by
  have key : ∀ p ∈ SEQ, (a_sh p.1).1 ≠ 100 ∧ (a_sh p.1).1 ≠ 101 := by decide +kernel
  have := key p (List.mem_of_mem_drop hp)
  rw [e] at this
  rcases h with h | h <;> rw [h] at this <;> simp at this
theorem UN_end : UN 119 = iM := by
  funext q j
  exact UN_out (by have e : SEQ.drop 119 = [] := by decide +kernel
                   rw [e]; exact List.not_mem_nil)
set_option maxRecDepth 20000 in
theorem ci_2 : aRuns mX10_init { frames := 1, cells := 22, slots := 200, locals := 40 } [.ref 2] 3 (UN 0) (fun r n' m' => r = none ∧ n' = 25 ∧ m' = UN 6) := by
  refine aRuns_of pn_X10_init (Nat.le_of_ble_eq_true rfl) (fun z => aE_loc (ls' := [_]) rfl ?_)
  refine aE_aload_n dX10_init_0 rfl rfl ?_
  refine aE_obj dX10_init_1 ob_X10_3 ⟨by decide, by decide⟩ (Nat.le_of_ble_eq_true rfl) ?_
  refine aE_aload_n dX10_init_4 rfl rfl ?_
  refine aE_bipush (v := 14) dX10_init_5 (by decide) ?_
  refine aE_newa (mem' := UN 0) (N := 14) dX10_init_7 (Or.inl ⟨rfl, rfl, rfl⟩) ar_i rfl (by decide) rfl (UN_z (N := 14) (Or.inl rfl) (by decide +kernel) (by decide)) (fun _ _ => rfl) (by decide) ⟨by decide, by decide⟩ ?_
  refine aE_putf dX10_init_9 fp_X10_9 (Or.inr rfl) (by decide) rfl (fun g => ⟨rfl, rfl⟩) ?_
  refine aE_mem (UN_put (k := 0) (a := 2) (j := 2) (v := .ref 3) (by decide +kernel) (by decide +kernel) rfl) ?_
  refine aE_aload_n dX10_init_12 rfl rfl ?_
  refine aE_bipush (v := 14) dX10_init_13 (by decide) ?_
  refine aE_newa (mem' := UN 1) (N := 14) dX10_init_15 (Or.inl ⟨rfl, rfl, rfl⟩) ar_i rfl (by decide) rfl (UN_z (N := 14) (Or.inl rfl) (by decide +kernel) (by decide)) (fun _ _ => rfl) (by decide) ⟨by decide, by decide⟩ ?_
  refine aE_putf dX10_init_17 fp_X10_15 (Or.inr rfl) (by decide) rfl (fun g => ⟨rfl, rfl⟩) ?_
  refine aE_mem (UN_put (k := 1) (a := 2) (j := 3) (v := .ref 4) (by decide +kernel) (by decide +kernel) rfl) ?_
  refine aE_aload_n dX10_init_20 rfl rfl ?_
  refine aE_bipush (v := 14) dX10_init_21 (by decide) ?_
  refine aE_newa (mem' := UN 2) (N := 14) dX10_init_23 (Or.inl ⟨rfl, rfl, rfl⟩) ar_i rfl (by decide) rfl (UN_z (N := 14) (Or.inl rfl) (by decide +kernel) (by decide)) (fun _ _ => rfl) (by decide) ⟨by decide, by decide⟩ ?_
  refine aE_putf dX10_init_25 fp_X10_18 (Or.inr rfl) (by decide) rfl (fun g => ⟨rfl, rfl⟩) ?_
  refine aE_mem (UN_put (k := 2) (a := 2) (j := 4) (v := .ref 5) (by decide +kernel) (by decide +kernel) rfl) ?_
  refine aE_aload_n dX10_init_28 rfl rfl ?_
  refine aE_bipush (v := 14) dX10_init_29 (by decide) ?_
  refine aE_newa (mem' := UN 3) (N := 14) dX10_init_31 (Or.inr ⟨rfl, rfl, rfl⟩) ar_z rfl (by decide) rfl (UN_z (N := 14) (Or.inr rfl) (by decide +kernel) (by decide)) (fun _ _ => rfl) (by decide) ⟨by decide, by decide⟩ ?_
  refine aE_putf dX10_init_33 fp_X10_21 (Or.inr rfl) (by decide) rfl (fun g => ⟨rfl, rfl⟩) ?_
  refine aE_mem (UN_put (k := 3) (a := 2) (j := 5) (v := .ref 6) (by decide +kernel) (by decide +kernel) rfl) ?_
  refine aE_aload_n dX10_init_36 rfl rfl ?_
  refine aE_bipush (v := 8) dX10_init_37 (by decide) ?_
  refine aE_bipush (v := 8) dX10_init_39 (by decide) ?_
  refine aE_mna (mem' := FX (UN 4) 7 8) (N := 8) (M := 8) dX10_init_41 ⟨kl_X10_25, ar_i⟩ rfl rfl (by decide) rfl (by decide +kernel) (fun q => ?_) (fun q hq b => ?_) (fun q hq => FX_ne (by omega)) (by decide) ⟨by decide, by decide⟩ ?_
  · unfold FX; by_cases hq : q < 8
    · rw [if_neg (by omega), if_pos hq, UN_row (by decide +kernel)]; exact mm_plain hq
    · rw [if_pos (by omega), if_neg hq]
  · rw [FX_ne (by omega)]; exact UN_z (N := 8) (Or.inl (sh_plain hq)) (UN_sh (N := 8) (Or.inl (sh_plain hq))) (by omega) b
  refine aE_len (mem' := UN 4) (fun q _ j hj => FX_end (by decide) q j hj) ?_
  refine aE_putf dX10_init_45 fp_X10_27 (Or.inr rfl) (by decide) rfl (fun g => ⟨rfl, rfl⟩) ?_
  refine aE_mem (UN_put (k := 4) (a := 2) (j := 6) (v := .ref 7) (by decide +kernel) (by decide +kernel) rfl) ?_
  refine aE_aload_n dX10_init_48 rfl rfl ?_
  refine aE_bipush (v := 8) dX10_init_49 (by decide) ?_
  refine aE_bipush (v := 8) dX10_init_51 (by decide) ?_
  refine aE_mna (mem' := FX (UN 5) 16 8) (N := 8) (M := 8) dX10_init_53 ⟨kl_X10_25, ar_i⟩ rfl rfl (by decide) rfl (by decide +kernel) (fun q => ?_) (fun q hq b => ?_) (fun q hq => FX_ne (by omega)) (by decide) ⟨by decide, by decide⟩ ?_
  · unfold FX; by_cases hq : q < 8
    · rw [if_neg (by omega), if_pos hq, UN_row (by decide +kernel)]; exact mm_snowy hq
    · rw [if_pos (by omega), if_neg hq]
  · rw [FX_ne (by omega)]; exact UN_z (N := 8) (Or.inl (sh_snowy hq)) (UN_sh (N := 8) (Or.inl (sh_snowy hq))) (by omega) b
  refine aE_len (mem' := UN 5) (fun q _ j hj => FX_end (by decide) q j hj) ?_
  refine aE_putf dX10_init_57 fp_X10_30 (Or.inr rfl) (by decide) rfl (fun g => ⟨rfl, rfl⟩) ?_
  refine aE_mem (UN_put (k := 5) (a := 2) (j := 7) (v := .ref 16) (by decide +kernel) (by decide +kernel) rfl) ?_
  refine aE_vret dX10_init_60 rfl ⟨by decide, by decide⟩ ?_
  exact ⟨rfl, rfl, rfl⟩
set_option maxRecDepth 20000 in
theorem ci_28 : aRuns mX7_init { frames := 1, cells := 3, slots := 31, locals := 40 } [.ref 28] 29 (UN 12) (fun r n' m' => r = none ∧ n' = 32 ∧ m' = UN 15) := by
  refine aRuns_of pn_X7_init (Nat.le_of_ble_eq_true rfl) (fun z => aE_loc (ls' := [_]) rfl ?_)
  refine aE_aload_n dX7_init_0 rfl rfl ?_
  refine aE_obj dX7_init_1 ob_X7_3 ⟨by decide, by decide⟩ (Nat.le_of_ble_eq_true rfl) ?_
  refine aE_aload_n dX7_init_4 rfl rfl ?_
  refine aE_bipush (v := 11) dX7_init_5 (by decide) ?_
  refine aE_newa (mem' := UN 12) (N := 11) dX7_init_7 (Or.inl ⟨rfl, rfl, rfl⟩) ar_i rfl (by decide) rfl (UN_z (N := 11) (Or.inl rfl) (by decide +kernel) (by decide)) (fun _ _ => rfl) (by decide) ⟨by decide, by decide⟩ ?_
  refine aE_putf dX7_init_9 fp_X7_9 (Or.inr rfl) (by decide) rfl (fun g => ⟨rfl, rfl⟩) ?_
  refine aE_mem (UN_put (k := 12) (a := 28) (j := 5) (v := .ref 29) (by decide +kernel) (by decide +kernel) rfl) ?_
  refine aE_aload_n dX7_init_12 rfl rfl ?_
  refine aE_bipush (v := 10) dX7_init_13 (by decide) ?_
  refine aE_newa (mem' := UN 13) (N := 10) dX7_init_15 (Or.inl ⟨rfl, rfl, rfl⟩) ar_i rfl (by decide) rfl (UN_z (N := 10) (Or.inl rfl) (by decide +kernel) (by decide)) (fun _ _ => rfl) (by decide) ⟨by decide, by decide⟩ ?_
  refine aE_putf dX7_init_17 fp_X7_15 (Or.inr rfl) (by decide) rfl (fun g => ⟨rfl, rfl⟩) ?_
  refine aE_mem (UN_put (k := 13) (a := 28) (j := 6) (v := .ref 30) (by decide +kernel) (by decide +kernel) rfl) ?_
  refine aE_aload_n dX7_init_20 rfl rfl ?_
  refine aE_bipush (v := 10) dX7_init_21 (by decide) ?_
  refine aE_newa (mem' := UN 14) (N := 10) dX7_init_23 (Or.inl ⟨rfl, rfl, rfl⟩) ar_i rfl (by decide) rfl (UN_z (N := 10) (Or.inl rfl) (by decide +kernel) (by decide)) (fun _ _ => rfl) (by decide) ⟨by decide, by decide⟩ ?_
  refine aE_putf dX7_init_25 fp_X7_18 (Or.inr rfl) (by decide) rfl (fun g => ⟨rfl, rfl⟩) ?_
  refine aE_mem (UN_put (k := 14) (a := 28) (j := 7) (v := .ref 31) (by decide +kernel) (by decide +kernel) rfl) ?_
  refine aE_vret dX7_init_28 rfl ⟨by decide, by decide⟩ ?_
  exact ⟨rfl, rfl, rfl⟩
set_option maxRecDepth 20000 in
theorem ci_32 : aRuns mX7_init { frames := 1, cells := 3, slots := 31, locals := 40 } [.ref 32] 33 (UN 16) (fun r n' m' => r = none ∧ n' = 36 ∧ m' = UN 19) := by
  refine aRuns_of pn_X7_init (Nat.le_of_ble_eq_true rfl) (fun z => aE_loc (ls' := [_]) rfl ?_)
  refine aE_aload_n dX7_init_0 rfl rfl ?_
  refine aE_obj dX7_init_1 ob_X7_3 ⟨by decide, by decide⟩ (Nat.le_of_ble_eq_true rfl) ?_
  refine aE_aload_n dX7_init_4 rfl rfl ?_
  refine aE_bipush (v := 11) dX7_init_5 (by decide) ?_
  refine aE_newa (mem' := UN 16) (N := 11) dX7_init_7 (Or.inl ⟨rfl, rfl, rfl⟩) ar_i rfl (by decide) rfl (UN_z (N := 11) (Or.inl rfl) (by decide +kernel) (by decide)) (fun _ _ => rfl) (by decide) ⟨by decide, by decide⟩ ?_
  refine aE_putf dX7_init_9 fp_X7_9 (Or.inr rfl) (by decide) rfl (fun g => ⟨rfl, rfl⟩) ?_
  refine aE_mem (UN_put (k := 16) (a := 32) (j := 5) (v := .ref 33) (by decide +kernel) (by decide +kernel) rfl) ?_
  refine aE_aload_n dX7_init_12 rfl rfl ?_
  refine aE_bipush (v := 10) dX7_init_13 (by decide) ?_
  refine aE_newa (mem' := UN 17) (N := 10) dX7_init_15 (Or.inl ⟨rfl, rfl, rfl⟩) ar_i rfl (by decide) rfl (UN_z (N := 10) (Or.inl rfl) (by decide +kernel) (by decide)) (fun _ _ => rfl) (by decide) ⟨by decide, by decide⟩ ?_
  refine aE_putf dX7_init_17 fp_X7_15 (Or.inr rfl) (by decide) rfl (fun g => ⟨rfl, rfl⟩) ?_
  refine aE_mem (UN_put (k := 17) (a := 32) (j := 6) (v := .ref 34) (by decide +kernel) (by decide +kernel) rfl) ?_
  refine aE_aload_n dX7_init_20 rfl rfl ?_
  refine aE_bipush (v := 10) dX7_init_21 (by decide) ?_
  refine aE_newa (mem' := UN 18) (N := 10) dX7_init_23 (Or.inl ⟨rfl, rfl, rfl⟩) ar_i rfl (by decide) rfl (UN_z (N := 10) (Or.inl rfl) (by decide +kernel) (by decide)) (fun _ _ => rfl) (by decide) ⟨by decide, by decide⟩ ?_
  refine aE_putf dX7_init_25 fp_X7_18 (Or.inr rfl) (by decide) rfl (fun g => ⟨rfl, rfl⟩) ?_
  refine aE_mem (UN_put (k := 18) (a := 32) (j := 7) (v := .ref 35) (by decide +kernel) (by decide +kernel) rfl) ?_
  refine aE_vret dX7_init_28 rfl ⟨by decide, by decide⟩ ?_
  exact ⟨rfl, rfl, rfl⟩
set_option maxRecDepth 20000 in
theorem ci_36 : aRuns mX7_init { frames := 1, cells := 3, slots := 31, locals := 40 } [.ref 36] 37 (UN 20) (fun r n' m' => r = none ∧ n' = 40 ∧ m' = UN 23) := by
  refine aRuns_of pn_X7_init (Nat.le_of_ble_eq_true rfl) (fun z => aE_loc (ls' := [_]) rfl ?_)
  refine aE_aload_n dX7_init_0 rfl rfl ?_
  refine aE_obj dX7_init_1 ob_X7_3 ⟨by decide, by decide⟩ (Nat.le_of_ble_eq_true rfl) ?_
  refine aE_aload_n dX7_init_4 rfl rfl ?_
  refine aE_bipush (v := 11) dX7_init_5 (by decide) ?_
  refine aE_newa (mem' := UN 20) (N := 11) dX7_init_7 (Or.inl ⟨rfl, rfl, rfl⟩) ar_i rfl (by decide) rfl (UN_z (N := 11) (Or.inl rfl) (by decide +kernel) (by decide)) (fun _ _ => rfl) (by decide) ⟨by decide, by decide⟩ ?_
  refine aE_putf dX7_init_9 fp_X7_9 (Or.inr rfl) (by decide) rfl (fun g => ⟨rfl, rfl⟩) ?_
  refine aE_mem (UN_put (k := 20) (a := 36) (j := 5) (v := .ref 37) (by decide +kernel) (by decide +kernel) rfl) ?_
  refine aE_aload_n dX7_init_12 rfl rfl ?_
  refine aE_bipush (v := 10) dX7_init_13 (by decide) ?_
  refine aE_newa (mem' := UN 21) (N := 10) dX7_init_15 (Or.inl ⟨rfl, rfl, rfl⟩) ar_i rfl (by decide) rfl (UN_z (N := 10) (Or.inl rfl) (by decide +kernel) (by decide)) (fun _ _ => rfl) (by decide) ⟨by decide, by decide⟩ ?_
  refine aE_putf dX7_init_17 fp_X7_15 (Or.inr rfl) (by decide) rfl (fun g => ⟨rfl, rfl⟩) ?_
  refine aE_mem (UN_put (k := 21) (a := 36) (j := 6) (v := .ref 38) (by decide +kernel) (by decide +kernel) rfl) ?_
  refine aE_aload_n dX7_init_20 rfl rfl ?_
  refine aE_bipush (v := 10) dX7_init_21 (by decide) ?_
  refine aE_newa (mem' := UN 22) (N := 10) dX7_init_23 (Or.inl ⟨rfl, rfl, rfl⟩) ar_i rfl (by decide) rfl (UN_z (N := 10) (Or.inl rfl) (by decide +kernel) (by decide)) (fun _ _ => rfl) (by decide) ⟨by decide, by decide⟩ ?_
  refine aE_putf dX7_init_25 fp_X7_18 (Or.inr rfl) (by decide) rfl (fun g => ⟨rfl, rfl⟩) ?_
  refine aE_mem (UN_put (k := 22) (a := 36) (j := 7) (v := .ref 39) (by decide +kernel) (by decide +kernel) rfl) ?_
  refine aE_vret dX7_init_28 rfl ⟨by decide, by decide⟩ ?_
  exact ⟨rfl, rfl, rfl⟩
set_option maxRecDepth 20000 in
theorem ci_40 : aRuns mX7_init { frames := 1, cells := 3, slots := 31, locals := 40 } [.ref 40] 41 (UN 24) (fun r n' m' => r = none ∧ n' = 44 ∧ m' = UN 27) := by
  refine aRuns_of pn_X7_init (Nat.le_of_ble_eq_true rfl) (fun z => aE_loc (ls' := [_]) rfl ?_)
  refine aE_aload_n dX7_init_0 rfl rfl ?_
  refine aE_obj dX7_init_1 ob_X7_3 ⟨by decide, by decide⟩ (Nat.le_of_ble_eq_true rfl) ?_
  refine aE_aload_n dX7_init_4 rfl rfl ?_
  refine aE_bipush (v := 11) dX7_init_5 (by decide) ?_
  refine aE_newa (mem' := UN 24) (N := 11) dX7_init_7 (Or.inl ⟨rfl, rfl, rfl⟩) ar_i rfl (by decide) rfl (UN_z (N := 11) (Or.inl rfl) (by decide +kernel) (by decide)) (fun _ _ => rfl) (by decide) ⟨by decide, by decide⟩ ?_
  refine aE_putf dX7_init_9 fp_X7_9 (Or.inr rfl) (by decide) rfl (fun g => ⟨rfl, rfl⟩) ?_
  refine aE_mem (UN_put (k := 24) (a := 40) (j := 5) (v := .ref 41) (by decide +kernel) (by decide +kernel) rfl) ?_
  refine aE_aload_n dX7_init_12 rfl rfl ?_
  refine aE_bipush (v := 10) dX7_init_13 (by decide) ?_
  refine aE_newa (mem' := UN 25) (N := 10) dX7_init_15 (Or.inl ⟨rfl, rfl, rfl⟩) ar_i rfl (by decide) rfl (UN_z (N := 10) (Or.inl rfl) (by decide +kernel) (by decide)) (fun _ _ => rfl) (by decide) ⟨by decide, by decide⟩ ?_
  refine aE_putf dX7_init_17 fp_X7_15 (Or.inr rfl) (by decide) rfl (fun g => ⟨rfl, rfl⟩) ?_
  refine aE_mem (UN_put (k := 25) (a := 40) (j := 6) (v := .ref 42) (by decide +kernel) (by decide +kernel) rfl) ?_
  refine aE_aload_n dX7_init_20 rfl rfl ?_
  refine aE_bipush (v := 10) dX7_init_21 (by decide) ?_
  refine aE_newa (mem' := UN 26) (N := 10) dX7_init_23 (Or.inl ⟨rfl, rfl, rfl⟩) ar_i rfl (by decide) rfl (UN_z (N := 10) (Or.inl rfl) (by decide +kernel) (by decide)) (fun _ _ => rfl) (by decide) ⟨by decide, by decide⟩ ?_
  refine aE_putf dX7_init_25 fp_X7_18 (Or.inr rfl) (by decide) rfl (fun g => ⟨rfl, rfl⟩) ?_
  refine aE_mem (UN_put (k := 26) (a := 40) (j := 7) (v := .ref 43) (by decide +kernel) (by decide +kernel) rfl) ?_
  refine aE_vret dX7_init_28 rfl ⟨by decide, by decide⟩ ?_
  exact ⟨rfl, rfl, rfl⟩
set_option maxRecDepth 20000 in
theorem ci_44 : aRuns mX9_init { frames := 1, cells := 0, slots := 0, locals := 40 } [.ref 44] 45 (UN 28) (fun r n' m' => r = none ∧ n' = 45 ∧ m' = UN 28) := by
  refine aRuns_of pn_X9_init (Nat.le_of_ble_eq_true rfl) (fun z => aE_loc (ls' := [_]) rfl ?_)
  refine aE_aload_n dX9_init_0 rfl rfl ?_
  refine aE_obj dX9_init_1 ob_X9_1 ⟨by decide, by decide⟩ (Nat.le_of_ble_eq_true rfl) ?_
  refine aE_vret dX9_init_4 rfl ⟨by decide, by decide⟩ ?_
  exact ⟨rfl, rfl, rfl⟩
set_option maxRecDepth 20000 in
theorem ci_45 : aRuns mX9_init { frames := 1, cells := 0, slots := 0, locals := 40 } [.ref 45] 46 (UN 29) (fun r n' m' => r = none ∧ n' = 46 ∧ m' = UN 29) := by
  refine aRuns_of pn_X9_init (Nat.le_of_ble_eq_true rfl) (fun z => aE_loc (ls' := [_]) rfl ?_)
  refine aE_aload_n dX9_init_0 rfl rfl ?_
  refine aE_obj dX9_init_1 ob_X9_1 ⟨by decide, by decide⟩ (Nat.le_of_ble_eq_true rfl) ?_
  refine aE_vret dX9_init_4 rfl ⟨by decide, by decide⟩ ?_
  exact ⟨rfl, rfl, rfl⟩
set_option maxRecDepth 20000 in
theorem ci_46 : aRuns mX9_init { frames := 1, cells := 0, slots := 0, locals := 40 } [.ref 46] 47 (UN 30) (fun r n' m' => r = none ∧ n' = 47 ∧ m' = UN 30) := by
  refine aRuns_of pn_X9_init (Nat.le_of_ble_eq_true rfl) (fun z => aE_loc (ls' := [_]) rfl ?_)
  refine aE_aload_n dX9_init_0 rfl rfl ?_
  refine aE_obj dX9_init_1 ob_X9_1 ⟨by decide, by decide⟩ (Nat.le_of_ble_eq_true rfl) ?_
  refine aE_vret dX9_init_4 rfl ⟨by decide, by decide⟩ ?_
  exact ⟨rfl, rfl, rfl⟩
set_option maxRecDepth 20000 in
theorem ci_47 : aRuns mX9_init { frames := 1, cells := 0, slots := 0, locals := 40 } [.ref 47] 48 (UN 31) (fun r n' m' => r = none ∧ n' = 48 ∧ m' = UN 31) := by
  refine aRuns_of pn_X9_init (Nat.le_of_ble_eq_true rfl) (fun z => aE_loc (ls' := [_]) rfl ?_)
  refine aE_aload_n dX9_init_0 rfl rfl ?_
  refine aE_obj dX9_init_1 ob_X9_1 ⟨by decide, by decide⟩ (Nat.le_of_ble_eq_true rfl) ?_
  refine aE_vret dX9_init_4 rfl ⟨by decide, by decide⟩ ?_
  exact ⟨rfl, rfl, rfl⟩
set_option maxRecDepth 20000 in
theorem ci_48 : aRuns mX9_init { frames := 1, cells := 0, slots := 0, locals := 40 } [.ref 48] 49 (UN 32) (fun r n' m' => r = none ∧ n' = 49 ∧ m' = UN 32) := by
  refine aRuns_of pn_X9_init (Nat.le_of_ble_eq_true rfl) (fun z => aE_loc (ls' := [_]) rfl ?_)
  refine aE_aload_n dX9_init_0 rfl rfl ?_
  refine aE_obj dX9_init_1 ob_X9_1 ⟨by decide, by decide⟩ (Nat.le_of_ble_eq_true rfl) ?_
  refine aE_vret dX9_init_4 rfl ⟨by decide, by decide⟩ ?_
  exact ⟨rfl, rfl, rfl⟩
set_option maxRecDepth 20000 in
theorem ci_49 : aRuns mX9_init { frames := 1, cells := 0, slots := 0, locals := 40 } [.ref 49] 50 (UN 33) (fun r n' m' => r = none ∧ n' = 50 ∧ m' = UN 33) := by
  refine aRuns_of pn_X9_init (Nat.le_of_ble_eq_true rfl) (fun z => aE_loc (ls' := [_]) rfl ?_)
  refine aE_aload_n dX9_init_0 rfl rfl ?_
  refine aE_obj dX9_init_1 ob_X9_1 ⟨by decide, by decide⟩ (Nat.le_of_ble_eq_true rfl) ?_
  refine aE_vret dX9_init_4 rfl ⟨by decide, by decide⟩ ?_
  exact ⟨rfl, rfl, rfl⟩
set_option maxRecDepth 20000 in
theorem ci_50 : aRuns mX9_init { frames := 1, cells := 0, slots := 0, locals := 40 } [.ref 50] 51 (UN 34) (fun r n' m' => r = none ∧ n' = 51 ∧ m' = UN 34) := by
  refine aRuns_of pn_X9_init (Nat.le_of_ble_eq_true rfl) (fun z => aE_loc (ls' := [_]) rfl ?_)
  refine aE_aload_n dX9_init_0 rfl rfl ?_
  refine aE_obj dX9_init_1 ob_X9_1 ⟨by decide, by decide⟩ (Nat.le_of_ble_eq_true rfl) ?_
  refine aE_vret dX9_init_4 rfl ⟨by decide, by decide⟩ ?_
  exact ⟨rfl, rfl, rfl⟩
set_option maxRecDepth 20000 in
theorem ci_51 : aRuns mX9_init { frames := 1, cells := 0, slots := 0, locals := 40 } [.ref 51] 52 (UN 35) (fun r n' m' => r = none ∧ n' = 52 ∧ m' = UN 35) := by
  refine aRuns_of pn_X9_init (Nat.le_of_ble_eq_true rfl) (fun z => aE_loc (ls' := [_]) rfl ?_)
  refine aE_aload_n dX9_init_0 rfl rfl ?_
  refine aE_obj dX9_init_1 ob_X9_1 ⟨by decide, by decide⟩ (Nat.le_of_ble_eq_true rfl) ?_
  refine aE_vret dX9_init_4 rfl ⟨by decide, by decide⟩ ?_
  exact ⟨rfl, rfl, rfl⟩
set_option maxRecDepth 20000 in
theorem ci_52 : aRuns mX9_init { frames := 1, cells := 0, slots := 0, locals := 40 } [.ref 52] 53 (UN 36) (fun r n' m' => r = none ∧ n' = 53 ∧ m' = UN 36) := by
  refine aRuns_of pn_X9_init (Nat.le_of_ble_eq_true rfl) (fun z => aE_loc (ls' := [_]) rfl ?_)
  refine aE_aload_n dX9_init_0 rfl rfl ?_
  refine aE_obj dX9_init_1 ob_X9_1 ⟨by decide, by decide⟩ (Nat.le_of_ble_eq_true rfl) ?_
  refine aE_vret dX9_init_4 rfl ⟨by decide, by decide⟩ ?_
  exact ⟨rfl, rfl, rfl⟩
set_option maxRecDepth 20000 in
theorem ci_53 : aRuns mX9_init { frames := 1, cells := 0, slots := 0, locals := 40 } [.ref 53] 54 (UN 37) (fun r n' m' => r = none ∧ n' = 54 ∧ m' = UN 37) := by
  refine aRuns_of pn_X9_init (Nat.le_of_ble_eq_true rfl) (fun z => aE_loc (ls' := [_]) rfl ?_)
  refine aE_aload_n dX9_init_0 rfl rfl ?_
  refine aE_obj dX9_init_1 ob_X9_1 ⟨by decide, by decide⟩ (Nat.le_of_ble_eq_true rfl) ?_
  refine aE_vret dX9_init_4 rfl ⟨by decide, by decide⟩ ?_
  exact ⟨rfl, rfl, rfl⟩
set_option maxRecDepth 20000 in
theorem ci_1 : aRuns mX0_init { frames := 2, cells := 52, slots := 423, locals := 80 } [.ref 1] 2 (UN 0) (fun r n' m' => r = none ∧ n' = 54 ∧ m' = UN 38) := by
  refine aRuns_of pn_X0_init (Nat.le_of_ble_eq_true rfl) (fun z => aE_loc (ls' := [_, _]) rfl ?_)
  refine aE_aload_n dX0_init_0 rfl rfl ?_
  refine aE_obj dX0_init_1 ob_X0_3 ⟨by decide, by decide⟩ (Nat.le_of_ble_eq_true rfl) ?_
  refine aE_aload_n dX0_init_4 rfl rfl ?_
  refine aE_new (mem' := UN 0) dX0_init_5 cf_10 nw_X0_9 rfl (UN_new tyX10_ok (by decide) (by decide) (by decide +kernel)) (fun _ _ => rfl) (by decide) ⟨by decide, by decide⟩ ?_
  refine aE_dup dX0_init_8 rfl ?_
  refine aE_callI (x := mX10_init) (Rx := { frames := 1, cells := 22, slots := 200, locals := 40 }) (as := []) (b := 2) dX0_init_9 (Or.inr ⟨_, ln_X0_11⟩) mi_X10_init ci_2 rfl (by decide) rfl ⟨by decide, by decide⟩ (Nat.le_of_ble_eq_true rfl) ⟨by decide, by decide⟩ ?_
  rintro r n' m' ⟨rfl, rfl, rfl⟩
  refine aE_putf dX0_init_12 fp_X0_12 (Or.inr rfl) (by decide) rfl (fun g => ⟨rfl, rfl⟩) ?_
  refine aE_mem (UN_put (k := 6) (a := 1) (j := 0) (v := .ref 2) (by decide +kernel) (by decide +kernel) rfl) ?_
  refine aE_aload_n dX0_init_15 rfl rfl ?_
  refine aE_iconst (v := 4) dX0_init_16 rfl ?_
  refine aE_anew (mem' := FX (UN 7) 25 4) (N := 4) dX0_init_17 (Or.inl ⟨rfl, rfl⟩) kl_X0_18 rfl (by decide) rfl (fun j => ?_) (fun q hq => FX_ne (by omega)) (by decide) ⟨by decide, by decide⟩ ?_
  · unfold FX
    by_cases hj : j < 4
    · have key : ∀ j, j < 4 → (25, j) ∈ SEQ.drop 7 := by decide +kernel
      rw [if_neg (by omega)]; exact UN_null (key j hj) (mm_schs hj)
    · rw [if_pos ⟨rfl, by omega⟩]
  refine aE_len (mem' := UN 7) (fun q _ j hj => FX_end (by decide) q j hj) ?_
  refine aE_putf dX0_init_20 fp_X0_20 (Or.inr rfl) (by decide) rfl (fun g => ⟨rfl, rfl⟩) ?_
  refine aE_mem (UN_put (k := 7) (a := 1) (j := 1) (v := .ref 25) (by decide +kernel) (by decide +kernel) rfl) ?_
  refine aE_aload_n dX0_init_23 rfl rfl ?_
  refine aE_iconst (v := 4) dX0_init_24 rfl ?_
  refine aE_newa (mem' := UN 8) (N := 4) dX0_init_25 (Or.inl ⟨rfl, rfl, rfl⟩) ar_i rfl (by decide) rfl (UN_z (N := 4) (Or.inl rfl) (by decide +kernel) (by decide)) (fun _ _ => rfl) (by decide) ⟨by decide, by decide⟩ ?_
  refine aE_putf dX0_init_27 fp_X0_24 (Or.inr rfl) (by decide) rfl (fun g => ⟨rfl, rfl⟩) ?_
  refine aE_mem (UN_put (k := 8) (a := 1) (j := 2) (v := .ref 26) (by decide +kernel) (by decide +kernel) rfl) ?_
  refine aE_aload_n dX0_init_30 rfl rfl ?_
  refine aE_bipush (v := 10) dX0_init_31 (by decide) ?_
  refine aE_anew (mem' := FX (UN 9) 27 10) (N := 10) dX0_init_33 (Or.inr (Or.inl ⟨rfl, rfl⟩)) kl_X0_28 rfl (by decide) rfl (fun j => ?_) (fun q hq => FX_ne (by omega)) (by decide) ⟨by decide, by decide⟩ ?_
  · unfold FX
    by_cases hj : j < 10
    · have key : ∀ j, j < 10 → (27, j) ∈ SEQ.drop 9 := by decide +kernel
      rw [if_neg (by omega)]; exact UN_null (key j hj) (mm_stop)
    · rw [if_pos ⟨rfl, by omega⟩]
  refine aE_len (mem' := UN 9) (fun q _ j hj => FX_end (by decide) q j hj) ?_
  refine aE_putf dX0_init_36 fp_X0_30 (Or.inr rfl) (by decide) rfl (fun g => ⟨rfl, rfl⟩) ?_
  refine aE_mem (UN_put (k := 9) (a := 1) (j := 3) (v := .ref 27) (by decide +kernel) (by decide +kernel) rfl) ?_
  refine aE_aload_n dX0_init_39 rfl rfl ?_
  refine aE_bipush (v := 40) dX0_init_40 (by decide) ?_
  refine aE_putf dX0_init_42 fp_X0_34 (Or.inr rfl) (by decide) rfl (fun g => ⟨rfl, rfl⟩) ?_
  refine aE_mem (UN_put (k := 10) (a := 1) (j := 6) (v := .int 40) (by decide +kernel) (by decide +kernel) rfl) ?_
  refine aE_aload_n dX0_init_45 rfl rfl ?_
  refine aE_bipush (v := 60) dX0_init_46 (by decide) ?_
  refine aE_putf dX0_init_48 fp_X0_38 (Or.inr rfl) (by decide) rfl (fun g => ⟨rfl, rfl⟩) ?_
  refine aE_mem (UN_put (k := 11) (a := 1) (j := 7) (v := .int 60) (by decide +kernel) (by decide +kernel) rfl) ?_
  refine aE_iconst (v := 0) dX0_init_51 rfl ?_
  refine aE_top (x' := nI 0) rfl ?_
  refine aE_istore_n dX0_init_52 rfl (by decide) rfl (aE_loc (ls' := [_, _]) rfl ?_)
  refine aE_iload_n dX0_init_53 rfl rfl ?_
  refine aE_iconst (v := 4) dX0_init_54 rfl ?_
  refine aE_icmp_ge (tgt := 77) dX0_init_55 (by decide) (fun h => absurd h (by decide)) (fun _ => ?_)
  refine aE_aload_n dX0_init_58 rfl rfl ?_
  refine aE_getf (v := .ref 25) dX0_init_59 fw_X0_20 (by decide) rfl ((UN_out (by decide +kernel)).trans rfl) ?_
  refine aE_iload_n dX0_init_62 rfl rfl ?_
  refine aE_new (mem' := UN 12) dX0_init_63 cf_7 nw_X0_18 rfl (UN_new tyX7_ok (by decide) (by decide) (by decide +kernel)) (fun _ _ => rfl) (by decide) ⟨by decide, by decide⟩ ?_
  refine aE_dup dX0_init_66 rfl ?_
  refine aE_callI (x := mX7_init) (Rx := { frames := 1, cells := 3, slots := 31, locals := 40 }) (as := []) (b := 28) dX0_init_67 (Or.inr ⟨_, ln_X0_41⟩) mi_X7_init ci_28 rfl (by decide) rfl ⟨by decide, by decide⟩ (Nat.le_of_ble_eq_true rfl) ⟨by decide, by decide⟩ ?_
  rintro r n' m' ⟨rfl, rfl, rfl⟩
  refine aE_aast (t := 2) (j := 0) dX0_init_70 (by decide) (by decide) (Or.inl ⟨rfl, rfl⟩) rfl rfl ⟨rfl, by decide⟩ (by decide) rfl (by decide) ?_
  refine aE_mem (UN_put (k := 15) (a := 25) (j := 0) (v := .ref 28) (by decide +kernel) (by decide +kernel) rfl) ?_
  refine aE_iinc dX0_init_71 rfl (a_inc 0) (by decide) rfl (aE_loc (ls' := [_, _]) rfl ?_)
  refine aE_goto (tgt := 53) dX0_init_74 (by decide) ?_
  refine aE_iload_n dX0_init_53 rfl rfl ?_
  refine aE_iconst (v := 4) dX0_init_54 rfl ?_
  refine aE_icmp_ge (tgt := 77) dX0_init_55 (by decide) (fun h => absurd h (by decide)) (fun _ => ?_)
  refine aE_aload_n dX0_init_58 rfl rfl ?_
  refine aE_getf (v := .ref 25) dX0_init_59 fw_X0_20 (by decide) rfl ((UN_out (by decide +kernel)).trans rfl) ?_
  refine aE_iload_n dX0_init_62 rfl rfl ?_
  refine aE_new (mem' := UN 16) dX0_init_63 cf_7 nw_X0_18 rfl (UN_new tyX7_ok (by decide) (by decide) (by decide +kernel)) (fun _ _ => rfl) (by decide) ⟨by decide, by decide⟩ ?_
  refine aE_dup dX0_init_66 rfl ?_
  refine aE_callI (x := mX7_init) (Rx := { frames := 1, cells := 3, slots := 31, locals := 40 }) (as := []) (b := 32) dX0_init_67 (Or.inr ⟨_, ln_X0_41⟩) mi_X7_init ci_32 rfl (by decide) rfl ⟨by decide, by decide⟩ (Nat.le_of_ble_eq_true rfl) ⟨by decide, by decide⟩ ?_
  rintro r n' m' ⟨rfl, rfl, rfl⟩
  refine aE_aast (t := 2) (j := 1) dX0_init_70 (by decide) (by decide) (Or.inl ⟨rfl, rfl⟩) rfl rfl ⟨rfl, by decide⟩ (by decide) rfl (by decide) ?_
  refine aE_mem (UN_put (k := 19) (a := 25) (j := 1) (v := .ref 32) (by decide +kernel) (by decide +kernel) rfl) ?_
  refine aE_iinc dX0_init_71 rfl (a_inc 1) (by decide) rfl (aE_loc (ls' := [_, _]) rfl ?_)
  refine aE_goto (tgt := 53) dX0_init_74 (by decide) ?_
  refine aE_iload_n dX0_init_53 rfl rfl ?_
  refine aE_iconst (v := 4) dX0_init_54 rfl ?_
  refine aE_icmp_ge (tgt := 77) dX0_init_55 (by decide) (fun h => absurd h (by decide)) (fun _ => ?_)
  refine aE_aload_n dX0_init_58 rfl rfl ?_
  refine aE_getf (v := .ref 25) dX0_init_59 fw_X0_20 (by decide) rfl ((UN_out (by decide +kernel)).trans rfl) ?_
  refine aE_iload_n dX0_init_62 rfl rfl ?_
  refine aE_new (mem' := UN 20) dX0_init_63 cf_7 nw_X0_18 rfl (UN_new tyX7_ok (by decide) (by decide) (by decide +kernel)) (fun _ _ => rfl) (by decide) ⟨by decide, by decide⟩ ?_
  refine aE_dup dX0_init_66 rfl ?_
  refine aE_callI (x := mX7_init) (Rx := { frames := 1, cells := 3, slots := 31, locals := 40 }) (as := []) (b := 36) dX0_init_67 (Or.inr ⟨_, ln_X0_41⟩) mi_X7_init ci_36 rfl (by decide) rfl ⟨by decide, by decide⟩ (Nat.le_of_ble_eq_true rfl) ⟨by decide, by decide⟩ ?_
  rintro r n' m' ⟨rfl, rfl, rfl⟩
  refine aE_aast (t := 2) (j := 2) dX0_init_70 (by decide) (by decide) (Or.inl ⟨rfl, rfl⟩) rfl rfl ⟨rfl, by decide⟩ (by decide) rfl (by decide) ?_
  refine aE_mem (UN_put (k := 23) (a := 25) (j := 2) (v := .ref 36) (by decide +kernel) (by decide +kernel) rfl) ?_
  refine aE_iinc dX0_init_71 rfl (a_inc 2) (by decide) rfl (aE_loc (ls' := [_, _]) rfl ?_)
  refine aE_goto (tgt := 53) dX0_init_74 (by decide) ?_
  refine aE_iload_n dX0_init_53 rfl rfl ?_
  refine aE_iconst (v := 4) dX0_init_54 rfl ?_
  refine aE_icmp_ge (tgt := 77) dX0_init_55 (by decide) (fun h => absurd h (by decide)) (fun _ => ?_)
  refine aE_aload_n dX0_init_58 rfl rfl ?_
  refine aE_getf (v := .ref 25) dX0_init_59 fw_X0_20 (by decide) rfl ((UN_out (by decide +kernel)).trans rfl) ?_
  refine aE_iload_n dX0_init_62 rfl rfl ?_
  refine aE_new (mem' := UN 24) dX0_init_63 cf_7 nw_X0_18 rfl (UN_new tyX7_ok (by decide) (by decide) (by decide +kernel)) (fun _ _ => rfl) (by decide) ⟨by decide, by decide⟩ ?_
  refine aE_dup dX0_init_66 rfl ?_
  refine aE_callI (x := mX7_init) (Rx := { frames := 1, cells := 3, slots := 31, locals := 40 }) (as := []) (b := 40) dX0_init_67 (Or.inr ⟨_, ln_X0_41⟩) mi_X7_init ci_40 rfl (by decide) rfl ⟨by decide, by decide⟩ (Nat.le_of_ble_eq_true rfl) ⟨by decide, by decide⟩ ?_
  rintro r n' m' ⟨rfl, rfl, rfl⟩
  refine aE_aast (t := 2) (j := 3) dX0_init_70 (by decide) (by decide) (Or.inl ⟨rfl, rfl⟩) rfl rfl ⟨rfl, by decide⟩ (by decide) rfl (by decide) ?_
  refine aE_mem (UN_put (k := 27) (a := 25) (j := 3) (v := .ref 40) (by decide +kernel) (by decide +kernel) rfl) ?_
  refine aE_iinc dX0_init_71 rfl (a_inc 3) (by decide) rfl (aE_loc (ls' := [_, _]) rfl ?_)
  refine aE_goto (tgt := 53) dX0_init_74 (by decide) ?_
  refine aE_iload_n dX0_init_53 rfl rfl ?_
  refine aE_iconst (v := 4) dX0_init_54 rfl ?_
  refine aE_icmp_ge (tgt := 77) dX0_init_55 (by decide) (fun _ => ?_) (fun h => absurd (by decide) h)
  refine aE_iconst (v := 0) dX0_init_77 rfl ?_
  refine aE_top (x' := nI 0) rfl ?_
  refine aE_istore_n dX0_init_78 rfl (by decide) rfl (aE_loc (ls' := [_, _]) rfl ?_)
  refine aE_iload_n dX0_init_79 rfl rfl ?_
  refine aE_bipush (v := 10) dX0_init_80 (by decide) ?_
  refine aE_icmp_ge (tgt := 104) dX0_init_82 (by decide) (fun h => absurd h (by decide)) (fun _ => ?_)
  refine aE_aload_n dX0_init_85 rfl rfl ?_
  refine aE_getf (v := .ref 27) dX0_init_86 fw_X0_30 (by decide) rfl ((UN_out (by decide +kernel)).trans rfl) ?_
  refine aE_iload_n dX0_init_89 rfl rfl ?_
  refine aE_new (mem' := UN 28) dX0_init_90 cf_9 nw_X0_28 rfl (UN_new tyX9_ok (by decide) (by decide) (by decide +kernel)) (fun _ _ => rfl) (by decide) ⟨by decide, by decide⟩ ?_
  refine aE_dup dX0_init_93 rfl ?_
  refine aE_callI (x := mX9_init) (Rx := { frames := 1, cells := 0, slots := 0, locals := 40 }) (as := []) (b := 44) dX0_init_94 (Or.inr ⟨_, ln_X0_42⟩) mi_X9_init ci_44 rfl (by decide) rfl ⟨by decide, by decide⟩ (Nat.le_of_ble_eq_true rfl) ⟨by decide, by decide⟩ ?_
  rintro r n' m' ⟨rfl, rfl, rfl⟩
  refine aE_aast (t := 3) (j := 0) dX0_init_97 (by decide) (by decide) (Or.inr (Or.inl ⟨rfl, rfl⟩)) rfl rfl ⟨rfl, by decide⟩ (by decide) rfl (by decide) ?_
  refine aE_mem (UN_put (k := 28) (a := 27) (j := 0) (v := .ref 44) (by decide +kernel) (by decide +kernel) rfl) ?_
  refine aE_iinc dX0_init_98 rfl (a_inc 0) (by decide) rfl (aE_loc (ls' := [_, _]) rfl ?_)
  refine aE_goto (tgt := 79) dX0_init_101 (by decide) ?_
  refine aE_iload_n dX0_init_79 rfl rfl ?_
  refine aE_bipush (v := 10) dX0_init_80 (by decide) ?_
  refine aE_icmp_ge (tgt := 104) dX0_init_82 (by decide) (fun h => absurd h (by decide)) (fun _ => ?_)
  refine aE_aload_n dX0_init_85 rfl rfl ?_
  refine aE_getf (v := .ref 27) dX0_init_86 fw_X0_30 (by decide) rfl ((UN_out (by decide +kernel)).trans rfl) ?_
  refine aE_iload_n dX0_init_89 rfl rfl ?_
  refine aE_new (mem' := UN 29) dX0_init_90 cf_9 nw_X0_28 rfl (UN_new tyX9_ok (by decide) (by decide) (by decide +kernel)) (fun _ _ => rfl) (by decide) ⟨by decide, by decide⟩ ?_
  refine aE_dup dX0_init_93 rfl ?_
  refine aE_callI (x := mX9_init) (Rx := { frames := 1, cells := 0, slots := 0, locals := 40 }) (as := []) (b := 45) dX0_init_94 (Or.inr ⟨_, ln_X0_42⟩) mi_X9_init ci_45 rfl (by decide) rfl ⟨by decide, by decide⟩ (Nat.le_of_ble_eq_true rfl) ⟨by decide, by decide⟩ ?_
  rintro r n' m' ⟨rfl, rfl, rfl⟩
  refine aE_aast (t := 3) (j := 1) dX0_init_97 (by decide) (by decide) (Or.inr (Or.inl ⟨rfl, rfl⟩)) rfl rfl ⟨rfl, by decide⟩ (by decide) rfl (by decide) ?_
  refine aE_mem (UN_put (k := 29) (a := 27) (j := 1) (v := .ref 45) (by decide +kernel) (by decide +kernel) rfl) ?_
  refine aE_iinc dX0_init_98 rfl (a_inc 1) (by decide) rfl (aE_loc (ls' := [_, _]) rfl ?_)
  refine aE_goto (tgt := 79) dX0_init_101 (by decide) ?_
  refine aE_iload_n dX0_init_79 rfl rfl ?_
  refine aE_bipush (v := 10) dX0_init_80 (by decide) ?_
  refine aE_icmp_ge (tgt := 104) dX0_init_82 (by decide) (fun h => absurd h (by decide)) (fun _ => ?_)
  refine aE_aload_n dX0_init_85 rfl rfl ?_
  refine aE_getf (v := .ref 27) dX0_init_86 fw_X0_30 (by decide) rfl ((UN_out (by decide +kernel)).trans rfl) ?_
  refine aE_iload_n dX0_init_89 rfl rfl ?_
  refine aE_new (mem' := UN 30) dX0_init_90 cf_9 nw_X0_28 rfl (UN_new tyX9_ok (by decide) (by decide) (by decide +kernel)) (fun _ _ => rfl) (by decide) ⟨by decide, by decide⟩ ?_
  refine aE_dup dX0_init_93 rfl ?_
  refine aE_callI (x := mX9_init) (Rx := { frames := 1, cells := 0, slots := 0, locals := 40 }) (as := []) (b := 46) dX0_init_94 (Or.inr ⟨_, ln_X0_42⟩) mi_X9_init ci_46 rfl (by decide) rfl ⟨by decide, by decide⟩ (Nat.le_of_ble_eq_true rfl) ⟨by decide, by decide⟩ ?_
  rintro r n' m' ⟨rfl, rfl, rfl⟩
  refine aE_aast (t := 3) (j := 2) dX0_init_97 (by decide) (by decide) (Or.inr (Or.inl ⟨rfl, rfl⟩)) rfl rfl ⟨rfl, by decide⟩ (by decide) rfl (by decide) ?_
  refine aE_mem (UN_put (k := 30) (a := 27) (j := 2) (v := .ref 46) (by decide +kernel) (by decide +kernel) rfl) ?_
  refine aE_iinc dX0_init_98 rfl (a_inc 2) (by decide) rfl (aE_loc (ls' := [_, _]) rfl ?_)
  refine aE_goto (tgt := 79) dX0_init_101 (by decide) ?_
  refine aE_iload_n dX0_init_79 rfl rfl ?_
  refine aE_bipush (v := 10) dX0_init_80 (by decide) ?_
  refine aE_icmp_ge (tgt := 104) dX0_init_82 (by decide) (fun h => absurd h (by decide)) (fun _ => ?_)
  refine aE_aload_n dX0_init_85 rfl rfl ?_
  refine aE_getf (v := .ref 27) dX0_init_86 fw_X0_30 (by decide) rfl ((UN_out (by decide +kernel)).trans rfl) ?_
  refine aE_iload_n dX0_init_89 rfl rfl ?_
  refine aE_new (mem' := UN 31) dX0_init_90 cf_9 nw_X0_28 rfl (UN_new tyX9_ok (by decide) (by decide) (by decide +kernel)) (fun _ _ => rfl) (by decide) ⟨by decide, by decide⟩ ?_
  refine aE_dup dX0_init_93 rfl ?_
  refine aE_callI (x := mX9_init) (Rx := { frames := 1, cells := 0, slots := 0, locals := 40 }) (as := []) (b := 47) dX0_init_94 (Or.inr ⟨_, ln_X0_42⟩) mi_X9_init ci_47 rfl (by decide) rfl ⟨by decide, by decide⟩ (Nat.le_of_ble_eq_true rfl) ⟨by decide, by decide⟩ ?_
  rintro r n' m' ⟨rfl, rfl, rfl⟩
  refine aE_aast (t := 3) (j := 3) dX0_init_97 (by decide) (by decide) (Or.inr (Or.inl ⟨rfl, rfl⟩)) rfl rfl ⟨rfl, by decide⟩ (by decide) rfl (by decide) ?_
  refine aE_mem (UN_put (k := 31) (a := 27) (j := 3) (v := .ref 47) (by decide +kernel) (by decide +kernel) rfl) ?_
  refine aE_iinc dX0_init_98 rfl (a_inc 3) (by decide) rfl (aE_loc (ls' := [_, _]) rfl ?_)
  refine aE_goto (tgt := 79) dX0_init_101 (by decide) ?_
  refine aE_iload_n dX0_init_79 rfl rfl ?_
  refine aE_bipush (v := 10) dX0_init_80 (by decide) ?_
  refine aE_icmp_ge (tgt := 104) dX0_init_82 (by decide) (fun h => absurd h (by decide)) (fun _ => ?_)
  refine aE_aload_n dX0_init_85 rfl rfl ?_
  refine aE_getf (v := .ref 27) dX0_init_86 fw_X0_30 (by decide) rfl ((UN_out (by decide +kernel)).trans rfl) ?_
  refine aE_iload_n dX0_init_89 rfl rfl ?_
  refine aE_new (mem' := UN 32) dX0_init_90 cf_9 nw_X0_28 rfl (UN_new tyX9_ok (by decide) (by decide) (by decide +kernel)) (fun _ _ => rfl) (by decide) ⟨by decide, by decide⟩ ?_
  refine aE_dup dX0_init_93 rfl ?_
  refine aE_callI (x := mX9_init) (Rx := { frames := 1, cells := 0, slots := 0, locals := 40 }) (as := []) (b := 48) dX0_init_94 (Or.inr ⟨_, ln_X0_42⟩) mi_X9_init ci_48 rfl (by decide) rfl ⟨by decide, by decide⟩ (Nat.le_of_ble_eq_true rfl) ⟨by decide, by decide⟩ ?_
  rintro r n' m' ⟨rfl, rfl, rfl⟩
  refine aE_aast (t := 3) (j := 4) dX0_init_97 (by decide) (by decide) (Or.inr (Or.inl ⟨rfl, rfl⟩)) rfl rfl ⟨rfl, by decide⟩ (by decide) rfl (by decide) ?_
  refine aE_mem (UN_put (k := 32) (a := 27) (j := 4) (v := .ref 48) (by decide +kernel) (by decide +kernel) rfl) ?_
  refine aE_iinc dX0_init_98 rfl (a_inc 4) (by decide) rfl (aE_loc (ls' := [_, _]) rfl ?_)
  refine aE_goto (tgt := 79) dX0_init_101 (by decide) ?_
  refine aE_iload_n dX0_init_79 rfl rfl ?_
  refine aE_bipush (v := 10) dX0_init_80 (by decide) ?_
  refine aE_icmp_ge (tgt := 104) dX0_init_82 (by decide) (fun h => absurd h (by decide)) (fun _ => ?_)
  refine aE_aload_n dX0_init_85 rfl rfl ?_
  refine aE_getf (v := .ref 27) dX0_init_86 fw_X0_30 (by decide) rfl ((UN_out (by decide +kernel)).trans rfl) ?_
  refine aE_iload_n dX0_init_89 rfl rfl ?_
  refine aE_new (mem' := UN 33) dX0_init_90 cf_9 nw_X0_28 rfl (UN_new tyX9_ok (by decide) (by decide) (by decide +kernel)) (fun _ _ => rfl) (by decide) ⟨by decide, by decide⟩ ?_
  refine aE_dup dX0_init_93 rfl ?_
  refine aE_callI (x := mX9_init) (Rx := { frames := 1, cells := 0, slots := 0, locals := 40 }) (as := []) (b := 49) dX0_init_94 (Or.inr ⟨_, ln_X0_42⟩) mi_X9_init ci_49 rfl (by decide) rfl ⟨by decide, by decide⟩ (Nat.le_of_ble_eq_true rfl) ⟨by decide, by decide⟩ ?_
  rintro r n' m' ⟨rfl, rfl, rfl⟩
  refine aE_aast (t := 3) (j := 5) dX0_init_97 (by decide) (by decide) (Or.inr (Or.inl ⟨rfl, rfl⟩)) rfl rfl ⟨rfl, by decide⟩ (by decide) rfl (by decide) ?_
  refine aE_mem (UN_put (k := 33) (a := 27) (j := 5) (v := .ref 49) (by decide +kernel) (by decide +kernel) rfl) ?_
  refine aE_iinc dX0_init_98 rfl (a_inc 5) (by decide) rfl (aE_loc (ls' := [_, _]) rfl ?_)
  refine aE_goto (tgt := 79) dX0_init_101 (by decide) ?_
  refine aE_iload_n dX0_init_79 rfl rfl ?_
  refine aE_bipush (v := 10) dX0_init_80 (by decide) ?_
  refine aE_icmp_ge (tgt := 104) dX0_init_82 (by decide) (fun h => absurd h (by decide)) (fun _ => ?_)
  refine aE_aload_n dX0_init_85 rfl rfl ?_
  refine aE_getf (v := .ref 27) dX0_init_86 fw_X0_30 (by decide) rfl ((UN_out (by decide +kernel)).trans rfl) ?_
  refine aE_iload_n dX0_init_89 rfl rfl ?_
  refine aE_new (mem' := UN 34) dX0_init_90 cf_9 nw_X0_28 rfl (UN_new tyX9_ok (by decide) (by decide) (by decide +kernel)) (fun _ _ => rfl) (by decide) ⟨by decide, by decide⟩ ?_
  refine aE_dup dX0_init_93 rfl ?_
  refine aE_callI (x := mX9_init) (Rx := { frames := 1, cells := 0, slots := 0, locals := 40 }) (as := []) (b := 50) dX0_init_94 (Or.inr ⟨_, ln_X0_42⟩) mi_X9_init ci_50 rfl (by decide) rfl ⟨by decide, by decide⟩ (Nat.le_of_ble_eq_true rfl) ⟨by decide, by decide⟩ ?_
  rintro r n' m' ⟨rfl, rfl, rfl⟩
  refine aE_aast (t := 3) (j := 6) dX0_init_97 (by decide) (by decide) (Or.inr (Or.inl ⟨rfl, rfl⟩)) rfl rfl ⟨rfl, by decide⟩ (by decide) rfl (by decide) ?_
  refine aE_mem (UN_put (k := 34) (a := 27) (j := 6) (v := .ref 50) (by decide +kernel) (by decide +kernel) rfl) ?_
  refine aE_iinc dX0_init_98 rfl (a_inc 6) (by decide) rfl (aE_loc (ls' := [_, _]) rfl ?_)
  refine aE_goto (tgt := 79) dX0_init_101 (by decide) ?_
  refine aE_iload_n dX0_init_79 rfl rfl ?_
  refine aE_bipush (v := 10) dX0_init_80 (by decide) ?_
  refine aE_icmp_ge (tgt := 104) dX0_init_82 (by decide) (fun h => absurd h (by decide)) (fun _ => ?_)
  refine aE_aload_n dX0_init_85 rfl rfl ?_
  refine aE_getf (v := .ref 27) dX0_init_86 fw_X0_30 (by decide) rfl ((UN_out (by decide +kernel)).trans rfl) ?_
  refine aE_iload_n dX0_init_89 rfl rfl ?_
  refine aE_new (mem' := UN 35) dX0_init_90 cf_9 nw_X0_28 rfl (UN_new tyX9_ok (by decide) (by decide) (by decide +kernel)) (fun _ _ => rfl) (by decide) ⟨by decide, by decide⟩ ?_
  refine aE_dup dX0_init_93 rfl ?_
  refine aE_callI (x := mX9_init) (Rx := { frames := 1, cells := 0, slots := 0, locals := 40 }) (as := []) (b := 51) dX0_init_94 (Or.inr ⟨_, ln_X0_42⟩) mi_X9_init ci_51 rfl (by decide) rfl ⟨by decide, by decide⟩ (Nat.le_of_ble_eq_true rfl) ⟨by decide, by decide⟩ ?_
  rintro r n' m' ⟨rfl, rfl, rfl⟩
  refine aE_aast (t := 3) (j := 7) dX0_init_97 (by decide) (by decide) (Or.inr (Or.inl ⟨rfl, rfl⟩)) rfl rfl ⟨rfl, by decide⟩ (by decide) rfl (by decide) ?_
  refine aE_mem (UN_put (k := 35) (a := 27) (j := 7) (v := .ref 51) (by decide +kernel) (by decide +kernel) rfl) ?_
  refine aE_iinc dX0_init_98 rfl (a_inc 7) (by decide) rfl (aE_loc (ls' := [_, _]) rfl ?_)
  refine aE_goto (tgt := 79) dX0_init_101 (by decide) ?_
  refine aE_iload_n dX0_init_79 rfl rfl ?_
  refine aE_bipush (v := 10) dX0_init_80 (by decide) ?_
  refine aE_icmp_ge (tgt := 104) dX0_init_82 (by decide) (fun h => absurd h (by decide)) (fun _ => ?_)
  refine aE_aload_n dX0_init_85 rfl rfl ?_
  refine aE_getf (v := .ref 27) dX0_init_86 fw_X0_30 (by decide) rfl ((UN_out (by decide +kernel)).trans rfl) ?_
  refine aE_iload_n dX0_init_89 rfl rfl ?_
  refine aE_new (mem' := UN 36) dX0_init_90 cf_9 nw_X0_28 rfl (UN_new tyX9_ok (by decide) (by decide) (by decide +kernel)) (fun _ _ => rfl) (by decide) ⟨by decide, by decide⟩ ?_
  refine aE_dup dX0_init_93 rfl ?_
  refine aE_callI (x := mX9_init) (Rx := { frames := 1, cells := 0, slots := 0, locals := 40 }) (as := []) (b := 52) dX0_init_94 (Or.inr ⟨_, ln_X0_42⟩) mi_X9_init ci_52 rfl (by decide) rfl ⟨by decide, by decide⟩ (Nat.le_of_ble_eq_true rfl) ⟨by decide, by decide⟩ ?_
  rintro r n' m' ⟨rfl, rfl, rfl⟩
  refine aE_aast (t := 3) (j := 8) dX0_init_97 (by decide) (by decide) (Or.inr (Or.inl ⟨rfl, rfl⟩)) rfl rfl ⟨rfl, by decide⟩ (by decide) rfl (by decide) ?_
  refine aE_mem (UN_put (k := 36) (a := 27) (j := 8) (v := .ref 52) (by decide +kernel) (by decide +kernel) rfl) ?_
  refine aE_iinc dX0_init_98 rfl (a_inc 8) (by decide) rfl (aE_loc (ls' := [_, _]) rfl ?_)
  refine aE_goto (tgt := 79) dX0_init_101 (by decide) ?_
  refine aE_iload_n dX0_init_79 rfl rfl ?_
  refine aE_bipush (v := 10) dX0_init_80 (by decide) ?_
  refine aE_icmp_ge (tgt := 104) dX0_init_82 (by decide) (fun h => absurd h (by decide)) (fun _ => ?_)
  refine aE_aload_n dX0_init_85 rfl rfl ?_
  refine aE_getf (v := .ref 27) dX0_init_86 fw_X0_30 (by decide) rfl ((UN_out (by decide +kernel)).trans rfl) ?_
  refine aE_iload_n dX0_init_89 rfl rfl ?_
  refine aE_new (mem' := UN 37) dX0_init_90 cf_9 nw_X0_28 rfl (UN_new tyX9_ok (by decide) (by decide) (by decide +kernel)) (fun _ _ => rfl) (by decide) ⟨by decide, by decide⟩ ?_
  refine aE_dup dX0_init_93 rfl ?_
  refine aE_callI (x := mX9_init) (Rx := { frames := 1, cells := 0, slots := 0, locals := 40 }) (as := []) (b := 53) dX0_init_94 (Or.inr ⟨_, ln_X0_42⟩) mi_X9_init ci_53 rfl (by decide) rfl ⟨by decide, by decide⟩ (Nat.le_of_ble_eq_true rfl) ⟨by decide, by decide⟩ ?_
  rintro r n' m' ⟨rfl, rfl, rfl⟩
  refine aE_aast (t := 3) (j := 9) dX0_init_97 (by decide) (by decide) (Or.inr (Or.inl ⟨rfl, rfl⟩)) rfl rfl ⟨rfl, by decide⟩ (by decide) rfl (by decide) ?_
  refine aE_mem (UN_put (k := 37) (a := 27) (j := 9) (v := .ref 53) (by decide +kernel) (by decide +kernel) rfl) ?_
  refine aE_iinc dX0_init_98 rfl (a_inc 9) (by decide) rfl (aE_loc (ls' := [_, _]) rfl ?_)
  refine aE_goto (tgt := 79) dX0_init_101 (by decide) ?_
  refine aE_iload_n dX0_init_79 rfl rfl ?_
  refine aE_bipush (v := 10) dX0_init_80 (by decide) ?_
  refine aE_icmp_ge (tgt := 104) dX0_init_82 (by decide) (fun _ => ?_) (fun h => absurd (by decide) h)
  refine aE_vret dX0_init_104 rfl ⟨by decide, by decide⟩ ?_
  exact ⟨rfl, rfl, rfl⟩
set_option maxRecDepth 20000 in
theorem ci_69 : aRuns mX3_init { frames := 1, cells := 5, slots := 50, locals := 40 } [.ref 69] 70 (UN 43) (fun r n' m' => r = none ∧ n' = 75 ∧ m' = UN 48) := by
  refine aRuns_of pn_X3_init (Nat.le_of_ble_eq_true rfl) (fun z => aE_loc (ls' := [_]) rfl ?_)
  refine aE_aload_n dX3_init_0 rfl rfl ?_
  refine aE_obj dX3_init_1 ob_X3_3 ⟨by decide, by decide⟩ (Nat.le_of_ble_eq_true rfl) ?_
  refine aE_aload_n dX3_init_4 rfl rfl ?_
  refine aE_bipush (v := 10) dX3_init_5 (by decide) ?_
  refine aE_newa (mem' := UN 43) (N := 10) dX3_init_7 (Or.inl ⟨rfl, rfl, rfl⟩) ar_i rfl (by decide) rfl (UN_z (N := 10) (Or.inl rfl) (by decide +kernel) (by decide)) (fun _ _ => rfl) (by decide) ⟨by decide, by decide⟩ ?_
  refine aE_putf dX3_init_9 fp_X3_9 (Or.inr rfl) (by decide) rfl (fun g => ⟨rfl, rfl⟩) ?_
  refine aE_mem (UN_put (k := 43) (a := 69) (j := 1) (v := .ref 70) (by decide +kernel) (by decide +kernel) rfl) ?_
  refine aE_aload_n dX3_init_12 rfl rfl ?_
  refine aE_bipush (v := 10) dX3_init_13 (by decide) ?_
  refine aE_newa (mem' := UN 44) (N := 10) dX3_init_15 (Or.inl ⟨rfl, rfl, rfl⟩) ar_i rfl (by decide) rfl (UN_z (N := 10) (Or.inl rfl) (by decide +kernel) (by decide)) (fun _ _ => rfl) (by decide) ⟨by decide, by decide⟩ ?_
  refine aE_putf dX3_init_17 fp_X3_15 (Or.inr rfl) (by decide) rfl (fun g => ⟨rfl, rfl⟩) ?_
  refine aE_mem (UN_put (k := 44) (a := 69) (j := 2) (v := .ref 71) (by decide +kernel) (by decide +kernel) rfl) ?_
  refine aE_aload_n dX3_init_20 rfl rfl ?_
  refine aE_bipush (v := 10) dX3_init_21 (by decide) ?_
  refine aE_newa (mem' := UN 45) (N := 10) dX3_init_23 (Or.inl ⟨rfl, rfl, rfl⟩) ar_i rfl (by decide) rfl (UN_z (N := 10) (Or.inl rfl) (by decide +kernel) (by decide)) (fun _ _ => rfl) (by decide) ⟨by decide, by decide⟩ ?_
  refine aE_putf dX3_init_25 fp_X3_18 (Or.inr rfl) (by decide) rfl (fun g => ⟨rfl, rfl⟩) ?_
  refine aE_mem (UN_put (k := 45) (a := 69) (j := 3) (v := .ref 72) (by decide +kernel) (by decide +kernel) rfl) ?_
  refine aE_aload_n dX3_init_28 rfl rfl ?_
  refine aE_bipush (v := 10) dX3_init_29 (by decide) ?_
  refine aE_newa (mem' := UN 46) (N := 10) dX3_init_31 (Or.inl ⟨rfl, rfl, rfl⟩) ar_i rfl (by decide) rfl (UN_z (N := 10) (Or.inl rfl) (by decide +kernel) (by decide)) (fun _ _ => rfl) (by decide) ⟨by decide, by decide⟩ ?_
  refine aE_putf dX3_init_33 fp_X3_21 (Or.inr rfl) (by decide) rfl (fun g => ⟨rfl, rfl⟩) ?_
  refine aE_mem (UN_put (k := 46) (a := 69) (j := 4) (v := .ref 73) (by decide +kernel) (by decide +kernel) rfl) ?_
  refine aE_aload_n dX3_init_36 rfl rfl ?_
  refine aE_bipush (v := 10) dX3_init_37 (by decide) ?_
  refine aE_newa (mem' := UN 47) (N := 10) dX3_init_39 (Or.inl ⟨rfl, rfl, rfl⟩) ar_i rfl (by decide) rfl (UN_z (N := 10) (Or.inl rfl) (by decide +kernel) (by decide)) (fun _ _ => rfl) (by decide) ⟨by decide, by decide⟩ ?_
  refine aE_putf dX3_init_41 fp_X3_24 (Or.inr rfl) (by decide) rfl (fun g => ⟨rfl, rfl⟩) ?_
  refine aE_mem (UN_put (k := 47) (a := 69) (j := 5) (v := .ref 74) (by decide +kernel) (by decide +kernel) rfl) ?_
  refine aE_vret dX3_init_44 rfl ⟨by decide, by decide⟩ ?_
  exact ⟨rfl, rfl, rfl⟩
set_option maxRecDepth 20000 in
theorem ci_54 : aRuns mX1_init { frames := 2, cells := 20, slots := 196, locals := 80 } [.ref 54] 55 (UN 39) (fun r n' m' => r = none ∧ n' = 75 ∧ m' = UN 49) := by
  refine aRuns_of pn_X1_init (Nat.le_of_ble_eq_true rfl) (fun z => aE_loc (ls' := [_]) rfl ?_)
  refine aE_aload_n dX1_init_0 rfl rfl ?_
  refine aE_obj dX1_init_1 ob_X1_3 ⟨by decide, by decide⟩ (Nat.le_of_ble_eq_true rfl) ?_
  refine aE_aload_n dX1_init_4 rfl rfl ?_
  refine aE_bipush (v := 10) dX1_init_5 (by decide) ?_
  refine aE_newa (mem' := UN 39) (N := 10) dX1_init_7 (Or.inl ⟨rfl, rfl, rfl⟩) ar_i rfl (by decide) rfl (UN_z (N := 10) (Or.inl rfl) (by decide +kernel) (by decide)) (fun _ _ => rfl) (by decide) ⟨by decide, by decide⟩ ?_
  refine aE_putf dX1_init_9 fp_X1_9 (Or.inr rfl) (by decide) rfl (fun g => ⟨rfl, rfl⟩) ?_
  refine aE_mem (UN_put (k := 39) (a := 54) (j := 3) (v := .ref 55) (by decide +kernel) (by decide +kernel) rfl) ?_
  refine aE_aload_n dX1_init_12 rfl rfl ?_
  refine aE_bipush (v := 10) dX1_init_13 (by decide) ?_
  refine aE_newa (mem' := UN 40) (N := 10) dX1_init_15 (Or.inl ⟨rfl, rfl, rfl⟩) ar_i rfl (by decide) rfl (UN_z (N := 10) (Or.inl rfl) (by decide +kernel) (by decide)) (fun _ _ => rfl) (by decide) ⟨by decide, by decide⟩ ?_
  refine aE_putf dX1_init_17 fp_X1_15 (Or.inr rfl) (by decide) rfl (fun g => ⟨rfl, rfl⟩) ?_
  refine aE_mem (UN_put (k := 40) (a := 54) (j := 4) (v := .ref 56) (by decide +kernel) (by decide +kernel) rfl) ?_
  refine aE_aload_n dX1_init_20 rfl rfl ?_
  refine aE_bipush (v := 10) dX1_init_21 (by decide) ?_
  refine aE_newa (mem' := UN 41) (N := 10) dX1_init_23 (Or.inl ⟨rfl, rfl, rfl⟩) ar_i rfl (by decide) rfl (UN_z (N := 10) (Or.inl rfl) (by decide +kernel) (by decide)) (fun _ _ => rfl) (by decide) ⟨by decide, by decide⟩ ?_
  refine aE_putf dX1_init_25 fp_X1_18 (Or.inr rfl) (by decide) rfl (fun g => ⟨rfl, rfl⟩) ?_
  refine aE_mem (UN_put (k := 41) (a := 54) (j := 5) (v := .ref 57) (by decide +kernel) (by decide +kernel) rfl) ?_
  refine aE_aload_n dX1_init_28 rfl rfl ?_
  refine aE_bipush (v := 10) dX1_init_29 (by decide) ?_
  refine aE_bipush (v := 10) dX1_init_31 (by decide) ?_
  refine aE_mna (mem' := FX (UN 42) 58 10) (N := 10) (M := 10) dX1_init_33 ⟨kl_X1_21, ar_i⟩ rfl rfl (by decide) rfl (by decide +kernel) (fun q => ?_) (fun q hq b => ?_) (fun q hq => FX_ne (by omega)) (by decide) ⟨by decide, by decide⟩ ?_
  · unfold FX; by_cases hq : q < 10
    · rw [if_neg (by omega), if_pos hq, UN_row (by decide +kernel)]; exact mm_gap hq
    · rw [if_pos (by omega), if_neg hq]
  · rw [FX_ne (by omega)]; exact UN_z (N := 10) (Or.inl (sh_gap hq)) (UN_sh (N := 10) (Or.inl (sh_gap hq))) (by omega) b
  refine aE_len (mem' := UN 42) (fun q _ j hj => FX_end (by decide) q j hj) ?_
  refine aE_putf dX1_init_37 fp_X1_23 (Or.inr rfl) (by decide) rfl (fun g => ⟨rfl, rfl⟩) ?_
  refine aE_mem (UN_put (k := 42) (a := 54) (j := 6) (v := .ref 58) (by decide +kernel) (by decide +kernel) rfl) ?_
  refine aE_aload_n dX1_init_40 rfl rfl ?_
  refine aE_new (mem' := UN 43) dX1_init_41 cf_3 nw_X1_26 rfl (UN_new tyX3_ok (by decide) (by decide) (by decide +kernel)) (fun _ _ => rfl) (by decide) ⟨by decide, by decide⟩ ?_
  refine aE_dup dX1_init_44 rfl ?_
  refine aE_callI (x := mX3_init) (Rx := { frames := 1, cells := 5, slots := 50, locals := 40 }) (as := []) (b := 69) dX1_init_45 (Or.inr ⟨_, ln_X1_28⟩) mi_X3_init ci_69 rfl (by decide) rfl ⟨by decide, by decide⟩ (Nat.le_of_ble_eq_true rfl) ⟨by decide, by decide⟩ ?_
  rintro r n' m' ⟨rfl, rfl, rfl⟩
  refine aE_putf dX1_init_48 fp_X1_29 (Or.inr rfl) (by decide) rfl (fun g => ⟨rfl, rfl⟩) ?_
  refine aE_mem (UN_put (k := 48) (a := 54) (j := 7) (v := .ref 69) (by decide +kernel) (by decide +kernel) rfl) ?_
  refine aE_vret dX1_init_51 rfl ⟨by decide, by decide⟩ ?_
  exact ⟨rfl, rfl, rfl⟩
set_option maxRecDepth 20000 in
theorem ci_75 : aRuns mX6_init { frames := 1, cells := 4, slots := 84, locals := 40 } [.ref 75] 76 (UN 50) (fun r n' m' => r = none ∧ n' = 80 ∧ m' = UN 54) := by
  refine aRuns_of pn_X6_init (Nat.le_of_ble_eq_true rfl) (fun z => aE_loc (ls' := [_]) rfl ?_)
  refine aE_aload_n dX6_init_0 rfl rfl ?_
  refine aE_obj dX6_init_1 ob_X6_3 ⟨by decide, by decide⟩ (Nat.le_of_ble_eq_true rfl) ?_
  refine aE_aload_n dX6_init_4 rfl rfl ?_
  refine aE_bipush (v := 60) dX6_init_5 (by decide) ?_
  refine aE_newa (mem' := UN 50) (N := 60) dX6_init_7 (Or.inl ⟨rfl, rfl, rfl⟩) ar_i rfl (by decide) rfl (UN_z (N := 60) (Or.inl rfl) (by decide +kernel) (by decide)) (fun _ _ => rfl) (by decide) ⟨by decide, by decide⟩ ?_
  refine aE_putf dX6_init_9 fp_X6_9 (Or.inr rfl) (by decide) rfl (fun g => ⟨rfl, rfl⟩) ?_
  refine aE_mem (UN_put (k := 50) (a := 75) (j := 2) (v := .ref 76) (by decide +kernel) (by decide +kernel) rfl) ?_
  refine aE_aload_n dX6_init_12 rfl rfl ?_
  refine aE_bipush (v := 8) dX6_init_13 (by decide) ?_
  refine aE_newa (mem' := UN 51) (N := 8) dX6_init_15 (Or.inl ⟨rfl, rfl, rfl⟩) ar_i rfl (by decide) rfl (UN_z (N := 8) (Or.inl rfl) (by decide +kernel) (by decide)) (fun _ _ => rfl) (by decide) ⟨by decide, by decide⟩ ?_
  refine aE_putf dX6_init_17 fp_X6_15 (Or.inr rfl) (by decide) rfl (fun g => ⟨rfl, rfl⟩) ?_
  refine aE_mem (UN_put (k := 51) (a := 75) (j := 3) (v := .ref 77) (by decide +kernel) (by decide +kernel) rfl) ?_
  refine aE_aload_n dX6_init_20 rfl rfl ?_
  refine aE_bipush (v := 8) dX6_init_21 (by decide) ?_
  refine aE_newa (mem' := UN 52) (N := 8) dX6_init_23 (Or.inl ⟨rfl, rfl, rfl⟩) ar_i rfl (by decide) rfl (UN_z (N := 8) (Or.inl rfl) (by decide +kernel) (by decide)) (fun _ _ => rfl) (by decide) ⟨by decide, by decide⟩ ?_
  refine aE_putf dX6_init_25 fp_X6_18 (Or.inr rfl) (by decide) rfl (fun g => ⟨rfl, rfl⟩) ?_
  refine aE_mem (UN_put (k := 52) (a := 75) (j := 4) (v := .ref 78) (by decide +kernel) (by decide +kernel) rfl) ?_
  refine aE_aload_n dX6_init_28 rfl rfl ?_
  refine aE_bipush (v := 8) dX6_init_29 (by decide) ?_
  refine aE_newa (mem' := UN 53) (N := 8) dX6_init_31 (Or.inl ⟨rfl, rfl, rfl⟩) ar_i rfl (by decide) rfl (UN_z (N := 8) (Or.inl rfl) (by decide +kernel) (by decide)) (fun _ _ => rfl) (by decide) ⟨by decide, by decide⟩ ?_
  refine aE_putf dX6_init_33 fp_X6_21 (Or.inr rfl) (by decide) rfl (fun g => ⟨rfl, rfl⟩) ?_
  refine aE_mem (UN_put (k := 53) (a := 75) (j := 5) (v := .ref 79) (by decide +kernel) (by decide +kernel) rfl) ?_
  refine aE_vret dX6_init_36 rfl ⟨by decide, by decide⟩ ?_
  exact ⟨rfl, rfl, rfl⟩
set_option maxRecDepth 20000 in
theorem ci_80 : aRuns mX2_init { frames := 1, cells := 9, slots := 69, locals := 40 } [.ref 80] 81 (UN 55) (fun r n' m' => r = none ∧ n' = 90 ∧ m' = UN 60) := by
  refine aRuns_of pn_X2_init (Nat.le_of_ble_eq_true rfl) (fun z => aE_loc (ls' := [_]) rfl ?_)
  refine aE_aload_n dX2_init_0 rfl rfl ?_
  refine aE_obj dX2_init_1 ob_X2_3 ⟨by decide, by decide⟩ (Nat.le_of_ble_eq_true rfl) ?_
  refine aE_aload_n dX2_init_4 rfl rfl ?_
  refine aE_bipush (v := 11) dX2_init_5 (by decide) ?_
  refine aE_newa (mem' := UN 55) (N := 11) dX2_init_7 (Or.inl ⟨rfl, rfl, rfl⟩) ar_i rfl (by decide) rfl (UN_z (N := 11) (Or.inl rfl) (by decide +kernel) (by decide)) (fun _ _ => rfl) (by decide) ⟨by decide, by decide⟩ ?_
  refine aE_putf dX2_init_9 fp_X2_9 (Or.inr rfl) (by decide) rfl (fun g => ⟨rfl, rfl⟩) ?_
  refine aE_mem (UN_put (k := 55) (a := 80) (j := 2) (v := .ref 81) (by decide +kernel) (by decide +kernel) rfl) ?_
  refine aE_aload_n dX2_init_12 rfl rfl ?_
  refine aE_bipush (v := 11) dX2_init_13 (by decide) ?_
  refine aE_newa (mem' := UN 56) (N := 11) dX2_init_15 (Or.inl ⟨rfl, rfl, rfl⟩) ar_i rfl (by decide) rfl (UN_z (N := 11) (Or.inl rfl) (by decide +kernel) (by decide)) (fun _ _ => rfl) (by decide) ⟨by decide, by decide⟩ ?_
  refine aE_putf dX2_init_17 fp_X2_15 (Or.inr rfl) (by decide) rfl (fun g => ⟨rfl, rfl⟩) ?_
  refine aE_mem (UN_put (k := 56) (a := 80) (j := 3) (v := .ref 82) (by decide +kernel) (by decide +kernel) rfl) ?_
  refine aE_aload_n dX2_init_20 rfl rfl ?_
  refine aE_bipush (v := 11) dX2_init_21 (by decide) ?_
  refine aE_newa (mem' := UN 57) (N := 11) dX2_init_23 (Or.inl ⟨rfl, rfl, rfl⟩) ar_i rfl (by decide) rfl (UN_z (N := 11) (Or.inl rfl) (by decide +kernel) (by decide)) (fun _ _ => rfl) (by decide) ⟨by decide, by decide⟩ ?_
  refine aE_putf dX2_init_25 fp_X2_18 (Or.inr rfl) (by decide) rfl (fun g => ⟨rfl, rfl⟩) ?_
  refine aE_mem (UN_put (k := 57) (a := 80) (j := 4) (v := .ref 83) (by decide +kernel) (by decide +kernel) rfl) ?_
  refine aE_aload_n dX2_init_28 rfl rfl ?_
  refine aE_iconst (v := 4) dX2_init_29 rfl ?_
  refine aE_bipush (v := 7) dX2_init_30 (by decide) ?_
  refine aE_mna (mem' := FX (UN 58) 84 4) (N := 4) (M := 7) dX2_init_32 ⟨kl_X2_21, ar_i⟩ rfl rfl (by decide) rfl (by decide +kernel) (fun q => ?_) (fun q hq b => ?_) (fun q hq => FX_ne (by omega)) (by decide) ⟨by decide, by decide⟩ ?_
  · unfold FX; by_cases hq : q < 4
    · rw [if_neg (by omega), if_pos hq, UN_row (by decide +kernel)]; exact mm_price hq
    · rw [if_pos (by omega), if_neg hq]
  · rw [FX_ne (by omega)]; exact UN_z (N := 7) (Or.inl (sh_price hq)) (UN_sh (N := 7) (Or.inl (sh_price hq))) (by omega) b
  refine aE_len (mem' := UN 58) (fun q _ j hj => FX_end (by decide) q j hj) ?_
  refine aE_putf dX2_init_36 fp_X2_23 (Or.inr rfl) (by decide) rfl (fun g => ⟨rfl, rfl⟩) ?_
  refine aE_mem (UN_put (k := 58) (a := 80) (j := 5) (v := .ref 84) (by decide +kernel) (by decide +kernel) rfl) ?_
  refine aE_aload_n dX2_init_39 rfl rfl ?_
  refine aE_iconst (v := 4) dX2_init_40 rfl ?_
  refine aE_newa (mem' := UN 59) (N := 4) dX2_init_41 (Or.inl ⟨rfl, rfl, rfl⟩) ar_i rfl (by decide) rfl (UN_z (N := 4) (Or.inl rfl) (by decide +kernel) (by decide)) (fun _ _ => rfl) (by decide) ⟨by decide, by decide⟩ ?_
  refine aE_putf dX2_init_43 fp_X2_26 (Or.inr rfl) (by decide) rfl (fun g => ⟨rfl, rfl⟩) ?_
  refine aE_mem (UN_put (k := 59) (a := 80) (j := 6) (v := .ref 89) (by decide +kernel) (by decide +kernel) rfl) ?_
  refine aE_vret dX2_init_46 rfl ⟨by decide, by decide⟩ ?_
  exact ⟨rfl, rfl, rfl⟩
set_option maxRecDepth 20000 in
theorem ci_90 : aRuns mX4_init { frames := 1, cells := 1, slots := 10, locals := 40 } [.ref 90] 91 (UN 61) (fun r n' m' => r = none ∧ n' = 92 ∧ m' = UN 62) := by
  refine aRuns_of pn_X4_init (Nat.le_of_ble_eq_true rfl) (fun z => aE_loc (ls' := [_]) rfl ?_)
  refine aE_aload_n dX4_init_0 rfl rfl ?_
  refine aE_obj dX4_init_1 ob_X4_3 ⟨by decide, by decide⟩ (Nat.le_of_ble_eq_true rfl) ?_
  refine aE_aload_n dX4_init_4 rfl rfl ?_
  refine aE_bipush (v := 10) dX4_init_5 (by decide) ?_
  refine aE_newa (mem' := UN 61) (N := 10) dX4_init_7 (Or.inl ⟨rfl, rfl, rfl⟩) ar_i rfl (by decide) rfl (UN_z (N := 10) (Or.inl rfl) (by decide +kernel) (by decide)) (fun _ _ => rfl) (by decide) ⟨by decide, by decide⟩ ?_
  refine aE_putf dX4_init_9 fp_X4_9 (Or.inr rfl) (by decide) rfl (fun g => ⟨rfl, rfl⟩) ?_
  refine aE_mem (UN_put (k := 61) (a := 90) (j := 1) (v := .ref 91) (by decide +kernel) (by decide +kernel) rfl) ?_
  refine aE_vret dX4_init_12 rfl ⟨by decide, by decide⟩ ?_
  exact ⟨rfl, rfl, rfl⟩
set_option maxRecDepth 20000 in
theorem ci_93 : aRuns mX8_init { frames := 1, cells := 1, slots := 10, locals := 40 } [.ref 93] 94 (UN 64) (fun r n' m' => r = none ∧ n' = 95 ∧ m' = UN 65) := by
  refine aRuns_of pn_X8_init (Nat.le_of_ble_eq_true rfl) (fun z => aE_loc (ls' := [_]) rfl ?_)
  refine aE_aload_n dX8_init_0 rfl rfl ?_
  refine aE_obj dX8_init_1 ob_X8_3 ⟨by decide, by decide⟩ (Nat.le_of_ble_eq_true rfl) ?_
  refine aE_aload_n dX8_init_4 rfl rfl ?_
  refine aE_bipush (v := 10) dX8_init_5 (by decide) ?_
  refine aE_newa (mem' := UN 64) (N := 10) dX8_init_7 (Or.inl ⟨rfl, rfl, rfl⟩) ar_i rfl (by decide) rfl (UN_z (N := 10) (Or.inl rfl) (by decide +kernel) (by decide)) (fun _ _ => rfl) (by decide) ⟨by decide, by decide⟩ ?_
  refine aE_putf dX8_init_9 fp_X8_9 (Or.inr rfl) (by decide) rfl (fun g => ⟨rfl, rfl⟩) ?_
  refine aE_mem (UN_put (k := 64) (a := 93) (j := 2) (v := .ref 94) (by decide +kernel) (by decide +kernel) rfl) ?_
  refine aE_vret dX8_init_12 rfl ⟨by decide, by decide⟩ ?_
  exact ⟨rfl, rfl, rfl⟩
set_option maxRecDepth 20000 in
theorem ci_95 : aRuns mX8_init { frames := 1, cells := 1, slots := 10, locals := 40 } [.ref 95] 96 (UN 66) (fun r n' m' => r = none ∧ n' = 97 ∧ m' = UN 67) := by
  refine aRuns_of pn_X8_init (Nat.le_of_ble_eq_true rfl) (fun z => aE_loc (ls' := [_]) rfl ?_)
  refine aE_aload_n dX8_init_0 rfl rfl ?_
  refine aE_obj dX8_init_1 ob_X8_3 ⟨by decide, by decide⟩ (Nat.le_of_ble_eq_true rfl) ?_
  refine aE_aload_n dX8_init_4 rfl rfl ?_
  refine aE_bipush (v := 10) dX8_init_5 (by decide) ?_
  refine aE_newa (mem' := UN 66) (N := 10) dX8_init_7 (Or.inl ⟨rfl, rfl, rfl⟩) ar_i rfl (by decide) rfl (UN_z (N := 10) (Or.inl rfl) (by decide +kernel) (by decide)) (fun _ _ => rfl) (by decide) ⟨by decide, by decide⟩ ?_
  refine aE_putf dX8_init_9 fp_X8_9 (Or.inr rfl) (by decide) rfl (fun g => ⟨rfl, rfl⟩) ?_
  refine aE_mem (UN_put (k := 66) (a := 95) (j := 2) (v := .ref 96) (by decide +kernel) (by decide +kernel) rfl) ?_
  refine aE_vret dX8_init_12 rfl ⟨by decide, by decide⟩ ?_
  exact ⟨rfl, rfl, rfl⟩
set_option maxRecDepth 20000 in
theorem ci_97 : aRuns mX8_init { frames := 1, cells := 1, slots := 10, locals := 40 } [.ref 97] 98 (UN 68) (fun r n' m' => r = none ∧ n' = 99 ∧ m' = UN 69) := by
  refine aRuns_of pn_X8_init (Nat.le_of_ble_eq_true rfl) (fun z => aE_loc (ls' := [_]) rfl ?_)
  refine aE_aload_n dX8_init_0 rfl rfl ?_
  refine aE_obj dX8_init_1 ob_X8_3 ⟨by decide, by decide⟩ (Nat.le_of_ble_eq_true rfl) ?_
  refine aE_aload_n dX8_init_4 rfl rfl ?_
  refine aE_bipush (v := 10) dX8_init_5 (by decide) ?_
  refine aE_newa (mem' := UN 68) (N := 10) dX8_init_7 (Or.inl ⟨rfl, rfl, rfl⟩) ar_i rfl (by decide) rfl (UN_z (N := 10) (Or.inl rfl) (by decide +kernel) (by decide)) (fun _ _ => rfl) (by decide) ⟨by decide, by decide⟩ ?_
  refine aE_putf dX8_init_9 fp_X8_9 (Or.inr rfl) (by decide) rfl (fun g => ⟨rfl, rfl⟩) ?_
  refine aE_mem (UN_put (k := 68) (a := 97) (j := 2) (v := .ref 98) (by decide +kernel) (by decide +kernel) rfl) ?_
  refine aE_vret dX8_init_12 rfl ⟨by decide, by decide⟩ ?_
  exact ⟨rfl, rfl, rfl⟩
set_option maxRecDepth 20000 in
theorem ci_99 : aRuns mX8_init { frames := 1, cells := 1, slots := 10, locals := 40 } [.ref 99] 100 (UN 70) (fun r n' m' => r = none ∧ n' = 101 ∧ m' = UN 71) := by
  refine aRuns_of pn_X8_init (Nat.le_of_ble_eq_true rfl) (fun z => aE_loc (ls' := [_]) rfl ?_)
  refine aE_aload_n dX8_init_0 rfl rfl ?_
  refine aE_obj dX8_init_1 ob_X8_3 ⟨by decide, by decide⟩ (Nat.le_of_ble_eq_true rfl) ?_
  refine aE_aload_n dX8_init_4 rfl rfl ?_
  refine aE_bipush (v := 10) dX8_init_5 (by decide) ?_
  refine aE_newa (mem' := UN 70) (N := 10) dX8_init_7 (Or.inl ⟨rfl, rfl, rfl⟩) ar_i rfl (by decide) rfl (UN_z (N := 10) (Or.inl rfl) (by decide +kernel) (by decide)) (fun _ _ => rfl) (by decide) ⟨by decide, by decide⟩ ?_
  refine aE_putf dX8_init_9 fp_X8_9 (Or.inr rfl) (by decide) rfl (fun g => ⟨rfl, rfl⟩) ?_
  refine aE_mem (UN_put (k := 70) (a := 99) (j := 2) (v := .ref 100) (by decide +kernel) (by decide +kernel) rfl) ?_
  refine aE_vret dX8_init_12 rfl ⟨by decide, by decide⟩ ?_
  exact ⟨rfl, rfl, rfl⟩
set_option maxRecDepth 20000 in
theorem ci_0 : aRuns mX11_init { frames := 3, cells := 100, slots := 871, locals := 120 } [.ref 0] 1 (UN 0) (fun r n' m' => r = none ∧ n' = 101 ∧ m' = UN 72) := by
  refine aRuns_of pn_X11_init (Nat.le_of_ble_eq_true rfl) (fun z => aE_loc (ls' := [_, _]) rfl ?_)
  refine aE_aload_n dX11_init_0 rfl rfl ?_
  refine aE_obj dX11_init_1 ob_X11_1 ⟨by decide, by decide⟩ (Nat.le_of_ble_eq_true rfl) ?_
  refine aE_aload_n dX11_init_4 rfl rfl ?_
  refine aE_new (mem' := UN 0) dX11_init_5 cf_0 nw_X11_7 rfl (UN_new tyX0_ok (by decide) (by decide) (by decide +kernel)) (fun _ _ => rfl) (by decide) ⟨by decide, by decide⟩ ?_
  refine aE_dup dX11_init_8 rfl ?_
  refine aE_callI (x := mX0_init) (Rx := { frames := 2, cells := 52, slots := 423, locals := 80 }) (as := []) (b := 1) dX11_init_9 (Or.inl lk_X11_9) mi_X0_init ci_1 rfl (by decide) rfl ⟨by decide, by decide⟩ (Nat.le_of_ble_eq_true rfl) ⟨by decide, by decide⟩ ?_
  rintro r n' m' ⟨rfl, rfl, rfl⟩
  refine aE_putf dX11_init_12 fp_X11_10 (Or.inr rfl) (by decide) rfl (fun g => ⟨rfl, rfl⟩) ?_
  refine aE_mem (UN_put (k := 38) (a := 0) (j := 0) (v := .ref 1) (by decide +kernel) (by decide +kernel) rfl) ?_
  refine aE_aload_n dX11_init_15 rfl rfl ?_
  refine aE_new (mem' := UN 39) dX11_init_16 cf_1 nw_X11_16 rfl (UN_new tyX1_ok (by decide) (by decide) (by decide +kernel)) (fun _ _ => rfl) (by decide) ⟨by decide, by decide⟩ ?_
  refine aE_dup dX11_init_19 rfl ?_
  refine aE_callI (x := mX1_init) (Rx := { frames := 2, cells := 20, slots := 196, locals := 80 }) (as := []) (b := 54) dX11_init_20 (Or.inr ⟨_, ln_X11_18⟩) mi_X1_init ci_54 rfl (by decide) rfl ⟨by decide, by decide⟩ (Nat.le_of_ble_eq_true rfl) ⟨by decide, by decide⟩ ?_
  rintro r n' m' ⟨rfl, rfl, rfl⟩
  refine aE_putf dX11_init_23 fp_X11_19 (Or.inr rfl) (by decide) rfl (fun g => ⟨rfl, rfl⟩) ?_
  refine aE_mem (UN_put (k := 49) (a := 0) (j := 1) (v := .ref 54) (by decide +kernel) (by decide +kernel) rfl) ?_
  refine aE_aload_n dX11_init_26 rfl rfl ?_
  refine aE_new (mem' := UN 50) dX11_init_27 cf_6 nw_X11_23 rfl (UN_new tyX6_ok (by decide) (by decide) (by decide +kernel)) (fun _ _ => rfl) (by decide) ⟨by decide, by decide⟩ ?_
  refine aE_dup dX11_init_30 rfl ?_
  refine aE_callI (x := mX6_init) (Rx := { frames := 1, cells := 4, slots := 84, locals := 40 }) (as := []) (b := 75) dX11_init_31 (Or.inr ⟨_, ln_X11_25⟩) mi_X6_init ci_75 rfl (by decide) rfl ⟨by decide, by decide⟩ (Nat.le_of_ble_eq_true rfl) ⟨by decide, by decide⟩ ?_
  rintro r n' m' ⟨rfl, rfl, rfl⟩
  refine aE_putf dX11_init_34 fp_X11_26 (Or.inr rfl) (by decide) rfl (fun g => ⟨rfl, rfl⟩) ?_
  refine aE_mem (UN_put (k := 54) (a := 0) (j := 2) (v := .ref 75) (by decide +kernel) (by decide +kernel) rfl) ?_
  refine aE_aload_n dX11_init_37 rfl rfl ?_
  refine aE_new (mem' := UN 55) dX11_init_38 cf_2 nw_X11_30 rfl (UN_new tyX2_ok (by decide) (by decide) (by decide +kernel)) (fun _ _ => rfl) (by decide) ⟨by decide, by decide⟩ ?_
  refine aE_dup dX11_init_41 rfl ?_
  refine aE_callI (x := mX2_init) (Rx := { frames := 1, cells := 9, slots := 69, locals := 40 }) (as := []) (b := 80) dX11_init_42 (Or.inr ⟨_, ln_X11_32⟩) mi_X2_init ci_80 rfl (by decide) rfl ⟨by decide, by decide⟩ (Nat.le_of_ble_eq_true rfl) ⟨by decide, by decide⟩ ?_
  rintro r n' m' ⟨rfl, rfl, rfl⟩
  refine aE_putf dX11_init_45 fp_X11_33 (Or.inr rfl) (by decide) rfl (fun g => ⟨rfl, rfl⟩) ?_
  refine aE_mem (UN_put (k := 60) (a := 0) (j := 3) (v := .ref 80) (by decide +kernel) (by decide +kernel) rfl) ?_
  refine aE_aload_n dX11_init_48 rfl rfl ?_
  refine aE_new (mem' := UN 61) dX11_init_49 cf_4 nw_X11_37 rfl (UN_new tyX4_ok (by decide) (by decide) (by decide +kernel)) (fun _ _ => rfl) (by decide) ⟨by decide, by decide⟩ ?_
  refine aE_dup dX11_init_52 rfl ?_
  refine aE_callI (x := mX4_init) (Rx := { frames := 1, cells := 1, slots := 10, locals := 40 }) (as := []) (b := 90) dX11_init_53 (Or.inr ⟨_, ln_X11_39⟩) mi_X4_init ci_90 rfl (by decide) rfl ⟨by decide, by decide⟩ (Nat.le_of_ble_eq_true rfl) ⟨by decide, by decide⟩ ?_
  rintro r n' m' ⟨rfl, rfl, rfl⟩
  refine aE_putf dX11_init_56 fp_X11_40 (Or.inr rfl) (by decide) rfl (fun g => ⟨rfl, rfl⟩) ?_
  refine aE_mem (UN_put (k := 62) (a := 0) (j := 4) (v := .ref 90) (by decide +kernel) (by decide +kernel) rfl) ?_
  refine aE_aload_n dX11_init_59 rfl rfl ?_
  refine aE_iconst (v := 4) dX11_init_60 rfl ?_
  refine aE_anew (mem' := FX (UN 63) 92 4) (N := 4) dX11_init_61 (Or.inr (Or.inr ⟨rfl, rfl⟩)) kl_X11_44 rfl (by decide) rfl (fun j => ?_) (fun q hq => FX_ne (by omega)) (by decide) ⟨by decide, by decide⟩ ?_
  · unfold FX
    by_cases hj : j < 4
    · have key : ∀ j, j < 4 → (92, j) ∈ SEQ.drop 63 := by decide +kernel
      rw [if_neg (by omega)]; exact UN_null (key j hj) (mm_shts hj)
    · rw [if_pos ⟨rfl, by omega⟩]
  refine aE_len (mem' := UN 63) (fun q _ j hj => FX_end (by decide) q j hj) ?_
  refine aE_putf dX11_init_64 fp_X11_46 (Or.inr rfl) (by decide) rfl (fun g => ⟨rfl, rfl⟩) ?_
  refine aE_mem (UN_put (k := 63) (a := 0) (j := 5) (v := .ref 92) (by decide +kernel) (by decide +kernel) rfl) ?_
  refine aE_iconst (v := 0) dX11_init_67 rfl ?_
  refine aE_top (x' := nI 0) rfl ?_
  refine aE_istore_n dX11_init_68 rfl (by decide) rfl (aE_loc (ls' := [_, _]) rfl ?_)
  refine aE_iload_n dX11_init_69 rfl rfl ?_
  refine aE_iconst (v := 4) dX11_init_70 rfl ?_
  refine aE_icmp_ge (tgt := 93) dX11_init_71 (by decide) (fun h => absurd h (by decide)) (fun _ => ?_)
  refine aE_aload_n dX11_init_74 rfl rfl ?_
  refine aE_getf (v := .ref 92) dX11_init_75 fw_X11_46 (by decide) rfl ((UN_out (by decide +kernel)).trans rfl) ?_
  refine aE_iload_n dX11_init_78 rfl rfl ?_
  refine aE_new (mem' := UN 64) dX11_init_79 cf_8 nw_X11_44 rfl (UN_new tyX8_ok (by decide) (by decide) (by decide +kernel)) (fun _ _ => rfl) (by decide) ⟨by decide, by decide⟩ ?_
  refine aE_dup dX11_init_82 rfl ?_
  refine aE_callI (x := mX8_init) (Rx := { frames := 1, cells := 1, slots := 10, locals := 40 }) (as := []) (b := 93) dX11_init_83 (Or.inr ⟨_, ln_X11_50⟩) mi_X8_init ci_93 rfl (by decide) rfl ⟨by decide, by decide⟩ (Nat.le_of_ble_eq_true rfl) ⟨by decide, by decide⟩ ?_
  rintro r n' m' ⟨rfl, rfl, rfl⟩
  refine aE_aast (t := 4) (j := 0) dX11_init_86 (by decide) (by decide) (Or.inr (Or.inr ⟨rfl, rfl⟩)) rfl rfl ⟨rfl, by decide⟩ (by decide) rfl (by decide) ?_
  refine aE_mem (UN_put (k := 65) (a := 92) (j := 0) (v := .ref 93) (by decide +kernel) (by decide +kernel) rfl) ?_
  refine aE_iinc dX11_init_87 rfl (a_inc 0) (by decide) rfl (aE_loc (ls' := [_, _]) rfl ?_)
  refine aE_goto (tgt := 69) dX11_init_90 (by decide) ?_
  refine aE_iload_n dX11_init_69 rfl rfl ?_
  refine aE_iconst (v := 4) dX11_init_70 rfl ?_
  refine aE_icmp_ge (tgt := 93) dX11_init_71 (by decide) (fun h => absurd h (by decide)) (fun _ => ?_)
  refine aE_aload_n dX11_init_74 rfl rfl ?_
  refine aE_getf (v := .ref 92) dX11_init_75 fw_X11_46 (by decide) rfl ((UN_out (by decide +kernel)).trans rfl) ?_
  refine aE_iload_n dX11_init_78 rfl rfl ?_
  refine aE_new (mem' := UN 66) dX11_init_79 cf_8 nw_X11_44 rfl (UN_new tyX8_ok (by decide) (by decide) (by decide +kernel)) (fun _ _ => rfl) (by decide) ⟨by decide, by decide⟩ ?_
  refine aE_dup dX11_init_82 rfl ?_
  refine aE_callI (x := mX8_init) (Rx := { frames := 1, cells := 1, slots := 10, locals := 40 }) (as := []) (b := 95) dX11_init_83 (Or.inr ⟨_, ln_X11_50⟩) mi_X8_init ci_95 rfl (by decide) rfl ⟨by decide, by decide⟩ (Nat.le_of_ble_eq_true rfl) ⟨by decide, by decide⟩ ?_
  rintro r n' m' ⟨rfl, rfl, rfl⟩
  refine aE_aast (t := 4) (j := 1) dX11_init_86 (by decide) (by decide) (Or.inr (Or.inr ⟨rfl, rfl⟩)) rfl rfl ⟨rfl, by decide⟩ (by decide) rfl (by decide) ?_
  refine aE_mem (UN_put (k := 67) (a := 92) (j := 1) (v := .ref 95) (by decide +kernel) (by decide +kernel) rfl) ?_
  refine aE_iinc dX11_init_87 rfl (a_inc 1) (by decide) rfl (aE_loc (ls' := [_, _]) rfl ?_)
  refine aE_goto (tgt := 69) dX11_init_90 (by decide) ?_
  refine aE_iload_n dX11_init_69 rfl rfl ?_
  refine aE_iconst (v := 4) dX11_init_70 rfl ?_
  refine aE_icmp_ge (tgt := 93) dX11_init_71 (by decide) (fun h => absurd h (by decide)) (fun _ => ?_)
  refine aE_aload_n dX11_init_74 rfl rfl ?_
  refine aE_getf (v := .ref 92) dX11_init_75 fw_X11_46 (by decide) rfl ((UN_out (by decide +kernel)).trans rfl) ?_
  refine aE_iload_n dX11_init_78 rfl rfl ?_
  refine aE_new (mem' := UN 68) dX11_init_79 cf_8 nw_X11_44 rfl (UN_new tyX8_ok (by decide) (by decide) (by decide +kernel)) (fun _ _ => rfl) (by decide) ⟨by decide, by decide⟩ ?_
  refine aE_dup dX11_init_82 rfl ?_
  refine aE_callI (x := mX8_init) (Rx := { frames := 1, cells := 1, slots := 10, locals := 40 }) (as := []) (b := 97) dX11_init_83 (Or.inr ⟨_, ln_X11_50⟩) mi_X8_init ci_97 rfl (by decide) rfl ⟨by decide, by decide⟩ (Nat.le_of_ble_eq_true rfl) ⟨by decide, by decide⟩ ?_
  rintro r n' m' ⟨rfl, rfl, rfl⟩
  refine aE_aast (t := 4) (j := 2) dX11_init_86 (by decide) (by decide) (Or.inr (Or.inr ⟨rfl, rfl⟩)) rfl rfl ⟨rfl, by decide⟩ (by decide) rfl (by decide) ?_
  refine aE_mem (UN_put (k := 69) (a := 92) (j := 2) (v := .ref 97) (by decide +kernel) (by decide +kernel) rfl) ?_
  refine aE_iinc dX11_init_87 rfl (a_inc 2) (by decide) rfl (aE_loc (ls' := [_, _]) rfl ?_)
  refine aE_goto (tgt := 69) dX11_init_90 (by decide) ?_
  refine aE_iload_n dX11_init_69 rfl rfl ?_
  refine aE_iconst (v := 4) dX11_init_70 rfl ?_
  refine aE_icmp_ge (tgt := 93) dX11_init_71 (by decide) (fun h => absurd h (by decide)) (fun _ => ?_)
  refine aE_aload_n dX11_init_74 rfl rfl ?_
  refine aE_getf (v := .ref 92) dX11_init_75 fw_X11_46 (by decide) rfl ((UN_out (by decide +kernel)).trans rfl) ?_
  refine aE_iload_n dX11_init_78 rfl rfl ?_
  refine aE_new (mem' := UN 70) dX11_init_79 cf_8 nw_X11_44 rfl (UN_new tyX8_ok (by decide) (by decide) (by decide +kernel)) (fun _ _ => rfl) (by decide) ⟨by decide, by decide⟩ ?_
  refine aE_dup dX11_init_82 rfl ?_
  refine aE_callI (x := mX8_init) (Rx := { frames := 1, cells := 1, slots := 10, locals := 40 }) (as := []) (b := 99) dX11_init_83 (Or.inr ⟨_, ln_X11_50⟩) mi_X8_init ci_99 rfl (by decide) rfl ⟨by decide, by decide⟩ (Nat.le_of_ble_eq_true rfl) ⟨by decide, by decide⟩ ?_
  rintro r n' m' ⟨rfl, rfl, rfl⟩
  refine aE_aast (t := 4) (j := 3) dX11_init_86 (by decide) (by decide) (Or.inr (Or.inr ⟨rfl, rfl⟩)) rfl rfl ⟨rfl, by decide⟩ (by decide) rfl (by decide) ?_
  refine aE_mem (UN_put (k := 71) (a := 92) (j := 3) (v := .ref 99) (by decide +kernel) (by decide +kernel) rfl) ?_
  refine aE_iinc dX11_init_87 rfl (a_inc 3) (by decide) rfl (aE_loc (ls' := [_, _]) rfl ?_)
  refine aE_goto (tgt := 69) dX11_init_90 (by decide) ?_
  refine aE_iload_n dX11_init_69 rfl rfl ?_
  refine aE_iconst (v := 4) dX11_init_70 rfl ?_
  refine aE_icmp_ge (tgt := 93) dX11_init_71 (by decide) (fun _ => ?_) (fun h => absurd (by decide) h)
  refine aE_vret dX11_init_93 rfl ⟨by decide, by decide⟩ ?_
  exact ⟨rfl, rfl, rfl⟩
set_option maxRecDepth 20000 in
theorem ci_101 : aRuns mX12_init { frames := 1, cells := 45, slots := 26251, locals := 40 } [.ref 101] 102 (UN 72) (fun r n' m' => r = none ∧ n' = 147 ∧ m' = UN 119) := by
  refine aRuns_of pn_X12_init (Nat.le_of_ble_eq_true rfl) (fun z => aE_loc (ls' := [_]) rfl ?_)
  refine aE_aload_n dX12_init_0 rfl rfl ?_
  refine aE_obj dX12_init_1 ob_X12_1 ⟨by decide, by decide⟩ (Nat.le_of_ble_eq_true rfl) ?_
  refine aE_aload_n dX12_init_4 rfl rfl ?_
  refine aE_bipush (v := 40) dX12_init_5 (by decide) ?_
  refine aE_putf dX12_init_7 fp_X12_7 (Or.inr rfl) (by decide) rfl (fun g => ⟨rfl, rfl⟩) ?_
  refine aE_mem (UN_put (k := 72) (a := 101) (j := 7) (v := .int 40) (by decide +kernel) (by decide +kernel) rfl) ?_
  refine aE_aload_n dX12_init_10 rfl rfl ?_
  refine aE_bipush (v := 60) dX12_init_11 (by decide) ?_
  refine aE_putf dX12_init_13 fp_X12_13 (Or.inr rfl) (by decide) rfl (fun g => ⟨rfl, rfl⟩) ?_
  refine aE_mem (UN_put (k := 73) (a := 101) (j := 8) (v := .int 60) (by decide +kernel) (by decide +kernel) rfl) ?_
  refine aE_aload_n dX12_init_16 rfl rfl ?_
  refine aE_bipush (v := 14) dX12_init_17 (by decide) ?_
  refine aE_newa (mem' := UN 74) (N := 14) dX12_init_19 (Or.inl ⟨rfl, rfl, rfl⟩) ar_i rfl (by decide) rfl (UN_z (N := 14) (Or.inl rfl) (by decide +kernel) (by decide)) (fun _ _ => rfl) (by decide) ⟨by decide, by decide⟩ ?_
  refine aE_putf dX12_init_21 fp_X12_16 (Or.inr rfl) (by decide) rfl (fun g => ⟨rfl, rfl⟩) ?_
  refine aE_mem (UN_put (k := 74) (a := 101) (j := 10) (v := .ref 102) (by decide +kernel) (by decide +kernel) rfl) ?_
  refine aE_aload_n dX12_init_24 rfl rfl ?_
  refine aE_bipush (v := 14) dX12_init_25 (by decide) ?_
  refine aE_newa (mem' := UN 75) (N := 14) dX12_init_27 (Or.inl ⟨rfl, rfl, rfl⟩) ar_i rfl (by decide) rfl (UN_z (N := 14) (Or.inl rfl) (by decide +kernel) (by decide)) (fun _ _ => rfl) (by decide) ⟨by decide, by decide⟩ ?_
  refine aE_putf dX12_init_29 fp_X12_20 (Or.inr rfl) (by decide) rfl (fun g => ⟨rfl, rfl⟩) ?_
  refine aE_mem (UN_put (k := 75) (a := 101) (j := 11) (v := .ref 103) (by decide +kernel) (by decide +kernel) rfl) ?_
  refine aE_aload_n dX12_init_32 rfl rfl ?_
  refine aE_bipush (v := 14) dX12_init_33 (by decide) ?_
  refine aE_newa (mem' := UN 76) (N := 14) dX12_init_35 (Or.inl ⟨rfl, rfl, rfl⟩) ar_i rfl (by decide) rfl (UN_z (N := 14) (Or.inl rfl) (by decide +kernel) (by decide)) (fun _ _ => rfl) (by decide) ⟨by decide, by decide⟩ ?_
  refine aE_putf dX12_init_37 fp_X12_23 (Or.inr rfl) (by decide) rfl (fun g => ⟨rfl, rfl⟩) ?_
  refine aE_mem (UN_put (k := 76) (a := 101) (j := 12) (v := .ref 104) (by decide +kernel) (by decide +kernel) rfl) ?_
  refine aE_aload_n dX12_init_40 rfl rfl ?_
  refine aE_bipush (v := 14) dX12_init_41 (by decide) ?_
  refine aE_newa (mem' := UN 77) (N := 14) dX12_init_43 (Or.inr ⟨rfl, rfl, rfl⟩) ar_z rfl (by decide) rfl (UN_z (N := 14) (Or.inr rfl) (by decide +kernel) (by decide)) (fun _ _ => rfl) (by decide) ⟨by decide, by decide⟩ ?_
  refine aE_putf dX12_init_45 fp_X12_26 (Or.inr rfl) (by decide) rfl (fun g => ⟨rfl, rfl⟩) ?_
  refine aE_mem (UN_put (k := 77) (a := 101) (j := 13) (v := .ref 105) (by decide +kernel) (by decide +kernel) rfl) ?_
  refine aE_aload_n dX12_init_48 rfl rfl ?_
  refine aE_iconst (v := 4) dX12_init_49 rfl ?_
  refine aE_newa (mem' := UN 78) (N := 4) dX12_init_50 (Or.inl ⟨rfl, rfl, rfl⟩) ar_i rfl (by decide) rfl (UN_z (N := 4) (Or.inl rfl) (by decide +kernel) (by decide)) (fun _ _ => rfl) (by decide) ⟨by decide, by decide⟩ ?_
  refine aE_putf dX12_init_52 fp_X12_30 (Or.inr rfl) (by decide) rfl (fun g => ⟨rfl, rfl⟩) ?_
  refine aE_mem (UN_put (k := 78) (a := 101) (j := 14) (v := .ref 106) (by decide +kernel) (by decide +kernel) rfl) ?_
  refine aE_aload_n dX12_init_55 rfl rfl ?_
  refine aE_iconst (v := 4) dX12_init_56 rfl ?_
  refine aE_newa (mem' := UN 79) (N := 4) dX12_init_57 (Or.inl ⟨rfl, rfl, rfl⟩) ar_i rfl (by decide) rfl (UN_z (N := 4) (Or.inl rfl) (by decide +kernel) (by decide)) (fun _ _ => rfl) (by decide) ⟨by decide, by decide⟩ ?_
  refine aE_putf dX12_init_59 fp_X12_33 (Or.inr rfl) (by decide) rfl (fun g => ⟨rfl, rfl⟩) ?_
  refine aE_mem (UN_put (k := 79) (a := 101) (j := 15) (v := .ref 107) (by decide +kernel) (by decide +kernel) rfl) ?_
  refine aE_aload_n dX12_init_62 rfl rfl ?_
  refine aE_iconst (v := 4) dX12_init_63 rfl ?_
  refine aE_newa (mem' := UN 80) (N := 4) dX12_init_64 (Or.inl ⟨rfl, rfl, rfl⟩) ar_i rfl (by decide) rfl (UN_z (N := 4) (Or.inl rfl) (by decide +kernel) (by decide)) (fun _ _ => rfl) (by decide) ⟨by decide, by decide⟩ ?_
  refine aE_putf dX12_init_66 fp_X12_36 (Or.inr rfl) (by decide) rfl (fun g => ⟨rfl, rfl⟩) ?_
  refine aE_mem (UN_put (k := 80) (a := 101) (j := 16) (v := .ref 108) (by decide +kernel) (by decide +kernel) rfl) ?_
  refine aE_aload_n dX12_init_69 rfl rfl ?_
  refine aE_iconst (v := 4) dX12_init_70 rfl ?_
  refine aE_newa (mem' := UN 81) (N := 4) dX12_init_71 (Or.inl ⟨rfl, rfl, rfl⟩) ar_i rfl (by decide) rfl (UN_z (N := 4) (Or.inl rfl) (by decide +kernel) (by decide)) (fun _ _ => rfl) (by decide) ⟨by decide, by decide⟩ ?_
  refine aE_putf dX12_init_73 fp_X12_39 (Or.inr rfl) (by decide) rfl (fun g => ⟨rfl, rfl⟩) ?_
  refine aE_mem (UN_put (k := 81) (a := 101) (j := 17) (v := .ref 109) (by decide +kernel) (by decide +kernel) rfl) ?_
  refine aE_aload_n dX12_init_76 rfl rfl ?_
  refine aE_bipush (v := 10) dX12_init_77 (by decide) ?_
  refine aE_newa (mem' := UN 82) (N := 10) dX12_init_79 (Or.inl ⟨rfl, rfl, rfl⟩) ar_i rfl (by decide) rfl (UN_z (N := 10) (Or.inl rfl) (by decide +kernel) (by decide)) (fun _ _ => rfl) (by decide) ⟨by decide, by decide⟩ ?_
  refine aE_putf dX12_init_81 fp_X12_42 (Or.inr rfl) (by decide) rfl (fun g => ⟨rfl, rfl⟩) ?_
  refine aE_mem (UN_put (k := 82) (a := 101) (j := 18) (v := .ref 110) (by decide +kernel) (by decide +kernel) rfl) ?_
  refine aE_aload_n dX12_init_84 rfl rfl ?_
  refine aE_bipush (v := 10) dX12_init_85 (by decide) ?_
  refine aE_newa (mem' := UN 83) (N := 10) dX12_init_87 (Or.inl ⟨rfl, rfl, rfl⟩) ar_i rfl (by decide) rfl (UN_z (N := 10) (Or.inl rfl) (by decide +kernel) (by decide)) (fun _ _ => rfl) (by decide) ⟨by decide, by decide⟩ ?_
  refine aE_putf dX12_init_89 fp_X12_45 (Or.inr rfl) (by decide) rfl (fun g => ⟨rfl, rfl⟩) ?_
  refine aE_mem (UN_put (k := 83) (a := 101) (j := 19) (v := .ref 111) (by decide +kernel) (by decide +kernel) rfl) ?_
  refine aE_aload_n dX12_init_92 rfl rfl ?_
  refine aE_bipush (v := 10) dX12_init_93 (by decide) ?_
  refine aE_newa (mem' := UN 84) (N := 10) dX12_init_95 (Or.inl ⟨rfl, rfl, rfl⟩) ar_i rfl (by decide) rfl (UN_z (N := 10) (Or.inl rfl) (by decide +kernel) (by decide)) (fun _ _ => rfl) (by decide) ⟨by decide, by decide⟩ ?_
  refine aE_putf dX12_init_97 fp_X12_48 (Or.inr rfl) (by decide) rfl (fun g => ⟨rfl, rfl⟩) ?_
  refine aE_mem (UN_put (k := 84) (a := 101) (j := 20) (v := .ref 112) (by decide +kernel) (by decide +kernel) rfl) ?_
  refine aE_aload_n dX12_init_100 rfl rfl ?_
  refine aE_bipush (v := 10) dX12_init_101 (by decide) ?_
  refine aE_newa (mem' := UN 85) (N := 10) dX12_init_103 (Or.inl ⟨rfl, rfl, rfl⟩) ar_i rfl (by decide) rfl (UN_z (N := 10) (Or.inl rfl) (by decide +kernel) (by decide)) (fun _ _ => rfl) (by decide) ⟨by decide, by decide⟩ ?_
  refine aE_putf dX12_init_105 fp_X12_51 (Or.inr rfl) (by decide) rfl (fun g => ⟨rfl, rfl⟩) ?_
  refine aE_mem (UN_put (k := 85) (a := 101) (j := 21) (v := .ref 113) (by decide +kernel) (by decide +kernel) rfl) ?_
  refine aE_aload_n dX12_init_108 rfl rfl ?_
  refine aE_bipush (v := 8) dX12_init_109 (by decide) ?_
  refine aE_newa (mem' := UN 86) (N := 8) dX12_init_111 (Or.inl ⟨rfl, rfl, rfl⟩) ar_i rfl (by decide) rfl (UN_z (N := 8) (Or.inl rfl) (by decide +kernel) (by decide)) (fun _ _ => rfl) (by decide) ⟨by decide, by decide⟩ ?_
  refine aE_putf dX12_init_113 fp_X12_54 (Or.inr rfl) (by decide) rfl (fun g => ⟨rfl, rfl⟩) ?_
  refine aE_mem (UN_put (k := 86) (a := 101) (j := 22) (v := .ref 114) (by decide +kernel) (by decide +kernel) rfl) ?_
  refine aE_aload_n dX12_init_116 rfl rfl ?_
  refine aE_bipush (v := 8) dX12_init_117 (by decide) ?_
  refine aE_newa (mem' := UN 87) (N := 8) dX12_init_119 (Or.inl ⟨rfl, rfl, rfl⟩) ar_i rfl (by decide) rfl (UN_z (N := 8) (Or.inl rfl) (by decide +kernel) (by decide)) (fun _ _ => rfl) (by decide) ⟨by decide, by decide⟩ ?_
  refine aE_putf dX12_init_121 fp_X12_57 (Or.inr rfl) (by decide) rfl (fun g => ⟨rfl, rfl⟩) ?_
  refine aE_mem (UN_put (k := 87) (a := 101) (j := 23) (v := .ref 115) (by decide +kernel) (by decide +kernel) rfl) ?_
  refine aE_aload_n dX12_init_124 rfl rfl ?_
  refine aE_bipush (v := 8) dX12_init_125 (by decide) ?_
  refine aE_newa (mem' := UN 88) (N := 8) dX12_init_127 (Or.inl ⟨rfl, rfl, rfl⟩) ar_i rfl (by decide) rfl (UN_z (N := 8) (Or.inl rfl) (by decide +kernel) (by decide)) (fun _ _ => rfl) (by decide) ⟨by decide, by decide⟩ ?_
  refine aE_putf dX12_init_129 fp_X12_60 (Or.inr rfl) (by decide) rfl (fun g => ⟨rfl, rfl⟩) ?_
  refine aE_mem (UN_put (k := 88) (a := 101) (j := 24) (v := .ref 116) (by decide +kernel) (by decide +kernel) rfl) ?_
  refine aE_aload_n dX12_init_132 rfl rfl ?_
  refine aE_bipush (v := 60) dX12_init_133 (by decide) ?_
  refine aE_newa (mem' := UN 89) (N := 60) dX12_init_135 (Or.inl ⟨rfl, rfl, rfl⟩) ar_i rfl (by decide) rfl (UN_z (N := 60) (Or.inl rfl) (by decide +kernel) (by decide)) (fun _ _ => rfl) (by decide) ⟨by decide, by decide⟩ ?_
  refine aE_putf dX12_init_137 fp_X12_63 (Or.inr rfl) (by decide) rfl (fun g => ⟨rfl, rfl⟩) ?_
  refine aE_mem (UN_put (k := 89) (a := 101) (j := 25) (v := .ref 117) (by decide +kernel) (by decide +kernel) rfl) ?_
  refine aE_aload_n dX12_init_140 rfl rfl ?_
  refine aE_iconst (v := 4) dX12_init_141 rfl ?_
  refine aE_newa (mem' := UN 90) (N := 4) dX12_init_142 (Or.inl ⟨rfl, rfl, rfl⟩) ar_i rfl (by decide) rfl (UN_z (N := 4) (Or.inl rfl) (by decide +kernel) (by decide)) (fun _ _ => rfl) (by decide) ⟨by decide, by decide⟩ ?_
  refine aE_putf dX12_init_144 fp_X12_66 (Or.inr rfl) (by decide) rfl (fun g => ⟨rfl, rfl⟩) ?_
  refine aE_mem (UN_put (k := 90) (a := 101) (j := 26) (v := .ref 118) (by decide +kernel) (by decide +kernel) rfl) ?_
  refine aE_aload_n dX12_init_147 rfl rfl ?_
  refine aE_iconst (v := 4) dX12_init_148 rfl ?_
  refine aE_newa (mem' := UN 91) (N := 4) dX12_init_149 (Or.inl ⟨rfl, rfl, rfl⟩) ar_i rfl (by decide) rfl (UN_z (N := 4) (Or.inl rfl) (by decide +kernel) (by decide)) (fun _ _ => rfl) (by decide) ⟨by decide, by decide⟩ ?_
  refine aE_putf dX12_init_151 fp_X12_69 (Or.inr rfl) (by decide) rfl (fun g => ⟨rfl, rfl⟩) ?_
  refine aE_mem (UN_put (k := 91) (a := 101) (j := 27) (v := .ref 119) (by decide +kernel) (by decide +kernel) rfl) ?_
  refine aE_aload_n dX12_init_154 rfl rfl ?_
  refine aE_bipush (v := 40) dX12_init_155 (by decide) ?_
  refine aE_newa (mem' := UN 92) (N := 40) dX12_init_157 (Or.inl ⟨rfl, rfl, rfl⟩) ar_i rfl (by decide) rfl (UN_z (N := 40) (Or.inl rfl) (by decide +kernel) (by decide)) (fun _ _ => rfl) (by decide) ⟨by decide, by decide⟩ ?_
  refine aE_putf dX12_init_159 fp_X12_72 (Or.inr rfl) (by decide) rfl (fun g => ⟨rfl, rfl⟩) ?_
  refine aE_mem (UN_put (k := 92) (a := 101) (j := 28) (v := .ref 120) (by decide +kernel) (by decide +kernel) rfl) ?_
  refine aE_aload_n dX12_init_162 rfl rfl ?_
  refine aE_bipush (v := 64) dX12_init_163 (by decide) ?_
  refine aE_newa (mem' := UN 93) (N := 64) dX12_init_165 (Or.inl ⟨rfl, rfl, rfl⟩) ar_i rfl (by decide) rfl (UN_z (N := 64) (Or.inl rfl) (by decide +kernel) (by decide)) (fun _ _ => rfl) (by decide) ⟨by decide, by decide⟩ ?_
  refine aE_putf dX12_init_167 fp_X12_75 (Or.inr rfl) (by decide) rfl (fun g => ⟨rfl, rfl⟩) ?_
  refine aE_mem (UN_put (k := 93) (a := 101) (j := 31) (v := .ref 121) (by decide +kernel) (by decide +kernel) rfl) ?_
  refine aE_aload_n dX12_init_170 rfl rfl ?_
  refine aE_sipush (v := 10240) dX12_init_171 (by decide) ?_
  refine aE_newa (mem' := UN 94) (N := 10240) dX12_init_174 (Or.inl ⟨rfl, rfl, rfl⟩) ar_i rfl (by decide) rfl (UN_z (N := 10240) (Or.inl rfl) (by decide +kernel) (by decide)) (fun _ _ => rfl) (by decide) ⟨by decide, by decide⟩ ?_
  refine aE_putf dX12_init_176 fp_X12_78 (Or.inr rfl) (by decide) rfl (fun g => ⟨rfl, rfl⟩) ?_
  refine aE_mem (UN_put (k := 94) (a := 101) (j := 32) (v := .ref 122) (by decide +kernel) (by decide +kernel) rfl) ?_
  refine aE_aload_n dX12_init_179 rfl rfl ?_
  refine aE_sipush (v := 1024) dX12_init_180 (by decide) ?_
  refine aE_newa (mem' := UN 95) (N := 1024) dX12_init_183 (Or.inl ⟨rfl, rfl, rfl⟩) ar_i rfl (by decide) rfl (UN_z (N := 1024) (Or.inl rfl) (by decide +kernel) (by decide)) (fun _ _ => rfl) (by decide) ⟨by decide, by decide⟩ ?_
  refine aE_putf dX12_init_185 fp_X12_81 (Or.inr rfl) (by decide) rfl (fun g => ⟨rfl, rfl⟩) ?_
  refine aE_mem (UN_put (k := 95) (a := 101) (j := 33) (v := .ref 123) (by decide +kernel) (by decide +kernel) rfl) ?_
  refine aE_aload_n dX12_init_188 rfl rfl ?_
  refine aE_sipush (v := 1024) dX12_init_189 (by decide) ?_
  refine aE_newa (mem' := UN 96) (N := 1024) dX12_init_192 (Or.inl ⟨rfl, rfl, rfl⟩) ar_i rfl (by decide) rfl (UN_z (N := 1024) (Or.inl rfl) (by decide +kernel) (by decide)) (fun _ _ => rfl) (by decide) ⟨by decide, by decide⟩ ?_
  refine aE_putf dX12_init_194 fp_X12_84 (Or.inr rfl) (by decide) rfl (fun g => ⟨rfl, rfl⟩) ?_
  refine aE_mem (UN_put (k := 96) (a := 101) (j := 34) (v := .ref 124) (by decide +kernel) (by decide +kernel) rfl) ?_
  refine aE_aload_n dX12_init_197 rfl rfl ?_
  refine aE_sipush (v := 1024) dX12_init_198 (by decide) ?_
  refine aE_newa (mem' := UN 97) (N := 1024) dX12_init_201 (Or.inl ⟨rfl, rfl, rfl⟩) ar_i rfl (by decide) rfl (UN_z (N := 1024) (Or.inl rfl) (by decide +kernel) (by decide)) (fun _ _ => rfl) (by decide) ⟨by decide, by decide⟩ ?_
  refine aE_putf dX12_init_203 fp_X12_87 (Or.inr rfl) (by decide) rfl (fun g => ⟨rfl, rfl⟩) ?_
  refine aE_mem (UN_put (k := 97) (a := 101) (j := 35) (v := .ref 125) (by decide +kernel) (by decide +kernel) rfl) ?_
  refine aE_aload_n dX12_init_206 rfl rfl ?_
  refine aE_sipush (v := 1024) dX12_init_207 (by decide) ?_
  refine aE_newa (mem' := UN 98) (N := 1024) dX12_init_210 (Or.inl ⟨rfl, rfl, rfl⟩) ar_i rfl (by decide) rfl (UN_z (N := 1024) (Or.inl rfl) (by decide +kernel) (by decide)) (fun _ _ => rfl) (by decide) ⟨by decide, by decide⟩ ?_
  refine aE_putf dX12_init_212 fp_X12_90 (Or.inr rfl) (by decide) rfl (fun g => ⟨rfl, rfl⟩) ?_
  refine aE_mem (UN_put (k := 98) (a := 101) (j := 36) (v := .ref 126) (by decide +kernel) (by decide +kernel) rfl) ?_
  refine aE_aload_n dX12_init_215 rfl rfl ?_
  refine aE_bipush (v := 10) dX12_init_216 (by decide) ?_
  refine aE_newa (mem' := UN 99) (N := 10) dX12_init_218 (Or.inl ⟨rfl, rfl, rfl⟩) ar_i rfl (by decide) rfl (UN_z (N := 10) (Or.inl rfl) (by decide +kernel) (by decide)) (fun _ _ => rfl) (by decide) ⟨by decide, by decide⟩ ?_
  refine aE_putf dX12_init_220 fp_X12_93 (Or.inr rfl) (by decide) rfl (fun g => ⟨rfl, rfl⟩) ?_
  refine aE_mem (UN_put (k := 99) (a := 101) (j := 37) (v := .ref 127) (by decide +kernel) (by decide +kernel) rfl) ?_
  refine aE_aload_n dX12_init_223 rfl rfl ?_
  refine aE_bipush (v := 10) dX12_init_224 (by decide) ?_
  refine aE_newa (mem' := UN 100) (N := 10) dX12_init_226 (Or.inl ⟨rfl, rfl, rfl⟩) ar_i rfl (by decide) rfl (UN_z (N := 10) (Or.inl rfl) (by decide +kernel) (by decide)) (fun _ _ => rfl) (by decide) ⟨by decide, by decide⟩ ?_
  refine aE_putf dX12_init_228 fp_X12_96 (Or.inr rfl) (by decide) rfl (fun g => ⟨rfl, rfl⟩) ?_
  refine aE_mem (UN_put (k := 100) (a := 101) (j := 38) (v := .ref 128) (by decide +kernel) (by decide +kernel) rfl) ?_
  refine aE_aload_n dX12_init_231 rfl rfl ?_
  refine aE_bipush (v := 10) dX12_init_232 (by decide) ?_
  refine aE_newa (mem' := UN 101) (N := 10) dX12_init_234 (Or.inl ⟨rfl, rfl, rfl⟩) ar_i rfl (by decide) rfl (UN_z (N := 10) (Or.inl rfl) (by decide +kernel) (by decide)) (fun _ _ => rfl) (by decide) ⟨by decide, by decide⟩ ?_
  refine aE_putf dX12_init_236 fp_X12_99 (Or.inr rfl) (by decide) rfl (fun g => ⟨rfl, rfl⟩) ?_
  refine aE_mem (UN_put (k := 101) (a := 101) (j := 39) (v := .ref 129) (by decide +kernel) (by decide +kernel) rfl) ?_
  refine aE_aload_n dX12_init_239 rfl rfl ?_
  refine aE_iconst (v := 4) dX12_init_240 rfl ?_
  refine aE_newa (mem' := UN 102) (N := 4) dX12_init_241 (Or.inl ⟨rfl, rfl, rfl⟩) ar_i rfl (by decide) rfl (UN_z (N := 4) (Or.inl rfl) (by decide +kernel) (by decide)) (fun _ _ => rfl) (by decide) ⟨by decide, by decide⟩ ?_
  refine aE_putf dX12_init_243 fp_X12_102 (Or.inr rfl) (by decide) rfl (fun g => ⟨rfl, rfl⟩) ?_
  refine aE_mem (UN_put (k := 102) (a := 101) (j := 40) (v := .ref 130) (by decide +kernel) (by decide +kernel) rfl) ?_
  refine aE_aload_n dX12_init_246 rfl rfl ?_
  refine aE_iconst (v := 4) dX12_init_247 rfl ?_
  refine aE_newa (mem' := UN 103) (N := 4) dX12_init_248 (Or.inl ⟨rfl, rfl, rfl⟩) ar_i rfl (by decide) rfl (UN_z (N := 4) (Or.inl rfl) (by decide +kernel) (by decide)) (fun _ _ => rfl) (by decide) ⟨by decide, by decide⟩ ?_
  refine aE_putf dX12_init_250 fp_X12_105 (Or.inr rfl) (by decide) rfl (fun g => ⟨rfl, rfl⟩) ?_
  refine aE_mem (UN_put (k := 103) (a := 101) (j := 41) (v := .ref 131) (by decide +kernel) (by decide +kernel) rfl) ?_
  refine aE_aload_n dX12_init_253 rfl rfl ?_
  refine aE_iconst (v := 4) dX12_init_254 rfl ?_
  refine aE_newa (mem' := UN 104) (N := 4) dX12_init_255 (Or.inl ⟨rfl, rfl, rfl⟩) ar_i rfl (by decide) rfl (UN_z (N := 4) (Or.inl rfl) (by decide +kernel) (by decide)) (fun _ _ => rfl) (by decide) ⟨by decide, by decide⟩ ?_
  refine aE_putf dX12_init_257 fp_X12_108 (Or.inr rfl) (by decide) rfl (fun g => ⟨rfl, rfl⟩) ?_
  refine aE_mem (UN_put (k := 104) (a := 101) (j := 44) (v := .ref 132) (by decide +kernel) (by decide +kernel) rfl) ?_
  refine aE_aload_n dX12_init_260 rfl rfl ?_
  refine aE_bipush (v := 10) dX12_init_261 (by decide) ?_
  refine aE_newa (mem' := UN 105) (N := 10) dX12_init_263 (Or.inl ⟨rfl, rfl, rfl⟩) ar_i rfl (by decide) rfl (UN_z (N := 10) (Or.inl rfl) (by decide +kernel) (by decide)) (fun _ _ => rfl) (by decide) ⟨by decide, by decide⟩ ?_
  refine aE_putf dX12_init_265 fp_X12_111 (Or.inr rfl) (by decide) rfl (fun g => ⟨rfl, rfl⟩) ?_
  refine aE_mem (UN_put (k := 105) (a := 101) (j := 45) (v := .ref 133) (by decide +kernel) (by decide +kernel) rfl) ?_
  refine aE_aload_n dX12_init_268 rfl rfl ?_
  refine aE_sipush (v := 11264) dX12_init_269 (by decide) ?_
  refine aE_newa (mem' := UN 106) (N := 11264) dX12_init_272 (Or.inl ⟨rfl, rfl, rfl⟩) ar_i rfl (by decide) rfl (UN_z (N := 11264) (Or.inl rfl) (by decide +kernel) (by decide)) (fun _ _ => rfl) (by decide) ⟨by decide, by decide⟩ ?_
  refine aE_putf dX12_init_274 fp_X12_114 (Or.inr rfl) (by decide) rfl (fun g => ⟨rfl, rfl⟩) ?_
  refine aE_mem (UN_put (k := 106) (a := 101) (j := 46) (v := .ref 134) (by decide +kernel) (by decide +kernel) rfl) ?_
  refine aE_aload_n dX12_init_277 rfl rfl ?_
  refine aE_bipush (v := 10) dX12_init_278 (by decide) ?_
  refine aE_newa (mem' := UN 107) (N := 10) dX12_init_280 (Or.inl ⟨rfl, rfl, rfl⟩) ar_i rfl (by decide) rfl (UN_z (N := 10) (Or.inl rfl) (by decide +kernel) (by decide)) (fun _ _ => rfl) (by decide) ⟨by decide, by decide⟩ ?_
  refine aE_putf dX12_init_282 fp_X12_117 (Or.inr rfl) (by decide) rfl (fun g => ⟨rfl, rfl⟩) ?_
  refine aE_mem (UN_put (k := 107) (a := 101) (j := 47) (v := .ref 135) (by decide +kernel) (by decide +kernel) rfl) ?_
  refine aE_aload_n dX12_init_285 rfl rfl ?_
  refine aE_bipush (v := 10) dX12_init_286 (by decide) ?_
  refine aE_newa (mem' := UN 108) (N := 10) dX12_init_288 (Or.inl ⟨rfl, rfl, rfl⟩) ar_i rfl (by decide) rfl (UN_z (N := 10) (Or.inl rfl) (by decide +kernel) (by decide)) (fun _ _ => rfl) (by decide) ⟨by decide, by decide⟩ ?_
  refine aE_putf dX12_init_290 fp_X12_120 (Or.inr rfl) (by decide) rfl (fun g => ⟨rfl, rfl⟩) ?_
  refine aE_mem (UN_put (k := 108) (a := 101) (j := 48) (v := .ref 136) (by decide +kernel) (by decide +kernel) rfl) ?_
  refine aE_aload_n dX12_init_293 rfl rfl ?_
  refine aE_bipush (v := 10) dX12_init_294 (by decide) ?_
  refine aE_newa (mem' := UN 109) (N := 10) dX12_init_296 (Or.inl ⟨rfl, rfl, rfl⟩) ar_i rfl (by decide) rfl (UN_z (N := 10) (Or.inl rfl) (by decide +kernel) (by decide)) (fun _ _ => rfl) (by decide) ⟨by decide, by decide⟩ ?_
  refine aE_putf dX12_init_298 fp_X12_123 (Or.inr rfl) (by decide) rfl (fun g => ⟨rfl, rfl⟩) ?_
  refine aE_mem (UN_put (k := 109) (a := 101) (j := 49) (v := .ref 137) (by decide +kernel) (by decide +kernel) rfl) ?_
  refine aE_aload_n dX12_init_301 rfl rfl ?_
  refine aE_bipush (v := 10) dX12_init_302 (by decide) ?_
  refine aE_newa (mem' := UN 110) (N := 10) dX12_init_304 (Or.inl ⟨rfl, rfl, rfl⟩) ar_i rfl (by decide) rfl (UN_z (N := 10) (Or.inl rfl) (by decide +kernel) (by decide)) (fun _ _ => rfl) (by decide) ⟨by decide, by decide⟩ ?_
  refine aE_putf dX12_init_306 fp_X12_126 (Or.inr rfl) (by decide) rfl (fun g => ⟨rfl, rfl⟩) ?_
  refine aE_mem (UN_put (k := 110) (a := 101) (j := 50) (v := .ref 138) (by decide +kernel) (by decide +kernel) rfl) ?_
  refine aE_aload_n dX12_init_309 rfl rfl ?_
  refine aE_bipush (v := 11) dX12_init_310 (by decide) ?_
  refine aE_newa (mem' := UN 111) (N := 11) dX12_init_312 (Or.inl ⟨rfl, rfl, rfl⟩) ar_i rfl (by decide) rfl (UN_z (N := 11) (Or.inl rfl) (by decide +kernel) (by decide)) (fun _ _ => rfl) (by decide) ⟨by decide, by decide⟩ ?_
  refine aE_putf dX12_init_314 fp_X12_129 (Or.inr rfl) (by decide) rfl (fun g => ⟨rfl, rfl⟩) ?_
  refine aE_mem (UN_put (k := 111) (a := 101) (j := 51) (v := .ref 139) (by decide +kernel) (by decide +kernel) rfl) ?_
  refine aE_aload_n dX12_init_317 rfl rfl ?_
  refine aE_bipush (v := 11) dX12_init_318 (by decide) ?_
  refine aE_newa (mem' := UN 112) (N := 11) dX12_init_320 (Or.inl ⟨rfl, rfl, rfl⟩) ar_i rfl (by decide) rfl (UN_z (N := 11) (Or.inl rfl) (by decide +kernel) (by decide)) (fun _ _ => rfl) (by decide) ⟨by decide, by decide⟩ ?_
  refine aE_putf dX12_init_322 fp_X12_132 (Or.inr rfl) (by decide) rfl (fun g => ⟨rfl, rfl⟩) ?_
  refine aE_mem (UN_put (k := 112) (a := 101) (j := 52) (v := .ref 140) (by decide +kernel) (by decide +kernel) rfl) ?_
  refine aE_aload_n dX12_init_325 rfl rfl ?_
  refine aE_bipush (v := 11) dX12_init_326 (by decide) ?_
  refine aE_newa (mem' := UN 113) (N := 11) dX12_init_328 (Or.inl ⟨rfl, rfl, rfl⟩) ar_i rfl (by decide) rfl (UN_z (N := 11) (Or.inl rfl) (by decide +kernel) (by decide)) (fun _ _ => rfl) (by decide) ⟨by decide, by decide⟩ ?_
  refine aE_putf dX12_init_330 fp_X12_135 (Or.inr rfl) (by decide) rfl (fun g => ⟨rfl, rfl⟩) ?_
  refine aE_mem (UN_put (k := 113) (a := 101) (j := 53) (v := .ref 141) (by decide +kernel) (by decide +kernel) rfl) ?_
  refine aE_aload_n dX12_init_333 rfl rfl ?_
  refine aE_bipush (v := 44) dX12_init_334 (by decide) ?_
  refine aE_newa (mem' := UN 114) (N := 44) dX12_init_336 (Or.inl ⟨rfl, rfl, rfl⟩) ar_i rfl (by decide) rfl (UN_z (N := 44) (Or.inl rfl) (by decide +kernel) (by decide)) (fun _ _ => rfl) (by decide) ⟨by decide, by decide⟩ ?_
  refine aE_putf dX12_init_338 fp_X12_138 (Or.inr rfl) (by decide) rfl (fun g => ⟨rfl, rfl⟩) ?_
  refine aE_mem (UN_put (k := 114) (a := 101) (j := 54) (v := .ref 142) (by decide +kernel) (by decide +kernel) rfl) ?_
  refine aE_aload_n dX12_init_341 rfl rfl ?_
  refine aE_bipush (v := 44) dX12_init_342 (by decide) ?_
  refine aE_newa (mem' := UN 115) (N := 44) dX12_init_344 (Or.inl ⟨rfl, rfl, rfl⟩) ar_i rfl (by decide) rfl (UN_z (N := 44) (Or.inl rfl) (by decide +kernel) (by decide)) (fun _ _ => rfl) (by decide) ⟨by decide, by decide⟩ ?_
  refine aE_putf dX12_init_346 fp_X12_141 (Or.inr rfl) (by decide) rfl (fun g => ⟨rfl, rfl⟩) ?_
  refine aE_mem (UN_put (k := 115) (a := 101) (j := 55) (v := .ref 143) (by decide +kernel) (by decide +kernel) rfl) ?_
  refine aE_aload_n dX12_init_349 rfl rfl ?_
  refine aE_bipush (v := 10) dX12_init_350 (by decide) ?_
  refine aE_newa (mem' := UN 116) (N := 10) dX12_init_352 (Or.inl ⟨rfl, rfl, rfl⟩) ar_i rfl (by decide) rfl (UN_z (N := 10) (Or.inl rfl) (by decide +kernel) (by decide)) (fun _ _ => rfl) (by decide) ⟨by decide, by decide⟩ ?_
  refine aE_putf dX12_init_354 fp_X12_144 (Or.inr rfl) (by decide) rfl (fun g => ⟨rfl, rfl⟩) ?_
  refine aE_mem (UN_put (k := 116) (a := 101) (j := 58) (v := .ref 144) (by decide +kernel) (by decide +kernel) rfl) ?_
  refine aE_aload_n dX12_init_357 rfl rfl ?_
  refine aE_bipush (v := 110) dX12_init_358 (by decide) ?_
  refine aE_newa (mem' := UN 117) (N := 110) dX12_init_360 (Or.inl ⟨rfl, rfl, rfl⟩) ar_i rfl (by decide) rfl (UN_z (N := 110) (Or.inl rfl) (by decide +kernel) (by decide)) (fun _ _ => rfl) (by decide) ⟨by decide, by decide⟩ ?_
  refine aE_putf dX12_init_362 fp_X12_147 (Or.inr rfl) (by decide) rfl (fun g => ⟨rfl, rfl⟩) ?_
  refine aE_mem (UN_put (k := 117) (a := 101) (j := 59) (v := .ref 145) (by decide +kernel) (by decide +kernel) rfl) ?_
  refine aE_aload_n dX12_init_365 rfl rfl ?_
  refine aE_bipush (v := 10) dX12_init_366 (by decide) ?_
  refine aE_newa (mem' := UN 118) (N := 10) dX12_init_368 (Or.inl ⟨rfl, rfl, rfl⟩) ar_i rfl (by decide) rfl (UN_z (N := 10) (Or.inl rfl) (by decide +kernel) (by decide)) (fun _ _ => rfl) (by decide) ⟨by decide, by decide⟩ ?_
  refine aE_putf dX12_init_370 fp_X12_150 (Or.inr rfl) (by decide) rfl (fun g => ⟨rfl, rfl⟩) ?_
  refine aE_mem (UN_put (k := 118) (a := 101) (j := 60) (v := .ref 146) (by decide +kernel) (by decide +kernel) rfl) ?_
  refine aE_vret dX12_init_373 rfl ⟨by decide, by decide⟩ ?_
  exact ⟨rfl, rfl, rfl⟩
