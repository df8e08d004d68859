theorem a_rio {v v' : Int32} {n : Nat} {mem mem' : aM} (h : v = v') (hm : mem = mem') : a_ri v' n mem' (some (.int v)) n mem := ⟨by rw [h], rfl, hm⟩
/-- within(v, low, high) -/
def wi (v lo hi : Int32) : Int32 := if lo ≤ v ∧ v ≤ hi then 1 else 0
theorem wi_0 {v lo hi : Int32} (h : wi v lo hi = 0) : ¬ (lo ≤ v ∧ v ≤ hi) := by
  intro q; unfold wi at h; rw [if_pos q] at h; exact absurd h (by decide)
theorem wi_1 {v lo hi : Int32} (h : ¬ wi v lo hi = 0) : lo ≤ v ∧ v ≤ hi := by
  unfold wi at h
  by_cases q : lo ≤ v ∧ v ≤ hi
  · exact q
  · rw [if_neg q] at h; exact absurd rfl h
theorem wi_or (v lo hi : Int32) : wi v lo hi = 0 ∨ wi v lo hi = 1 := by
  unfold wi; split
  · exact Or.inr rfl
  · exact Or.inl rfl
/-- within(v, 0, n - 1): v is a number below n -/
theorem wi_ix {v : Int32} {m : Nat} (hm : m < 2 ^ 31) (h : ¬ wi v 0 (nI m - 1) = 0) : ∃ j, j < m ∧ v = nI j := by
  obtain ⟨h1, h2⟩ := wi_1 h
  cases m with
  | zero =>
    have h3 : v ≤ -1 := h2
    rw [Int32.le_iff_toInt_le] at h1 h3
    exact absurd (Int.le_trans h1 h3) (by decide)
  | succ m =>
    rw [nI_pred m] at h2
    obtain ⟨j, hj, e⟩ := nI_of2 (M := nI m) (n := m) (nI_toInt (by omega)) (Int32.not_lt.mpr h1) h2
    exact ⟨j, by omega, e⟩
theorem wi_nx {j m : Nat} (hm : m < 2 ^ 31) (h : j < m) : ¬ wi (nI j) 0 (nI m - 1) = 0 := by
  obtain ⟨k, rfl⟩ : ∃ k, m = k + 1 := ⟨m - 1, by omega⟩
  rw [nI_pred k]
  unfold wi
  rw [if_pos ⟨nI_pos' (by omega), nI_le (by omega) (by omega)⟩]
  decide
theorem wi_c {v : Int32} {m : Nat} (hm : m < 2 ^ 31) {M : Int32} (hM : M = nI m) (h : ¬ wi v 0 M = 0) : ∃ j, j ≤ m ∧ v = nI j := by
  obtain ⟨h1, h2⟩ := wi_1 h
  subst hM
  exact nI_of2 (nI_toInt hm) (Int32.not_lt.mpr h1) h2
/-- a finding counted: the class, the model -/
abbrev fnd (I : Nat → Nat → Int32) : Nat → Nat → Int32 := iu I 0 10 (I 0 10 + 1)
abbrev fndM (I : Nat → Nat → Int32) : Nat → Nat → Int32 := iu I 101 6 (I 101 6 + 1)
abbrev fall (I : Nat → Nat → Int32) : Nat → Nat → Int32 := iu (iu (iu I 0 7 0) 0 8 0) 0 9 0
abbrev qi (Q : Option Value → Nat → aM → Prop) (v : Int32) (I : Nat → Nat → Int32) (sp : Nat → Nat) (pl : Bool) : Prop := Q (some (.int v)) (nn pl) (MM I sp pl)
theorem iu_ne {I : Nat → Nat → Int32} {a j q i : Nat} {x : Int32} (h : q ≠ a ∨ i ≠ j) : iu I a j x q i = I q i := by
  unfold iu; rw [if_neg]; rintro ⟨rfl, rfl⟩; simp at h
theorem iu_eq {I : Nat → Nat → Int32} {a j : Nat} {x : Int32} : iu I a j x a j = x := by simp [iu]
section CB
variable {n : Nat} {mem : aM} {I : Nat → Nat → Int32} {sp : Nat → Nat} {pl : Bool} {Q : Option Value → Nat → aM → Prop}
set_option maxRecDepth 20000 in
theorem c_within (v lo hi : Int32)  : aRuns mX11_within (rK 0) [.int v, .int lo, .int hi] n mem (a_ri (wi v lo hi) n mem) := by
  refine aRuns_of pn_X11_within (Nat.le_of_ble_eq_true rfl) (fun z => aE_loc (ls' := [_, _, _]) rfl ?_)
  refine aE_iload_n dX11_within_0 rfl rfl ?_
  refine aE_iload_n dX11_within_1 rfl rfl ?_
  refine aE_icmp_lt (tgt := 14) dX11_within_2 (by decide) (fun h2 => ?_) (fun h2 => ?_)
  · skip
    have hr : (0 : Int32) = wi v lo hi := by unfold wi; rw [if_neg (fun q => Int32.not_lt.mpr q.1 h2)]
    refine aE_iconst (v := 0) dX11_within_14 rfl ?_
    refine aE_zret dX11_within_15 rfl (by first | exact Or.inl rfl | exact Or.inr rfl | exact wi_or _ _ _ | assumption) ⟨by decide, by decide⟩ ?_
    exact a_rio hr rfl
  · skip
    refine aE_iload_n dX11_within_5 rfl rfl ?_
    refine aE_iload_n dX11_within_6 rfl rfl ?_
    refine aE_icmp_gt (tgt := 14) dX11_within_7 (by decide) (fun h7 => ?_) (fun h7 => ?_)
    · skip
      have hr : (0 : Int32) = wi v lo hi := by unfold wi; rw [if_neg (fun q => Int32.not_lt.mpr q.2 h7)]
      refine aE_iconst (v := 0) dX11_within_14 rfl ?_
      refine aE_zret dX11_within_15 rfl (by first | exact Or.inl rfl | exact Or.inr rfl | exact wi_or _ _ _ | assumption) ⟨by decide, by decide⟩ ?_
      exact a_rio hr rfl
    · skip
      have hr : (1 : Int32) = wi v lo hi := by unfold wi; rw [if_pos ⟨Int32.not_lt.mp h2, Int32.not_lt.mp h7⟩]
      refine aE_iconst (v := 1) dX11_within_10 rfl ?_
      refine aE_goto (tgt := 15) dX11_within_11 (by decide) ?_
      refine aE_zret dX11_within_15 rfl (by first | exact Or.inl rfl | exact Or.inr rfl | exact wi_or _ _ _ | assumption) ⟨by decide, by decide⟩ ?_
      exact a_rio hr rfl

set_option maxRecDepth 20000 in
theorem c_in (v lo hi : Int32)  : aRuns mX12_in (rK 0) [.int v, .int lo, .int hi] n mem (a_ri (wi v lo hi) n mem) := by
  refine aRuns_of pn_X12_in (Nat.le_of_ble_eq_true rfl) (fun z => aE_loc (ls' := [_, _, _]) rfl ?_)
  refine aE_iload_n dX12_in_0 rfl rfl ?_
  refine aE_iload_n dX12_in_1 rfl rfl ?_
  refine aE_icmp_lt (tgt := 14) dX12_in_2 (by decide) (fun h2 => ?_) (fun h2 => ?_)
  · skip
    have hr : (0 : Int32) = wi v lo hi := by unfold wi; rw [if_neg (fun q => Int32.not_lt.mpr q.1 h2)]
    refine aE_iconst (v := 0) dX12_in_14 rfl ?_
    refine aE_zret dX12_in_15 rfl (by first | exact Or.inl rfl | exact Or.inr rfl | exact wi_or _ _ _ | assumption) ⟨by decide, by decide⟩ ?_
    exact a_rio hr rfl
  · skip
    refine aE_iload_n dX12_in_5 rfl rfl ?_
    refine aE_iload_n dX12_in_6 rfl rfl ?_
    refine aE_icmp_gt (tgt := 14) dX12_in_7 (by decide) (fun h7 => ?_) (fun h7 => ?_)
    · skip
      have hr : (0 : Int32) = wi v lo hi := by unfold wi; rw [if_neg (fun q => Int32.not_lt.mpr q.2 h7)]
      refine aE_iconst (v := 0) dX12_in_14 rfl ?_
      refine aE_zret dX12_in_15 rfl (by first | exact Or.inl rfl | exact Or.inr rfl | exact wi_or _ _ _ | assumption) ⟨by decide, by decide⟩ ?_
      exact a_rio hr rfl
    · skip
      have hr : (1 : Int32) = wi v lo hi := by unfold wi; rw [if_pos ⟨Int32.not_lt.mp h2, Int32.not_lt.mp h7⟩]
      refine aE_iconst (v := 1) dX12_in_10 rfl ?_
      refine aE_goto (tgt := 15) dX12_in_11 (by decide) ?_
      refine aE_zret dX12_in_15 rfl (by first | exact Or.inl rfl | exact Or.inr rfl | exact wi_or _ _ _ | assumption) ⟨by decide, by decide⟩ ?_
      exact a_rio hr rfl

set_option maxRecDepth 20000 in
theorem c_found (f : Int32)  : aRuns mX11_found (rK 0) [.ref 0, .int f] (nn pl) (MM I sp pl) (a_ri f (nn pl) (MM (fnd I) sp pl)) := by
  refine aRuns_of pn_X11_found (Nat.le_of_ble_eq_true rfl) (fun z => aE_loc (ls' := [_, _]) rfl ?_)
  refine aE_aload_n dX11_found_0 rfl rfl ?_
  refine aE_dup dX11_found_1 rfl ?_
  refine aE_geti dX11_found_2 fw_X11_324 (lt_nn (by decide)) rfl (by decide) rfl ?_
  refine aE_iconst (v := 1) dX11_found_5 rfl ?_
  refine aE_iadd dX11_found_6 ?_
  refine aE_puti dX11_found_7 fp_X11_324 (Or.inl rfl) (lt_nn (by decide)) rfl (fun _ => ⟨rfl, rfl⟩) (by decide) rfl ?_
  refine aE_iload_n dX11_found_10 rfl rfl ?_
  refine aE_iret dX11_found_11 rfl ⟨by decide, by decide⟩ ?_
  exact ⟨rfl, rfl, rfl⟩

set_option maxRecDepth 20000 in
theorem c_finds (f : Int32)  : aRuns mX12_finds (rK 0) [.ref 101, .int f] (nn pl) (MM I sp pl) (a_ri f (nn pl) (MM (fndM I) sp pl)) := by
  refine aRuns_of pn_X12_finds (Nat.le_of_ble_eq_true rfl) (fun z => aE_loc (ls' := [_, _]) rfl ?_)
  refine aE_aload_n dX12_finds_0 rfl rfl ?_
  refine aE_dup dX12_finds_1 rfl ?_
  refine aE_geti dX12_finds_2 fw_X12_153 (lt_nn (by decide)) rfl (by decide) rfl ?_
  refine aE_iconst (v := 1) dX12_finds_5 rfl ?_
  refine aE_iadd dX12_finds_6 ?_
  refine aE_puti dX12_finds_7 fp_X12_153 (Or.inl rfl) (lt_nn (by decide)) rfl (fun _ => ⟨rfl, rfl⟩) (by decide) rfl ?_
  refine aE_iload_n dX12_finds_10 rfl rfl ?_
  refine aE_iret dX12_finds_11 rfl ⟨by decide, by decide⟩ ?_
  exact ⟨rfl, rfl, rfl⟩

set_option maxRecDepth 20000 in
theorem c_plansFall   : aRuns mX11_plansFall (rK 0) [.ref 0] (nn pl) (MM I sp pl) (a_rv (nn pl) (MM (fall I) sp pl)) := by
  refine aRuns_of pn_X11_plansFall (Nat.le_of_ble_eq_true rfl) (fun z => aE_loc (ls' := [_]) rfl ?_)
  refine aE_aload_n dX11_plansFall_0 rfl rfl ?_
  refine aE_iconst (v := 0) dX11_plansFall_1 rfl ?_
  refine aE_puti dX11_plansFall_2 fp_X11_327 (Or.inl rfl) (lt_nn (by decide)) rfl (fun _ => a_narZ (by first | exact Or.inl rfl | exact Or.inr rfl | assumption)) (by decide) rfl ?_
  refine aE_aload_n dX11_plansFall_5 rfl rfl ?_
  refine aE_iconst (v := 0) dX11_plansFall_6 rfl ?_
  refine aE_puti dX11_plansFall_7 fp_X11_142 (Or.inl rfl) (lt_nn (by decide)) rfl (fun _ => a_narZ (by first | exact Or.inl rfl | exact Or.inr rfl | assumption)) (by decide) rfl ?_
  refine aE_aload_n dX11_plansFall_10 rfl rfl ?_
  refine aE_iconst (v := 0) dX11_plansFall_11 rfl ?_
  refine aE_puti dX11_plansFall_12 fp_X11_146 (Or.inl rfl) (lt_nn (by decide)) rfl (fun _ => a_narZ (by first | exact Or.inl rfl | exact Or.inr rfl | assumption)) (by decide) rfl ?_
  refine aE_vret dX11_plansFall_15 rfl ⟨by decide, by decide⟩ ?_
  exact ⟨rfl, rfl, rfl⟩

set_option maxRecDepth 20000 in
theorem c_another   : aRuns mX12_another (rK 0) [.ref 101] (nn pl) (MM I sp pl) (a_rv (nn pl) (MM (iu (iu I 101 29 0) 101 30 0) sp pl)) := by
  refine aRuns_of pn_X12_another (Nat.le_of_ble_eq_true rfl) (fun z => aE_loc (ls' := [_]) rfl ?_)
  refine aE_aload_n dX12_another_0 rfl rfl ?_
  refine aE_iconst (v := 0) dX12_another_1 rfl ?_
  refine aE_puti dX12_another_2 fp_X12_169 (Or.inl rfl) (lt_nn (by decide)) rfl (fun _ => a_narZ (by first | exact Or.inl rfl | exact Or.inr rfl | assumption)) (by decide) rfl ?_
  refine aE_aload_n dX12_another_5 rfl rfl ?_
  refine aE_iconst (v := 0) dX12_another_6 rfl ?_
  refine aE_puti dX12_another_7 fp_X12_173 (Or.inl rfl) (lt_nn (by decide)) rfl (fun _ => a_narZ (by first | exact Or.inl rfl | exact Or.inr rfl | assumption)) (by decide) rfl ?_
  refine aE_vret dX12_another_10 rfl ⟨by decide, by decide⟩ ?_
  exact ⟨rfl, rfl, rfl⟩

set_option maxRecDepth 20000 in
theorem c_hasCorner (c : Int32)  : aRuns mX10_hasCorner (rK 1) [.ref 2, .int c] (nn pl) (MM I sp pl) (a_ri (wi c 0 (I 2 0 - 1)) (nn pl) (MM I sp pl)) := by
  refine aRuns_of pn_X10_hasCorner (Nat.le_of_ble_eq_true rfl) (fun z => aE_loc (ls' := [_, _]) rfl ?_)
  refine aE_iload_n dX10_hasCorner_0 rfl rfl ?_
  refine aE_iconst (v := 0) dX10_hasCorner_1 rfl ?_
  refine aE_aload_n dX10_hasCorner_2 rfl rfl ?_
  refine aE_geti dX10_hasCorner_3 fw_X10_33 (lt_nn (by decide)) rfl (by decide) rfl ?_
  refine aE_iconst (v := 1) dX10_hasCorner_6 rfl ?_
  refine aE_isub dX10_hasCorner_7 ?_
  refine aE_cSNi dX10_hasCorner_8 ln_X10_37 ms_X11_within (c_within _ _ _) rfl rfl ⟨by decide, by decide⟩ (Nat.le_of_ble_eq_true rfl) ⟨rfl, rfl⟩ ⟨by decide, by decide⟩ ?_
  refine aE_zret dX10_hasCorner_11 rfl (by first | exact Or.inl rfl | exact Or.inr rfl | exact wi_or _ _ _ | assumption) ⟨by decide, by decide⟩ ?_
  exact ⟨rfl, rfl, rfl⟩

set_option maxRecDepth 20000 in
theorem c_hasSchool (c : Int32)  : aRuns mX0_hasSchool (rK 1) [.ref 1, .int c] (nn pl) (MM I sp pl) (a_ri (wi c 0 (I 1 4 - 1)) (nn pl) (MM I sp pl)) := by
  refine aRuns_of pn_X0_hasSchool (Nat.le_of_ble_eq_true rfl) (fun z => aE_loc (ls' := [_, _]) rfl ?_)
  refine aE_iload_n dX0_hasSchool_0 rfl rfl ?_
  refine aE_iconst (v := 0) dX0_hasSchool_1 rfl ?_
  refine aE_aload_n dX0_hasSchool_2 rfl rfl ?_
  refine aE_geti dX0_hasSchool_3 fw_X0_43 (lt_nn (by decide)) rfl (by decide) rfl ?_
  refine aE_iconst (v := 1) dX0_hasSchool_6 rfl ?_
  refine aE_isub dX0_hasSchool_7 ?_
  refine aE_cSNi dX0_hasSchool_8 ln_X0_46 ms_X11_within (c_within _ _ _) rfl rfl ⟨by decide, by decide⟩ (Nat.le_of_ble_eq_true rfl) ⟨rfl, rfl⟩ ⟨by decide, by decide⟩ ?_
  refine aE_zret dX0_hasSchool_11 rfl (by first | exact Or.inl rfl | exact Or.inr rfl | exact wi_or _ _ _ | assumption) ⟨by decide, by decide⟩ ?_
  exact ⟨rfl, rfl, rfl⟩

set_option maxRecDepth 20000 in
theorem c_hasStop (c : Int32)  : aRuns mX0_hasStop (rK 1) [.ref 1, .int c] (nn pl) (MM I sp pl) (a_ri (wi c 0 (I 1 5 - 1)) (nn pl) (MM I sp pl)) := by
  refine aRuns_of pn_X0_hasStop (Nat.le_of_ble_eq_true rfl) (fun z => aE_loc (ls' := [_, _]) rfl ?_)
  refine aE_iload_n dX0_hasStop_0 rfl rfl ?_
  refine aE_iconst (v := 0) dX0_hasStop_1 rfl ?_
  refine aE_aload_n dX0_hasStop_2 rfl rfl ?_
  refine aE_geti dX0_hasStop_3 fw_X0_50 (lt_nn (by decide)) rfl (by decide) rfl ?_
  refine aE_iconst (v := 1) dX0_hasStop_6 rfl ?_
  refine aE_isub dX0_hasStop_7 ?_
  refine aE_cSNi dX0_hasStop_8 ln_X0_46 ms_X11_within (c_within _ _ _) rfl rfl ⟨by decide, by decide⟩ (Nat.le_of_ble_eq_true rfl) ⟨rfl, rfl⟩ ⟨by decide, by decide⟩ ?_
  refine aE_zret dX0_hasStop_11 rfl (by first | exact Or.inl rfl | exact Or.inr rfl | exact wi_or _ _ _ | assumption) ⟨by decide, by decide⟩ ?_
  exact ⟨rfl, rfl, rfl⟩

set_option maxRecDepth 20000 in
theorem c_isCorner (c : Int32)  : aRuns mX12_isCorner (rK 1) [.ref 101, .int c] (nn pl) (MM I sp pl) (a_ri (wi c 0 (I 101 0 - 1)) (nn pl) (MM I sp pl)) := by
  refine aRuns_of pn_X12_isCorner (Nat.le_of_ble_eq_true rfl) (fun z => aE_loc (ls' := [_, _]) rfl ?_)
  refine aE_iload_n dX12_isCorner_0 rfl rfl ?_
  refine aE_iconst (v := 0) dX12_isCorner_1 rfl ?_
  refine aE_aload_n dX12_isCorner_2 rfl rfl ?_
  refine aE_geti dX12_isCorner_3 fw_X12_156 (lt_nn (by decide)) rfl (by decide) rfl ?_
  refine aE_iconst (v := 1) dX12_isCorner_6 rfl ?_
  refine aE_isub dX12_isCorner_7 ?_
  refine aE_cSi dX12_isCorner_8 lk_X12_159 ms_X12_in (c_in _ _ _) rfl rfl ⟨by decide, by decide⟩ (Nat.le_of_ble_eq_true rfl) ⟨rfl, rfl⟩ ⟨by decide, by decide⟩ ?_
  refine aE_zret dX12_isCorner_11 rfl (by first | exact Or.inl rfl | exact Or.inr rfl | exact wi_or _ _ _ | assumption) ⟨by decide, by decide⟩ ?_
  exact ⟨rfl, rfl, rfl⟩

set_option maxRecDepth 20000 in
theorem c_isSchool (c : Int32)  : aRuns mX12_isSchool (rK 1) [.ref 101, .int c] (nn pl) (MM I sp pl) (a_ri (wi c 0 (I 101 2 - 1)) (nn pl) (MM I sp pl)) := by
  refine aRuns_of pn_X12_isSchool (Nat.le_of_ble_eq_true rfl) (fun z => aE_loc (ls' := [_, _]) rfl ?_)
  refine aE_iload_n dX12_isSchool_0 rfl rfl ?_
  refine aE_iconst (v := 0) dX12_isSchool_1 rfl ?_
  refine aE_aload_n dX12_isSchool_2 rfl rfl ?_
  refine aE_geti dX12_isSchool_3 fw_X12_163 (lt_nn (by decide)) rfl (by decide) rfl ?_
  refine aE_iconst (v := 1) dX12_isSchool_6 rfl ?_
  refine aE_isub dX12_isSchool_7 ?_
  refine aE_cSi dX12_isSchool_8 lk_X12_159 ms_X12_in (c_in _ _ _) rfl rfl ⟨by decide, by decide⟩ (Nat.le_of_ble_eq_true rfl) ⟨rfl, rfl⟩ ⟨by decide, by decide⟩ ?_
  refine aE_zret dX12_isSchool_11 rfl (by first | exact Or.inl rfl | exact Or.inr rfl | exact wi_or _ _ _ | assumption) ⟨by decide, by decide⟩ ?_
  exact ⟨rfl, rfl, rfl⟩

set_option maxRecDepth 20000 in
theorem c_isStop (c : Int32)  : aRuns mX12_isStop (rK 1) [.ref 101, .int c] (nn pl) (MM I sp pl) (a_ri (wi c 0 (I 101 3 - 1)) (nn pl) (MM I sp pl)) := by
  refine aRuns_of pn_X12_isStop (Nat.le_of_ble_eq_true rfl) (fun z => aE_loc (ls' := [_, _]) rfl ?_)
  refine aE_iload_n dX12_isStop_0 rfl rfl ?_
  refine aE_iconst (v := 0) dX12_isStop_1 rfl ?_
  refine aE_aload_n dX12_isStop_2 rfl rfl ?_
  refine aE_geti dX12_isStop_3 fw_X12_166 (lt_nn (by decide)) rfl (by decide) rfl ?_
  refine aE_iconst (v := 1) dX12_isStop_6 rfl ?_
  refine aE_isub dX12_isStop_7 ?_
  refine aE_cSi dX12_isStop_8 lk_X12_159 ms_X12_in (c_in _ _ _) rfl rfl ⟨by decide, by decide⟩ (Nat.le_of_ble_eq_true rfl) ⟨rfl, rfl⟩ ⟨by decide, by decide⟩ ?_
  refine aE_zret dX12_isStop_11 rfl (by first | exact Or.inl rfl | exact Or.inr rfl | exact wi_or _ _ _ | assumption) ⟨by decide, by decide⟩ ?_
  exact ⟨rfl, rfl, rfl⟩

set_option maxRecDepth 20000 in
theorem c_addCorner   : aRuns mX10_addCorner (rK 0) [.ref 2] (nn pl) (MM I sp pl) (a_ri (I 2 0 + 1 - 1) (nn pl) (MM (iu (iu I 2 8 0) 2 0 (I 2 0 + 1)) sp pl)) := by
  refine aRuns_of pn_X10_addCorner (Nat.le_of_ble_eq_true rfl) (fun z => aE_loc (ls' := [_]) rfl ?_)
  refine aE_aload_n dX10_addCorner_0 rfl rfl ?_
  refine aE_iconst (v := 0) dX10_addCorner_1 rfl ?_
  refine aE_puti dX10_addCorner_2 fp_X10_41 (Or.inl rfl) (lt_nn (by decide)) rfl (fun _ => a_narZ (by first | exact Or.inl rfl | exact Or.inr rfl | assumption)) (by decide) rfl ?_
  refine aE_aload_n dX10_addCorner_5 rfl rfl ?_
  refine aE_dup dX10_addCorner_6 rfl ?_
  refine aE_geti dX10_addCorner_7 fw_X10_33 (lt_nn (by decide)) rfl (by decide) rfl ?_
  refine aE_iconst (v := 1) dX10_addCorner_10 rfl ?_
  refine aE_iadd dX10_addCorner_11 ?_
  refine aE_puti dX10_addCorner_12 fp_X10_33 (Or.inl rfl) (lt_nn (by decide)) rfl (fun _ => ⟨rfl, rfl⟩) (by decide) rfl ?_
  refine aE_aload_n dX10_addCorner_15 rfl rfl ?_
  refine aE_geti dX10_addCorner_16 fw_X10_33 (lt_nn (by decide)) rfl (by decide) rfl ?_
  refine aE_iconst (v := 1) dX10_addCorner_19 rfl ?_
  refine aE_isub dX10_addCorner_20 ?_
  refine aE_iret dX10_addCorner_21 rfl ⟨by decide, by decide⟩ ?_
  exact ⟨rfl, rfl, rfl⟩

set_option maxRecDepth 20000 in
theorem c_corner  (hF : ¬ I 2 0 < 8 → qi Q (-1000002) (fnd I) sp pl) (hO : I 2 0 < 8 → qi Q (I 2 0 + 1 - 1) (iu (iu I 2 8 0) 2 0 (I 2 0 + 1)) sp pl) : aRuns mX11_corner (rK 1) [.ref 0] (nn pl) (MM I sp pl) (Q) := by
  refine aRuns_of pn_X11_corner (Nat.le_of_ble_eq_true rfl) (fun z => aE_loc (ls' := [_]) rfl ?_)
  refine aE_aload_n dX11_corner_0 rfl rfl ?_
  refine aE_getf (v := .ref 1) dX11_corner_1 fw_X11_10 (lt_nn (by decide)) rfl rfl ?_
  refine aE_getf (v := .ref 2) dX11_corner_4 fw_X11_51 (lt_nn (by decide)) rfl rfl ?_
  refine aE_geti dX11_corner_7 fw_X11_55 (lt_nn (by decide)) rfl (by decide) rfl ?_
  refine aE_bipush (v := 8) dX11_corner_10 (by decide) ?_
  refine aE_icmp_lt (tgt := 22) dX11_corner_12 (by decide) (fun h12 => ?_) (fun h12 => ?_)
  · skip
    refine aE_aload_n dX11_corner_22 rfl rfl ?_
    refine aE_getf (v := .ref 1) dX11_corner_23 fw_X11_10 (lt_nn (by decide)) rfl rfl ?_
    refine aE_getf (v := .ref 2) dX11_corner_26 fw_X11_51 (lt_nn (by decide)) rfl rfl ?_
    refine aE_cVi dX11_corner_29 lk_X11_66 mv_X10_addCorner (c_addCorner ) rfl (lt_nn (by decide)) rfl rfl ⟨by decide, by decide⟩ (Nat.le_of_ble_eq_true rfl) ⟨rfl, rfl⟩ ⟨by decide, by decide⟩ ?_
    refine aE_iret dX11_corner_32 rfl ⟨by decide, by decide⟩ ?_
    exact hO h12
  · skip
    refine aE_aload_n dX11_corner_15 rfl rfl ?_
    refine aE_ldc dX11_corner_16 ct_X11_61 ?_
    refine aE_cVi dX11_corner_18 lk_X11_62 mv_X11_found (c_found _) rfl (lt_nn (by decide)) rfl rfl ⟨by decide, by decide⟩ (Nat.le_of_ble_eq_true rfl) ⟨rfl, rfl⟩ ⟨by decide, by decide⟩ ?_
    refine aE_iret dX11_corner_21 rfl ⟨by decide, by decide⟩ ?_
    exact hF h12

set_option maxRecDepth 20000 in
theorem c_addStreet (ns : Nat) (a b c : Int32) (hns : I 2 1 = nI ns) (h14 : ns < 14) : aRuns mX10_addStreet (rK 0) [.ref 2, .int a, .int b, .int c] (nn pl) (MM I sp pl) (a_ri (nI ns + 1 - 1) (nn pl) (MM (iu (iu (iu (iu (iu (iu I 2 8 0) 3 ns a) 4 ns b) 5 ns c) 6 ns 0) 2 1 (nI ns + 1)) sp pl)) := by
  refine aRuns_of pn_X10_addStreet (Nat.le_of_ble_eq_true rfl) (fun z => aE_loc (ls' := [_, _, _, _]) rfl ?_)
  refine aE_aload_n dX10_addStreet_0 rfl rfl ?_
  refine aE_iconst (v := 0) dX10_addStreet_1 rfl ?_
  refine aE_puti dX10_addStreet_2 fp_X10_41 (Or.inl rfl) (lt_nn (by decide)) rfl (fun _ => a_narZ (by first | exact Or.inl rfl | exact Or.inr rfl | assumption)) (by decide) rfl ?_
  refine aE_aload_n dX10_addStreet_5 rfl rfl ?_
  refine aE_getf (v := .ref 3) dX10_addStreet_6 fw_X10_9 (lt_nn (by decide)) rfl rfl ?_
  refine aE_aload_n dX10_addStreet_9 rfl rfl ?_
  refine aE_geti dX10_addStreet_10 fw_X10_45 (lt_nn (by decide)) rfl (by decide) rfl ?_
  refine aE_iload_n dX10_addStreet_13 rfl rfl ?_
  refine aE_istM dX10_addStreet_14 (lt_nn (by decide)) rfl (by decide) hns h14 ?_
  refine aE_aload_n dX10_addStreet_15 rfl rfl ?_
  refine aE_getf (v := .ref 4) dX10_addStreet_16 fw_X10_15 (lt_nn (by decide)) rfl rfl ?_
  refine aE_aload_n dX10_addStreet_19 rfl rfl ?_
  refine aE_geti dX10_addStreet_20 fw_X10_45 (lt_nn (by decide)) rfl (by decide) rfl ?_
  refine aE_iload_n dX10_addStreet_23 rfl rfl ?_
  refine aE_istM dX10_addStreet_24 (lt_nn (by decide)) rfl (by decide) hns h14 ?_
  refine aE_aload_n dX10_addStreet_25 rfl rfl ?_
  refine aE_getf (v := .ref 5) dX10_addStreet_26 fw_X10_18 (lt_nn (by decide)) rfl rfl ?_
  refine aE_aload_n dX10_addStreet_29 rfl rfl ?_
  refine aE_geti dX10_addStreet_30 fw_X10_45 (lt_nn (by decide)) rfl (by decide) rfl ?_
  refine aE_iload_n dX10_addStreet_33 rfl rfl ?_
  refine aE_istM dX10_addStreet_34 (lt_nn (by decide)) rfl (by decide) hns h14 ?_
  refine aE_aload_n dX10_addStreet_35 rfl rfl ?_
  refine aE_getf (v := .ref 6) dX10_addStreet_36 fw_X10_21 (lt_nn (by decide)) rfl rfl ?_
  refine aE_aload_n dX10_addStreet_39 rfl rfl ?_
  refine aE_geti dX10_addStreet_40 fw_X10_45 (lt_nn (by decide)) rfl (by decide) rfl ?_
  refine aE_iconst (v := 0) dX10_addStreet_43 rfl ?_
  refine aE_zstM dX10_addStreet_44 (lt_nn (by decide)) rfl (by decide) hns h14 (by first | exact Or.inl rfl | exact Or.inr rfl | assumption) ?_
  refine aE_aload_n dX10_addStreet_45 rfl rfl ?_
  refine aE_dup dX10_addStreet_46 rfl ?_
  refine aE_geti dX10_addStreet_47 fw_X10_45 (lt_nn (by decide)) rfl (by decide) rfl ?_
  rw [show iu (iu (iu (iu (iu I 2 8 0) 3 ns a) 4 ns b) 5 ns c) 6 ns 0 2 1 = nI ns from hns]
  refine aE_iconst (v := 1) dX10_addStreet_50 rfl ?_
  refine aE_iadd dX10_addStreet_51 ?_
  refine aE_puti dX10_addStreet_52 fp_X10_45 (Or.inl rfl) (lt_nn (by decide)) rfl (fun _ => ⟨rfl, rfl⟩) (by decide) rfl ?_
  refine aE_aload_n dX10_addStreet_55 rfl rfl ?_
  refine aE_geti dX10_addStreet_56 fw_X10_45 (lt_nn (by decide)) rfl (by decide) rfl ?_
  refine aE_iconst (v := 1) dX10_addStreet_59 rfl ?_
  refine aE_isub dX10_addStreet_60 ?_
  refine aE_iret dX10_addStreet_61 rfl ⟨by decide, by decide⟩ ?_
  exact ⟨rfl, rfl, rfl⟩

set_option maxRecDepth 20000 in
theorem c_street (a b c : Int32) (ns : Nat) (hns : I 2 1 = nI ns) (hs : ns < 1000) (hB : (wi a 0 (I 2 0 - 1) = 0 ∨ wi b 0 (I 2 0 - 1) = 0 ∨ a = b ∨ wi c 1 20 = 0) → qi Q (-1000001) (fnd I) sp pl) (hF : (¬ wi a 0 (I 2 0 - 1) = 0 ∧ ¬ wi b 0 (I 2 0 - 1) = 0 ∧ ¬ a = b ∧ ¬ wi c 1 20 = 0) → ¬ I 2 1 < 14 → qi Q (-1000002) (fnd I) sp pl) (hO : (¬ wi a 0 (I 2 0 - 1) = 0 ∧ ¬ wi b 0 (I 2 0 - 1) = 0 ∧ ¬ a = b ∧ ¬ wi c 1 20 = 0) → I 2 1 < 14 → qi Q (nI ns + 1 - 1) (iu (iu (iu (iu (iu (iu (fall I) 2 8 0) 3 ns a) 4 ns b) 5 ns c) 6 ns 0) 2 1 (nI ns + 1)) sp pl) : aRuns mX11_street (rK 2) [.ref 0, .int a, .int b, .int c] (nn pl) (MM I sp pl) (Q) := by
  refine aRuns_of pn_X11_street (Nat.le_of_ble_eq_true rfl) (fun z => aE_loc (ls' := [_, _, _, _]) rfl ?_)
  refine aE_aload_n dX11_street_0 rfl rfl ?_
  refine aE_getf (v := .ref 1) dX11_street_1 fw_X11_10 (lt_nn (by decide)) rfl rfl ?_
  refine aE_getf (v := .ref 2) dX11_street_4 fw_X11_51 (lt_nn (by decide)) rfl rfl ?_
  refine aE_iload_n dX11_street_7 rfl rfl ?_
  refine aE_cVi dX11_street_8 lk_X11_70 mv_X10_hasCorner (c_hasCorner _) rfl (lt_nn (by decide)) rfl rfl ⟨by decide, by decide⟩ (Nat.le_of_ble_eq_true rfl) ⟨rfl, rfl⟩ ⟨by decide, by decide⟩ ?_
  refine aE_if_eq (tgt := 43) dX11_street_11 (by decide) (fun h11 => ?_) (fun h11 => ?_)
  · skip
    refine aE_aload_n dX11_street_43 rfl rfl ?_
    refine aE_ldc dX11_street_44 ct_X11_78 ?_
    refine aE_cVi dX11_street_46 lk_X11_62 mv_X11_found (c_found _) rfl (lt_nn (by decide)) rfl rfl ⟨by decide, by decide⟩ (Nat.le_of_ble_eq_true rfl) ⟨rfl, rfl⟩ ⟨by decide, by decide⟩ ?_
    refine aE_iret dX11_street_49 rfl ⟨by decide, by decide⟩ ?_
    refine hB ?_
    first | exact Or.inl ‹_› | exact Or.inr (Or.inl ‹_›) | exact Or.inr (Or.inr (Or.inl ‹_›)) | exact Or.inr (Or.inr (Or.inr ‹_›))
  · skip
    refine aE_aload_n dX11_street_14 rfl rfl ?_
    refine aE_getf (v := .ref 1) dX11_street_15 fw_X11_10 (lt_nn (by decide)) rfl rfl ?_
    refine aE_getf (v := .ref 2) dX11_street_18 fw_X11_51 (lt_nn (by decide)) rfl rfl ?_
    refine aE_iload_n dX11_street_21 rfl rfl ?_
    refine aE_cVi dX11_street_22 lk_X11_70 mv_X10_hasCorner (c_hasCorner _) rfl (lt_nn (by decide)) rfl rfl ⟨by decide, by decide⟩ (Nat.le_of_ble_eq_true rfl) ⟨rfl, rfl⟩ ⟨by decide, by decide⟩ ?_
    refine aE_if_eq (tgt := 43) dX11_street_25 (by decide) (fun h25 => ?_) (fun h25 => ?_)
    · skip
      refine aE_aload_n dX11_street_43 rfl rfl ?_
      refine aE_ldc dX11_street_44 ct_X11_78 ?_
      refine aE_cVi dX11_street_46 lk_X11_62 mv_X11_found (c_found _) rfl (lt_nn (by decide)) rfl rfl ⟨by decide, by decide⟩ (Nat.le_of_ble_eq_true rfl) ⟨rfl, rfl⟩ ⟨by decide, by decide⟩ ?_
      refine aE_iret dX11_street_49 rfl ⟨by decide, by decide⟩ ?_
      refine hB ?_
      first | exact Or.inl ‹_› | exact Or.inr (Or.inl ‹_›) | exact Or.inr (Or.inr (Or.inl ‹_›)) | exact Or.inr (Or.inr (Or.inr ‹_›))
    · skip
      refine aE_iload_n dX11_street_28 rfl rfl ?_
      refine aE_iload_n dX11_street_29 rfl rfl ?_
      refine aE_icmp_eq (tgt := 43) dX11_street_30 (by decide) (fun h30 => ?_) (fun h30 => ?_)
      · skip
        refine aE_aload_n dX11_street_43 rfl rfl ?_
        refine aE_ldc dX11_street_44 ct_X11_78 ?_
        refine aE_cVi dX11_street_46 lk_X11_62 mv_X11_found (c_found _) rfl (lt_nn (by decide)) rfl rfl ⟨by decide, by decide⟩ (Nat.le_of_ble_eq_true rfl) ⟨rfl, rfl⟩ ⟨by decide, by decide⟩ ?_
        refine aE_iret dX11_street_49 rfl ⟨by decide, by decide⟩ ?_
        refine hB ?_
        first | exact Or.inl ‹_› | exact Or.inr (Or.inl ‹_›) | exact Or.inr (Or.inr (Or.inl ‹_›)) | exact Or.inr (Or.inr (Or.inr ‹_›))
      · skip
        refine aE_iload_n dX11_street_33 rfl rfl ?_
        refine aE_iconst (v := 1) dX11_street_34 rfl ?_
        refine aE_bipush (v := 20) dX11_street_35 (by decide) ?_
        refine aE_cSi dX11_street_37 lk_X11_74 ms_X11_within (c_within _ _ _) rfl rfl ⟨by decide, by decide⟩ (Nat.le_of_ble_eq_true rfl) ⟨rfl, rfl⟩ ⟨by decide, by decide⟩ ?_
        refine aE_if_ne (tgt := 50) dX11_street_40 (by decide) (fun h40 => ?_) (fun h40 => ?_)
        · skip
          refine aE_aload_n dX11_street_50 rfl rfl ?_
          refine aE_getf (v := .ref 1) dX11_street_51 fw_X11_10 (lt_nn (by decide)) rfl rfl ?_
          refine aE_getf (v := .ref 2) dX11_street_54 fw_X11_51 (lt_nn (by decide)) rfl rfl ?_
          refine aE_geti dX11_street_57 fw_X11_79 (lt_nn (by decide)) rfl (by decide) rfl ?_
          refine aE_bipush (v := 14) dX11_street_60 (by decide) ?_
          refine aE_icmp_lt (tgt := 72) dX11_street_62 (by decide) (fun h62 => ?_) (fun h62 => ?_)
          · skip
            refine aE_aload_n dX11_street_72 rfl rfl ?_
            refine aE_cVv dX11_street_73 lk_X11_82 mv_X11_plansFall (c_plansFall ) rfl (lt_nn (by decide)) rfl rfl ⟨by decide, by decide⟩ (Nat.le_of_ble_eq_true rfl) ⟨rfl, rfl⟩ ⟨by decide, by decide⟩ ?_
            refine aE_aload_n dX11_street_76 rfl rfl ?_
            refine aE_getf (v := .ref 1) dX11_street_77 fw_X11_10 (lt_nn (by decide)) rfl rfl ?_
            refine aE_getf (v := .ref 2) dX11_street_80 fw_X11_51 (lt_nn (by decide)) rfl rfl ?_
            refine aE_iload_n dX11_street_83 rfl rfl ?_
            refine aE_iload_n dX11_street_84 rfl rfl ?_
            refine aE_iload_n dX11_street_85 rfl rfl ?_
            have h14 : ns < 14 := by
              rcases Nat.lt_or_ge ns 14 with q | q
              · exact q
              · exact absurd h62 (by rw [hns]; exact nI_nlt (a := ns) (b := 14) q (by omega))
            refine aE_cVi dX11_street_86 lk_X11_85 mv_X10_addStreet (c_addStreet (I := fall I) ns _ _ _ hns h14) rfl (lt_nn (by decide)) rfl rfl ⟨by decide, by decide⟩ (Nat.le_of_ble_eq_true rfl) ⟨rfl, rfl⟩ ⟨by decide, by decide⟩ ?_
            refine aE_iret dX11_street_89 rfl ⟨by decide, by decide⟩ ?_
            exact hO ⟨h11, h25, h30, h40⟩ h62
          · skip
            refine aE_aload_n dX11_street_65 rfl rfl ?_
            refine aE_ldc dX11_street_66 ct_X11_61 ?_
            refine aE_cVi dX11_street_68 lk_X11_62 mv_X11_found (c_found _) rfl (lt_nn (by decide)) rfl rfl ⟨by decide, by decide⟩ (Nat.le_of_ble_eq_true rfl) ⟨rfl, rfl⟩ ⟨by decide, by decide⟩ ?_
            refine aE_iret dX11_street_71 rfl ⟨by decide, by decide⟩ ?_
            exact hF ⟨h11, h25, h30, h40⟩ h62
        · skip
          refine aE_aload_n dX11_street_43 rfl rfl ?_
          refine aE_ldc dX11_street_44 ct_X11_78 ?_
          refine aE_cVi dX11_street_46 lk_X11_62 mv_X11_found (c_found _) rfl (lt_nn (by decide)) rfl rfl ⟨by decide, by decide⟩ (Nat.le_of_ble_eq_true rfl) ⟨rfl, rfl⟩ ⟨by decide, by decide⟩ ?_
          refine aE_iret dX11_street_49 rfl ⟨by decide, by decide⟩ ?_
          refine hB ?_
          first | exact Or.inl ‹_› | exact Or.inr (Or.inl ‹_›) | exact Or.inr (Or.inr (Or.inl ‹_›)) | exact Or.inr (Or.inr (Or.inr ‹_›))

set_option maxRecDepth 20000 in
theorem c_close (st : Nat) (b : Int32) (hst : st < 14) (hb : b = 0 ∨ b = 1) (hS : I 6 st = b → qi Q 0 I sp pl) (hN : ¬ I 6 st = b → qi Q 1 (iu (iu I 2 8 0) 6 st b) sp pl) : aRuns mX10_close (rK 0) [.ref 2, .int (nI st), .int b] (nn pl) (MM I sp pl) (Q) := by
  refine aRuns_of pn_X10_close (Nat.le_of_ble_eq_true rfl) (fun z => aE_loc (ls' := [_, _, _]) rfl ?_)
  refine aE_aload_n dX10_close_0 rfl rfl ?_
  refine aE_getf (v := .ref 6) dX10_close_1 fw_X10_21 (lt_nn (by decide)) rfl rfl ?_
  refine aE_iload_n dX10_close_4 rfl rfl ?_
  refine aE_zldM dX10_close_5 (lt_nn (by decide)) rfl (by decide) rfl (by omega) ?_
  refine aE_iload_n dX10_close_6 rfl rfl ?_
  refine aE_icmp_ne (tgt := 12) dX10_close_7 (by decide) (fun h7 => ?_) (fun h7 => ?_)
  · skip
    refine aE_aload_n dX10_close_12 rfl rfl ?_
    refine aE_iconst (v := 0) dX10_close_13 rfl ?_
    refine aE_puti dX10_close_14 fp_X10_41 (Or.inl rfl) (lt_nn (by decide)) rfl (fun _ => a_narZ (by first | exact Or.inl rfl | exact Or.inr rfl | assumption)) (by decide) rfl ?_
    refine aE_aload_n dX10_close_17 rfl rfl ?_
    refine aE_getf (v := .ref 6) dX10_close_18 fw_X10_21 (lt_nn (by decide)) rfl rfl ?_
    refine aE_iload_n dX10_close_21 rfl rfl ?_
    refine aE_iload_n dX10_close_22 rfl rfl ?_
    refine aE_zstM dX10_close_23 (lt_nn (by decide)) rfl (by decide) rfl (by omega) (by first | exact Or.inl rfl | exact Or.inr rfl | assumption) ?_
    refine aE_iconst (v := 1) dX10_close_24 rfl ?_
    refine aE_zret dX10_close_25 rfl (by first | exact Or.inl rfl | exact Or.inr rfl | exact wi_or _ _ _ | assumption) ⟨by decide, by decide⟩ ?_
    exact hN h7
  · skip
    refine aE_iconst (v := 0) dX10_close_10 rfl ?_
    refine aE_zret dX10_close_11 rfl (by first | exact Or.inl rfl | exact Or.inr rfl | exact wi_or _ _ _ | assumption) ⟨by decide, by decide⟩ ?_
    exact hS (by first | exact h7 | exact Classical.not_not.mp h7)

set_option maxRecDepth 20000 in
theorem c_shut (v b : Int32) (ns : Nat) (hns : I 2 1 = nI ns) (hs : ns ≤ 14) (hb : b = 0 ∨ b = 1) (hB : wi v 0 (I 2 1 - 1) = 0 → qi Q (-1000001) (fnd I) sp pl) (hS : ∀ st, st < ns → v = nI st → I 6 st = b → qi Q 0 I sp pl) (hN : ∀ st, st < ns → v = nI st → ¬ I 6 st = b → qi Q 1 (fall (iu (iu I 2 8 0) 6 st b)) sp pl) : aRuns mX11_shut (rK 1) [.ref 0, .int v, .int b] (nn pl) (MM I sp pl) (Q) := by
  refine aRuns_of pn_X11_shut (Nat.le_of_ble_eq_true rfl) (fun z => aE_loc (ls' := [_, _, _]) rfl ?_)
  refine aE_iload_n dX11_shut_0 rfl rfl ?_
  refine aE_iconst (v := 0) dX11_shut_1 rfl ?_
  refine aE_aload_n dX11_shut_2 rfl rfl ?_
  refine aE_getf (v := .ref 1) dX11_shut_3 fw_X11_10 (lt_nn (by decide)) rfl rfl ?_
  refine aE_getf (v := .ref 2) dX11_shut_6 fw_X11_51 (lt_nn (by decide)) rfl rfl ?_
  refine aE_geti dX11_shut_9 fw_X11_79 (lt_nn (by decide)) rfl (by decide) rfl ?_
  refine aE_iconst (v := 1) dX11_shut_12 rfl ?_
  refine aE_isub dX11_shut_13 ?_
  refine aE_cSi dX11_shut_14 lk_X11_74 ms_X11_within (c_within _ _ _) rfl rfl ⟨by decide, by decide⟩ (Nat.le_of_ble_eq_true rfl) ⟨rfl, rfl⟩ ⟨by decide, by decide⟩ ?_
  refine aE_if_ne (tgt := 27) dX11_shut_17 (by decide) (fun h17 => ?_) (fun h17 => ?_)
  · skip
    obtain ⟨st, hst, rfl⟩ := wi_ix (by omega) (hns ▸ h17)
    refine aE_aload_n dX11_shut_27 rfl rfl ?_
    refine aE_getf (v := .ref 1) dX11_shut_28 fw_X11_10 (lt_nn (by decide)) rfl rfl ?_
    refine aE_getf (v := .ref 2) dX11_shut_31 fw_X11_51 (lt_nn (by decide)) rfl rfl ?_
    refine aE_iload_n dX11_shut_34 rfl rfl ?_
    refine aE_iload_n dX11_shut_35 rfl rfl ?_
    refine aE_cVq dX11_shut_36 lk_X11_89 mv_X10_close (c_close st b (by omega) hb (Q := fun r n' m' => (I 6 st = b ∧ r = some (.int 0) ∧ n' = nn pl ∧ m' = MM I sp pl) ∨ (¬ I 6 st = b ∧ r = some (.int 1) ∧ n' = nn pl ∧ m' = MM (iu (iu I 2 8 0) 6 st b) sp pl)) (fun h => Or.inl ⟨h, rfl, rfl, rfl⟩) (fun h => Or.inr ⟨h, rfl, rfl, rfl⟩)) rfl (lt_nn (by decide)) rfl rfl ⟨by decide, by decide⟩ (Nat.le_of_ble_eq_true rfl) ⟨rfl, rfl⟩ ⟨by decide, by decide⟩ ?_
    rintro r n' m' (⟨hq, rfl, rfl, rfl⟩ | ⟨hq, rfl, rfl, rfl⟩)
    · refine aE_if_ne (tgt := 44) dX11_shut_39 (by decide) (fun h => absurd rfl h) (fun h => ?_)
      refine aE_iconst (v := 0) dX11_shut_42 rfl ?_
      refine aE_iret dX11_shut_43 rfl ⟨by decide, by decide⟩ ?_
      exact hS st hst rfl hq
    refine aE_if_ne (tgt := 44) dX11_shut_39 (by decide) (fun h39 => ?_) (fun h39 => absurd h39 (by decide))
    refine aE_aload_n dX11_shut_44 rfl rfl ?_
    refine aE_cVv dX11_shut_45 lk_X11_82 mv_X11_plansFall (c_plansFall ) rfl (lt_nn (by decide)) rfl rfl ⟨by decide, by decide⟩ (Nat.le_of_ble_eq_true rfl) ⟨rfl, rfl⟩ ⟨by decide, by decide⟩ ?_
    refine aE_iconst (v := 1) dX11_shut_48 rfl ?_
    refine aE_iret dX11_shut_49 rfl ⟨by decide, by decide⟩ ?_
    exact hN st hst rfl hq
  · skip
    refine aE_aload_n dX11_shut_20 rfl rfl ?_
    refine aE_ldc dX11_shut_21 ct_X11_78 ?_
    refine aE_cVi dX11_shut_23 lk_X11_62 mv_X11_found (c_found _) rfl (lt_nn (by decide)) rfl rfl ⟨by decide, by decide⟩ (Nat.le_of_ble_eq_true rfl) ⟨rfl, rfl⟩ ⟨by decide, by decide⟩ ?_
    refine aE_iret dX11_shut_26 rfl ⟨by decide, by decide⟩ ?_
    exact hB h17

set_option maxRecDepth 20000 in
theorem c_addSchool (s : Nat) (k c : Int32) (hs : I 1 4 = nI s) (h4 : s < 4) : aRuns mX0_addSchool (rK 0) [.ref 1, .int k, .int c] (nn pl) (MM I sp pl) (a_ri (nI s + 1 - 1) (nn pl) (MM (iu (iu (iu (iu (iu I (28 + 4 * s) 0 k) (28 + 4 * s) 1 c) (28 + 4 * s) 2 3) 26 s 0) 1 4 (nI s + 1)) sp pl)) := by
  refine aRuns_of pn_X0_addSchool (Nat.le_of_ble_eq_true rfl) (fun z => aE_loc (ls' := [_, _, _, _]) rfl ?_)
  refine aE_aload_n dX0_addSchool_0 rfl rfl ?_
  refine aE_getf (v := .ref 25) dX0_addSchool_1 fw_X0_20 (lt_nn (by decide)) rfl rfl ?_
  refine aE_aload_n dX0_addSchool_4 rfl rfl ?_
  refine aE_geti dX0_addSchool_5 fw_X0_43 (lt_nn (by decide)) rfl (by decide) rfl ?_
  refine aE_aald (t := 102) dX0_addSchool_8 (lt_nn (by decide)) ⟨by decide, by decide⟩ rfl (by decide) hs h4 (mm_schs h4) ?_
  refine aE_astore_n dX0_addSchool_9 rfl (by decide) rfl (aE_loc (ls' := [_, _, _, _]) rfl ?_)
  refine aE_aload_n dX0_addSchool_10 rfl rfl ?_
  refine aE_iload_n dX0_addSchool_11 rfl rfl ?_
  refine aE_puti dX0_addSchool_12 fp_X0_53 (Or.inl rfl) (lt_nn (by omega)) (sh_sch h4) (fun _ => ⟨rfl, rfl⟩) (mc_sch (i := 0) h4 (by decide)).1 (mc_sch (i := 0) h4 (by decide)).2 ?_
  refine aE_aload_n dX0_addSchool_15 rfl rfl ?_
  refine aE_iload_n dX0_addSchool_16 rfl rfl ?_
  refine aE_puti dX0_addSchool_17 fp_X0_56 (Or.inl rfl) (lt_nn (by omega)) (sh_sch h4) (fun _ => ⟨rfl, rfl⟩) (mc_sch (i := 1) h4 (by decide)).1 (mc_sch (i := 1) h4 (by decide)).2 ?_
  refine aE_aload_n dX0_addSchool_20 rfl rfl ?_
  refine aE_iconst (v := 3) dX0_addSchool_21 rfl ?_
  refine aE_puti dX0_addSchool_22 fp_X0_59 (Or.inl rfl) (lt_nn (by omega)) (sh_sch h4) (fun _ => ⟨rfl, rfl⟩) (mc_sch (i := 2) h4 (by decide)).1 (mc_sch (i := 2) h4 (by decide)).2 ?_
  refine aE_aload_n dX0_addSchool_25 rfl rfl ?_
  refine aE_getf (v := .ref 26) dX0_addSchool_26 fw_X0_24 (lt_nn (by decide)) rfl rfl ?_
  refine aE_aload_n dX0_addSchool_29 rfl rfl ?_
  refine aE_geti dX0_addSchool_30 fw_X0_43 (lt_nn (by decide)) rfl (by decide) rfl ?_
  refine aE_iconst (v := 0) dX0_addSchool_33 rfl ?_
  refine aE_istM dX0_addSchool_34 (lt_nn (by decide)) rfl (by decide) (by rw [iu_ne (by omega), iu_ne (by omega), iu_ne (by omega)]; exact hs) h4 ?_
  refine aE_aload_n dX0_addSchool_35 rfl rfl ?_
  refine aE_dup dX0_addSchool_36 rfl ?_
  refine aE_geti dX0_addSchool_37 fw_X0_43 (lt_nn (by decide)) rfl (by decide) rfl ?_
  rw [show iu (iu (iu (iu I (28 + 4 * s) 0 k) (28 + 4 * s) 1 c) (28 + 4 * s) 2 3) 26 s 0 1 4 = nI s by rw [iu_ne (by omega), iu_ne (by omega), iu_ne (by omega), iu_ne (by omega)]; exact hs]
  refine aE_iconst (v := 1) dX0_addSchool_40 rfl ?_
  refine aE_iadd dX0_addSchool_41 ?_
  refine aE_puti dX0_addSchool_42 fp_X0_43 (Or.inl rfl) (lt_nn (by decide)) rfl (fun _ => ⟨rfl, rfl⟩) (by decide) rfl ?_
  refine aE_aload_n dX0_addSchool_45 rfl rfl ?_
  refine aE_geti dX0_addSchool_46 fw_X0_43 (lt_nn (by decide)) rfl (by decide) rfl ?_
  refine aE_iconst (v := 1) dX0_addSchool_49 rfl ?_
  refine aE_isub dX0_addSchool_50 ?_
  refine aE_iret dX0_addSchool_51 rfl ⟨by decide, by decide⟩ ?_
  exact ⟨rfl, rfl, rfl⟩

set_option maxRecDepth 20000 in
theorem c_school (k c : Int32) (s : Nat) (hs : I 1 4 = nI s) (hss : s < 1000) (hB : (wi k 0 3 = 0 ∨ wi c 0 (I 2 0 - 1) = 0) → qi Q (-1000001) (fnd I) sp pl) (hF : (¬ wi k 0 3 = 0 ∧ ¬ wi c 0 (I 2 0 - 1) = 0) → ¬ I 1 4 < 4 → qi Q (-1000002) (fnd I) sp pl) (hO : (¬ wi k 0 3 = 0 ∧ ¬ wi c 0 (I 2 0 - 1) = 0) → I 1 4 < 4 → qi Q (nI s + 1 - 1) (iu (iu (iu (iu (iu (fall I) (28 + 4 * s) 0 k) (28 + 4 * s) 1 c) (28 + 4 * s) 2 3) 26 s 0) 1 4 (nI s + 1)) sp pl) : aRuns mX11_school (rK 2) [.ref 0, .int k, .int c] (nn pl) (MM I sp pl) (Q) := by
  refine aRuns_of pn_X11_school (Nat.le_of_ble_eq_true rfl) (fun z => aE_loc (ls' := [_, _, _]) rfl ?_)
  refine aE_iload_n dX11_school_0 rfl rfl ?_
  refine aE_iconst (v := 0) dX11_school_1 rfl ?_
  refine aE_iconst (v := 3) dX11_school_2 rfl ?_
  refine aE_cSi dX11_school_3 lk_X11_74 ms_X11_within (c_within _ _ _) rfl rfl ⟨by decide, by decide⟩ (Nat.le_of_ble_eq_true rfl) ⟨rfl, rfl⟩ ⟨by decide, by decide⟩ ?_
  refine aE_if_eq (tgt := 23) dX11_school_6 (by decide) (fun h6 => ?_) (fun h6 => ?_)
  · skip
    refine aE_aload_n dX11_school_23 rfl rfl ?_
    refine aE_ldc dX11_school_24 ct_X11_78 ?_
    refine aE_cVi dX11_school_26 lk_X11_62 mv_X11_found (c_found _) rfl (lt_nn (by decide)) rfl rfl ⟨by decide, by decide⟩ (Nat.le_of_ble_eq_true rfl) ⟨rfl, rfl⟩ ⟨by decide, by decide⟩ ?_
    refine aE_iret dX11_school_29 rfl ⟨by decide, by decide⟩ ?_
    refine hB ?_
    first | exact Or.inl ‹_› | exact Or.inr ‹_›
  · skip
    refine aE_aload_n dX11_school_9 rfl rfl ?_
    refine aE_getf (v := .ref 1) dX11_school_10 fw_X11_10 (lt_nn (by decide)) rfl rfl ?_
    refine aE_getf (v := .ref 2) dX11_school_13 fw_X11_51 (lt_nn (by decide)) rfl rfl ?_
    refine aE_iload_n dX11_school_16 rfl rfl ?_
    refine aE_cVi dX11_school_17 lk_X11_70 mv_X10_hasCorner (c_hasCorner _) rfl (lt_nn (by decide)) rfl rfl ⟨by decide, by decide⟩ (Nat.le_of_ble_eq_true rfl) ⟨rfl, rfl⟩ ⟨by decide, by decide⟩ ?_
    refine aE_if_ne (tgt := 30) dX11_school_20 (by decide) (fun h20 => ?_) (fun h20 => ?_)
    · skip
      refine aE_aload_n dX11_school_30 rfl rfl ?_
      refine aE_getf (v := .ref 1) dX11_school_31 fw_X11_10 (lt_nn (by decide)) rfl rfl ?_
      refine aE_geti dX11_school_34 fw_X11_99 (lt_nn (by decide)) rfl (by decide) rfl ?_
      refine aE_iconst (v := 4) dX11_school_37 rfl ?_
      refine aE_icmp_lt (tgt := 48) dX11_school_38 (by decide) (fun h38 => ?_) (fun h38 => ?_)
      · skip
        refine aE_aload_n dX11_school_48 rfl rfl ?_
        refine aE_cVv dX11_school_49 lk_X11_82 mv_X11_plansFall (c_plansFall ) rfl (lt_nn (by decide)) rfl rfl ⟨by decide, by decide⟩ (Nat.le_of_ble_eq_true rfl) ⟨rfl, rfl⟩ ⟨by decide, by decide⟩ ?_
        refine aE_aload_n dX11_school_52 rfl rfl ?_
        refine aE_getf (v := .ref 1) dX11_school_53 fw_X11_10 (lt_nn (by decide)) rfl rfl ?_
        refine aE_iload_n dX11_school_56 rfl rfl ?_
        refine aE_iload_n dX11_school_57 rfl rfl ?_
        have h4 : s < 4 := by
          rcases Nat.lt_or_ge s 4 with q | q
          · exact q
          · exact absurd h38 (by rw [hs]; exact nI_nlt (a := s) (b := 4) q (by omega))
        refine aE_cVi dX11_school_58 lk_X11_102 mv_X0_addSchool (c_addSchool (I := fall I) s _ _ hs h4) rfl (lt_nn (by decide)) rfl rfl ⟨by decide, by decide⟩ (Nat.le_of_ble_eq_true rfl) ⟨rfl, rfl⟩ ⟨by decide, by decide⟩ ?_
        refine aE_iret dX11_school_61 rfl ⟨by decide, by decide⟩ ?_
        exact hO ⟨h6, h20⟩ h38
      · skip
        refine aE_aload_n dX11_school_41 rfl rfl ?_
        refine aE_ldc dX11_school_42 ct_X11_61 ?_
        refine aE_cVi dX11_school_44 lk_X11_62 mv_X11_found (c_found _) rfl (lt_nn (by decide)) rfl rfl ⟨by decide, by decide⟩ (Nat.le_of_ble_eq_true rfl) ⟨rfl, rfl⟩ ⟨by decide, by decide⟩ ?_
        refine aE_iret dX11_school_47 rfl ⟨by decide, by decide⟩ ?_
        exact hF ⟨h6, h20⟩ h38
    · skip
      refine aE_aload_n dX11_school_23 rfl rfl ?_
      refine aE_ldc dX11_school_24 ct_X11_78 ?_
      refine aE_cVi dX11_school_26 lk_X11_62 mv_X11_found (c_found _) rfl (lt_nn (by decide)) rfl rfl ⟨by decide, by decide⟩ (Nat.le_of_ble_eq_true rfl) ⟨rfl, rfl⟩ ⟨by decide, by decide⟩ ?_
      refine aE_iret dX11_school_29 rfl ⟨by decide, by decide⟩ ?_
      refine hB ?_
      first | exact Or.inl ‹_› | exact Or.inr ‹_›

end CB
