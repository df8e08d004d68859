theorem a_rio {v v' : Int32} {n : Nat} {mem mem' : aM} (h : v = v') (hm : mem = mem') : a_ri v' n mem' (some (.int v)) n mem := ⟨by rw [h], rfl, hm⟩
/-- within(v, low, high) -/
def wi (v lo hi : Int32) : Int32 := if lo ≤ v ∧ v ≤ hi then 1 else 0
theorem wi_0 {v lo hi : Int32} (h : wi v lo hi = 0) : ¬ (lo ≤ v ∧ v ≤ hi) := by
  intro q; unfold wi at h; rw [if_pos q] at h; exact absurd h (by decide)
theorem wi_1 {v lo hi : Int32} (h : ¬ wi v lo hi = 0) : lo ≤ v ∧ v ≤ hi := by
  unfold wi at h
  by_cases q : lo ≤ v ∧ v ≤ hi
  · exact q
  · rw [if_neg q] at h; exact absurd rfl h
theorem wi_or (v lo hi : Int32) : wi v lo hi = 0 ∨ wi v lo hi = 1 := by
  unfold wi; split
  · exact Or.inr rfl
  · exact Or.inl rfl
section CB
variable {n : Nat} {mem : aM} {I : Nat → Nat → Int32} {sp : Nat → Nat} {pl : Bool}
set_option maxRecDepth 20000 in
theorem c_within (v lo hi : Int32)  : aRuns mX11_within (rK 0) [.int v, .int lo, .int hi] n mem (a_ri (wi v lo hi) n mem) := by
  refine aRuns_of pn_X11_within (Nat.le_of_ble_eq_true rfl) (fun z => aE_loc (ls' := [_, _, _]) rfl ?_)
  refine aE_iload_n dX11_within_0 rfl rfl ?_
  refine aE_iload_n dX11_within_1 rfl rfl ?_
  refine aE_icmp_lt (tgt := 14) dX11_within_2 (by decide) (fun h2 => ?_) (fun h2 => ?_)
  · skip
    have hr : (0 : Int32) = wi v lo hi := by unfold wi; rw [if_neg (fun q => Int32.not_lt.mpr q.1 h2)]
    refine aE_iconst (v := 0) dX11_within_14 rfl ?_
    refine aE_zret dX11_within_15 rfl (by first | exact Or.inl rfl | exact Or.inr rfl | assumption) ⟨by decide, by decide⟩ ?_
    exact a_rio hr rfl
  · skip
    refine aE_iload_n dX11_within_5 rfl rfl ?_
    refine aE_iload_n dX11_within_6 rfl rfl ?_
    refine aE_icmp_gt (tgt := 14) dX11_within_7 (by decide) (fun h7 => ?_) (fun h7 => ?_)
    · skip
      have hr : (0 : Int32) = wi v lo hi := by unfold wi; rw [if_neg (fun q => Int32.not_lt.mpr q.2 h7)]
      refine aE_iconst (v := 0) dX11_within_14 rfl ?_
      refine aE_zret dX11_within_15 rfl (by first | exact Or.inl rfl | exact Or.inr rfl | assumption) ⟨by decide, by decide⟩ ?_
      exact a_rio hr rfl
    · skip
      have hr : (1 : Int32) = wi v lo hi := by unfold wi; rw [if_pos ⟨Int32.not_lt.mp h2, Int32.not_lt.mp h7⟩]
      refine aE_iconst (v := 1) dX11_within_10 rfl ?_
      refine aE_goto (tgt := 15) dX11_within_11 (by decide) ?_
      refine aE_zret dX11_within_15 rfl (by first | exact Or.inl rfl | exact Or.inr rfl | assumption) ⟨by decide, by decide⟩ ?_
      exact a_rio hr rfl

set_option maxRecDepth 20000 in
theorem c_in (v lo hi : Int32)  : aRuns mX12_in (rK 0) [.int v, .int lo, .int hi] n mem (a_ri (wi v lo hi) n mem) := by
  refine aRuns_of pn_X12_in (Nat.le_of_ble_eq_true rfl) (fun z => aE_loc (ls' := [_, _, _]) rfl ?_)
  refine aE_iload_n dX12_in_0 rfl rfl ?_
  refine aE_iload_n dX12_in_1 rfl rfl ?_
  refine aE_icmp_lt (tgt := 14) dX12_in_2 (by decide) (fun h2 => ?_) (fun h2 => ?_)
  · skip
    have hr : (0 : Int32) = wi v lo hi := by unfold wi; rw [if_neg (fun q => Int32.not_lt.mpr q.1 h2)]
    refine aE_iconst (v := 0) dX12_in_14 rfl ?_
    refine aE_zret dX12_in_15 rfl (by first | exact Or.inl rfl | exact Or.inr rfl | assumption) ⟨by decide, by decide⟩ ?_
    exact a_rio hr rfl
  · skip
    refine aE_iload_n dX12_in_5 rfl rfl ?_
    refine aE_iload_n dX12_in_6 rfl rfl ?_
    refine aE_icmp_gt (tgt := 14) dX12_in_7 (by decide) (fun h7 => ?_) (fun h7 => ?_)
    · skip
      have hr : (0 : Int32) = wi v lo hi := by unfold wi; rw [if_neg (fun q => Int32.not_lt.mpr q.2 h7)]
      refine aE_iconst (v := 0) dX12_in_14 rfl ?_
      refine aE_zret dX12_in_15 rfl (by first | exact Or.inl rfl | exact Or.inr rfl | assumption) ⟨by decide, by decide⟩ ?_
      exact a_rio hr rfl
    · skip
      have hr : (1 : Int32) = wi v lo hi := by unfold wi; rw [if_pos ⟨Int32.not_lt.mp h2, Int32.not_lt.mp h7⟩]
      refine aE_iconst (v := 1) dX12_in_10 rfl ?_
      refine aE_goto (tgt := 15) dX12_in_11 (by decide) ?_
      refine aE_zret dX12_in_15 rfl (by first | exact Or.inl rfl | exact Or.inr rfl | assumption) ⟨by decide, by decide⟩ ?_
      exact a_rio hr rfl

set_option maxRecDepth 20000 in
theorem c_found (f : Int32)  : aRuns mX11_found (rK 0) [.ref 0, .int f] (nn pl) (MM I sp pl) (a_ri f (nn pl) (MM (iu I 0 10 (I 0 10 + 1)) sp pl)) := by
  refine aRuns_of pn_X11_found (Nat.le_of_ble_eq_true rfl) (fun z => aE_loc (ls' := [_, _]) rfl ?_)
  refine aE_aload_n dX11_found_0 rfl rfl ?_
  refine aE_dup dX11_found_1 rfl ?_
  refine aE_getf dX11_found_2 fw_X11_324 (lt_nn (by decide)) rfl rfl ?_
  refine aE_iconst (v := 1) dX11_found_5 rfl ?_
  refine aE_iadd dX11_found_6 ?_
  refine aE_puti dX11_found_7 fp_X11_324 (Or.inl rfl) (lt_nn (by decide)) rfl (fun _ => ⟨rfl, rfl⟩) (by decide) rfl ?_
  refine aE_iload_n dX11_found_10 rfl rfl ?_
  refine aE_iret dX11_found_11 rfl ⟨by decide, by decide⟩ ?_
  exact ⟨rfl, rfl, rfl⟩

set_option maxRecDepth 20000 in
theorem c_plansFall   : aRuns mX11_plansFall (rK 0) [.ref 0] (nn pl) (MM I sp pl) (a_rv (nn pl) (MM (iu (iu (iu I 0 7 0) 0 8 0) 0 9 0) sp pl)) := by
  refine aRuns_of pn_X11_plansFall (Nat.le_of_ble_eq_true rfl) (fun z => aE_loc (ls' := [_]) rfl ?_)
  refine aE_aload_n dX11_plansFall_0 rfl rfl ?_
  refine aE_iconst (v := 0) dX11_plansFall_1 rfl ?_
  refine aE_puti dX11_plansFall_2 fp_X11_327 (Or.inl rfl) (lt_nn (by decide)) rfl (fun _ => a_narZ (by first | exact Or.inl rfl | exact Or.inr rfl | assumption)) (by decide) rfl ?_
  refine aE_aload_n dX11_plansFall_5 rfl rfl ?_
  refine aE_iconst (v := 0) dX11_plansFall_6 rfl ?_
  refine aE_puti dX11_plansFall_7 fp_X11_142 (Or.inl rfl) (lt_nn (by decide)) rfl (fun _ => a_narZ (by first | exact Or.inl rfl | exact Or.inr rfl | assumption)) (by decide) rfl ?_
  refine aE_aload_n dX11_plansFall_10 rfl rfl ?_
  refine aE_iconst (v := 0) dX11_plansFall_11 rfl ?_
  refine aE_puti dX11_plansFall_12 fp_X11_146 (Or.inl rfl) (lt_nn (by decide)) rfl (fun _ => a_narZ (by first | exact Or.inl rfl | exact Or.inr rfl | assumption)) (by decide) rfl ?_
  refine aE_vret dX11_plansFall_15 rfl ⟨by decide, by decide⟩ ?_
  exact ⟨rfl, rfl, rfl⟩

set_option maxRecDepth 20000 in
theorem c_hasCorner (c : Int32)  : aRuns mX10_hasCorner (rK 1) [.ref 2, .int c] (nn pl) (MM I sp pl) (a_ri (wi c 0 (I 2 0 - 1)) (nn pl) (MM I sp pl)) := by
  refine aRuns_of pn_X10_hasCorner (Nat.le_of_ble_eq_true rfl) (fun z => aE_loc (ls' := [_, _]) rfl ?_)
  refine aE_iload_n dX10_hasCorner_0 rfl rfl ?_
  refine aE_iconst (v := 0) dX10_hasCorner_1 rfl ?_
  refine aE_aload_n dX10_hasCorner_2 rfl rfl ?_
  refine aE_getf dX10_hasCorner_3 fw_X10_33 (lt_nn (by decide)) rfl rfl ?_
  refine aE_iconst (v := 1) dX10_hasCorner_6 rfl ?_
  refine aE_isub dX10_hasCorner_7 ?_
  refine aE_cSNi dX10_hasCorner_8 ln_X10_37 ms_X11_within (c_within c 0 (I 2 0 - 1)) rfl rfl ⟨by decide, by decide⟩ (Nat.le_of_ble_eq_true rfl) ⟨rfl, rfl⟩ ⟨by decide, by decide⟩ ?_
  refine aE_zret dX10_hasCorner_11 rfl (wi_or _ _ _) ⟨by decide, by decide⟩ ?_
  exact ⟨rfl, rfl, rfl⟩

set_option maxRecDepth 20000 in
theorem c_hasSchool (c : Int32)  : aRuns mX0_hasSchool (rK 1) [.ref 1, .int c] (nn pl) (MM I sp pl) (a_ri (wi c 0 (I 1 4 - 1)) (nn pl) (MM I sp pl)) := by
  refine aRuns_of pn_X0_hasSchool (Nat.le_of_ble_eq_true rfl) (fun z => aE_loc (ls' := [_, _]) rfl ?_)
  refine aE_iload_n dX0_hasSchool_0 rfl rfl ?_
  refine aE_iconst (v := 0) dX0_hasSchool_1 rfl ?_
  refine aE_aload_n dX0_hasSchool_2 rfl rfl ?_
  refine aE_getf dX0_hasSchool_3 fw_X0_43 (lt_nn (by decide)) rfl rfl ?_
  refine aE_iconst (v := 1) dX0_hasSchool_6 rfl ?_
  refine aE_isub dX0_hasSchool_7 ?_
  refine aE_cSNi dX0_hasSchool_8 ln_X0_46 ms_X11_within (c_within c 0 (I 1 4 - 1)) rfl rfl ⟨by decide, by decide⟩ (Nat.le_of_ble_eq_true rfl) ⟨rfl, rfl⟩ ⟨by decide, by decide⟩ ?_
  refine aE_zret dX0_hasSchool_11 rfl (wi_or _ _ _) ⟨by decide, by decide⟩ ?_
  exact ⟨rfl, rfl, rfl⟩

set_option maxRecDepth 20000 in
theorem c_hasStop (c : Int32)  : aRuns mX0_hasStop (rK 1) [.ref 1, .int c] (nn pl) (MM I sp pl) (a_ri (wi c 0 (I 1 5 - 1)) (nn pl) (MM I sp pl)) := by
  refine aRuns_of pn_X0_hasStop (Nat.le_of_ble_eq_true rfl) (fun z => aE_loc (ls' := [_, _]) rfl ?_)
  refine aE_iload_n dX0_hasStop_0 rfl rfl ?_
  refine aE_iconst (v := 0) dX0_hasStop_1 rfl ?_
  refine aE_aload_n dX0_hasStop_2 rfl rfl ?_
  refine aE_getf dX0_hasStop_3 fw_X0_50 (lt_nn (by decide)) rfl rfl ?_
  refine aE_iconst (v := 1) dX0_hasStop_6 rfl ?_
  refine aE_isub dX0_hasStop_7 ?_
  refine aE_cSNi dX0_hasStop_8 ln_X0_46 ms_X11_within (c_within c 0 (I 1 5 - 1)) rfl rfl ⟨by decide, by decide⟩ (Nat.le_of_ble_eq_true rfl) ⟨rfl, rfl⟩ ⟨by decide, by decide⟩ ?_
  refine aE_zret dX0_hasStop_11 rfl (wi_or _ _ _) ⟨by decide, by decide⟩ ?_
  exact ⟨rfl, rfl, rfl⟩

set_option maxRecDepth 20000 in
theorem c_addCorner   : aRuns mX10_addCorner (rK 0) [.ref 2] (nn pl) (MM I sp pl) (a_ri (I 2 0 + 1 - 1) (nn pl) (MM (iu (iu I 2 8 0) 2 0 (I 2 0 + 1)) sp pl)) := by
  refine aRuns_of pn_X10_addCorner (Nat.le_of_ble_eq_true rfl) (fun z => aE_loc (ls' := [_]) rfl ?_)
  refine aE_aload_n dX10_addCorner_0 rfl rfl ?_
  refine aE_iconst (v := 0) dX10_addCorner_1 rfl ?_
  refine aE_puti dX10_addCorner_2 fp_X10_41 (Or.inl rfl) (lt_nn (by decide)) rfl (fun _ => a_narZ (by first | exact Or.inl rfl | exact Or.inr rfl | assumption)) (by decide) rfl ?_
  refine aE_aload_n dX10_addCorner_5 rfl rfl ?_
  refine aE_dup dX10_addCorner_6 rfl ?_
  refine aE_getf dX10_addCorner_7 fw_X10_33 (lt_nn (by decide)) rfl rfl ?_
  refine aE_iconst (v := 1) dX10_addCorner_10 rfl ?_
  refine aE_iadd dX10_addCorner_11 ?_
  refine aE_puti dX10_addCorner_12 fp_X10_33 (Or.inl rfl) (lt_nn (by decide)) rfl (fun _ => ⟨rfl, rfl⟩) (by decide) rfl ?_
  refine aE_aload_n dX10_addCorner_15 rfl rfl ?_
  refine aE_getf dX10_addCorner_16 fw_X10_33 (lt_nn (by decide)) rfl rfl ?_
  refine aE_iconst (v := 1) dX10_addCorner_19 rfl ?_
  refine aE_isub dX10_addCorner_20 ?_
  refine aE_iret dX10_addCorner_21 rfl ⟨by decide, by decide⟩ ?_
  exact ⟨rfl, rfl, rfl⟩

set_option maxRecDepth 20000 in
theorem c_corner   : aRuns mX11_corner (rK 1) [.ref 0] (nn pl) (MM I sp pl) (a_ri (if I 2 0 < 8 then I 2 0 + 1 - 1 else -1000002) (nn pl) (MM (if I 2 0 < 8 then iu (iu I 2 8 0) 2 0 (I 2 0 + 1) else iu I 0 10 (I 0 10 + 1)) sp pl)) := by
  refine aRuns_of pn_X11_corner (Nat.le_of_ble_eq_true rfl) (fun z => aE_loc (ls' := [_]) rfl ?_)
  refine aE_aload_n dX11_corner_0 rfl rfl ?_
  refine aE_getf dX11_corner_1 fw_X11_10 (lt_nn (by decide)) rfl rfl ?_
  refine aE_getf dX11_corner_4 fw_X11_51 (lt_nn (by decide)) rfl rfl ?_
  refine aE_getf dX11_corner_7 fw_X11_55 (lt_nn (by decide)) rfl rfl ?_
  refine aE_bipush (v := 8) dX11_corner_10 (by decide) ?_
  refine aE_icmp_lt (tgt := 22) dX11_corner_12 (by decide) (fun h12 => ?_) (fun h12 => ?_)
  · skip
    rw [if_pos h12, if_pos h12]
    refine aE_aload_n dX11_corner_22 rfl rfl ?_
    refine aE_getf dX11_corner_23 fw_X11_10 (lt_nn (by decide)) rfl rfl ?_
    refine aE_getf dX11_corner_26 fw_X11_51 (lt_nn (by decide)) rfl rfl ?_
    refine aE_cVi dX11_corner_29 lk_X11_66 mv_X10_addCorner (c_addCorner) rfl (lt_nn (by decide)) rfl rfl ⟨by decide, by decide⟩ (Nat.le_of_ble_eq_true rfl) ⟨rfl, rfl⟩ ⟨by decide, by decide⟩ ?_
    refine aE_iret dX11_corner_32 rfl ⟨by decide, by decide⟩ ?_
    exact ⟨rfl, rfl, rfl⟩
  · skip
    rw [if_neg h12, if_neg h12]
    refine aE_aload_n dX11_corner_15 rfl rfl ?_
    refine aE_ldc dX11_corner_16 ct_X11_61 ?_
    refine aE_cVi dX11_corner_18 lk_X11_62 mv_X11_found (c_found (-1000002)) rfl (lt_nn (by decide)) rfl rfl ⟨by decide, by decide⟩ (Nat.le_of_ble_eq_true rfl) ⟨rfl, rfl⟩ ⟨by decide, by decide⟩ ?_
    refine aE_iret dX11_corner_21 rfl ⟨by decide, by decide⟩ ?_
    exact ⟨rfl, rfl, rfl⟩

end CB
