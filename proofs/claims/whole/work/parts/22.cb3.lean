theorem a_i32 {x : Int32} {k : Nat} (hk : k < 2 ^ 31) (h : x.toInt = (k : Int)) : x = nI k := by
  apply Int32.toInt_inj.mp
  rw [h, nI_toInt hk]
theorem a_sw7 (x : Int32) : (x.toInt < 0 ∨ 6 < x.toInt) ∨ x = 0 ∨ x = 1 ∨ x = 2 ∨ x = 3 ∨ x = 4 ∨ x = 5 ∨ x = 6 := by
  rcases (show (x.toInt < 0 ∨ 6 < x.toInt) ∨ x.toInt = (0 : Nat) ∨ x.toInt = (1 : Nat) ∨ x.toInt = (2 : Nat) ∨ x.toInt = (3 : Nat) ∨ x.toInt = (4 : Nat) ∨ x.toInt = (5 : Nat) ∨ x.toInt = (6 : Nat) by omega) with h | h | h | h | h | h | h | h
  · exact Or.inl h
  all_goals (have e := a_i32 (by decide) h; rw [e]; decide)
theorem a_sw4 (x : Int32) : (x.toInt < 0 ∨ 3 < x.toInt) ∨ x = 0 ∨ x = 1 ∨ x = 2 ∨ x = 3 := by
  rcases (show (x.toInt < 0 ∨ 3 < x.toInt) ∨ x.toInt = (0 : Nat) ∨ x.toInt = (1 : Nat) ∨ x.toInt = (2 : Nat) ∨ x.toInt = (3 : Nat) by omega) with h | h | h | h | h
  · exact Or.inl h
  all_goals (have e := a_i32 (by decide) h; rw [e]; decide)
section CB3
variable {z : Nat × (Nat → Int32)} {n : Nat} {mem : aM} {I : Nat → Nat → Int32} {sp : Nat → Nat} {pl : Bool} {Q : Option Value → Nat → aM → Prop} {R : Room}
set_option maxRecDepth 20000 in
theorem c_as (v k : Int32) (ns : Nat) (hns : I 1 4 = nI ns) (hs4 : ns ≤ 4) (kd : Nat → Nat) (hkd : ∀ s, s < ns → kd s < 4 ∧ I (28 + 4 * s) 0 = nI (kd s)) (hB : (wi v 0 (I 1 4 - 1) = 0 ∨ wi k 0 3 = 0) → qi Q (-1000001) (fnd I) sp pl) (hY : ∀ s, s < ns → v = nI s → ¬ wi k 0 3 = 0 → ¬ isU (I (28 + 4 * s) 0) k = 0 → qi Q (nI s) I sp pl) (hN : ∀ s, s < ns → v = nI s → ¬ wi k 0 3 = 0 → isU (I (28 + 4 * s) 0) k = 0 → qi Q (-1000003) (fnd I) sp pl) : aRuns mX11_as (rK 2) [.ref 0, .int v, .int k] (nn pl) (MM I sp pl) (Q) := by
  refine aRuns_of pn_X11_as (Nat.le_of_ble_eq_true rfl) (fun z => aE_loc (ls' := [_, _, _]) rfl ?_)
  refine aE_aload_n dX11_as_0 rfl rfl ?_
  refine aE_getf (v := .ref 1) dX11_as_1 fw_X11_10 (lt_nn (by decide)) rfl rfl ?_
  refine aE_iload_n dX11_as_4 rfl rfl ?_
  refine aE_cVi dX11_as_5 lk_X11_106 mv_X0_hasSchool (c_hasSchool _) rfl (lt_nn (by decide)) rfl rfl ⟨by decide, by decide⟩ (Nat.le_of_ble_eq_true rfl) ⟨rfl, rfl⟩ ⟨by decide, by decide⟩ ?_
  refine aE_if_eq (tgt := 20) dX11_as_8 (by decide) (fun h8 => ?_) (fun h8 => ?_)
  · skip
    refine aE_aload_n dX11_as_20 rfl rfl ?_
    refine aE_ldc dX11_as_21 ct_X11_78 ?_
    refine aE_cVi dX11_as_23 lk_X11_62 mv_X11_found (c_found _) rfl (lt_nn (by decide)) rfl rfl ⟨by decide, by decide⟩ (Nat.le_of_ble_eq_true rfl) ⟨rfl, rfl⟩ ⟨by decide, by decide⟩ ?_
    refine aE_iret dX11_as_26 rfl ⟨by decide, by decide⟩ ?_
    refine hB ?_
    first | exact Or.inl ‹_› | exact Or.inr ‹_›
  · skip
    refine aE_iload_n dX11_as_11 rfl rfl ?_
    refine aE_iconst (v := 0) dX11_as_12 rfl ?_
    refine aE_iconst (v := 3) dX11_as_13 rfl ?_
    refine aE_cSi dX11_as_14 lk_X11_74 ms_X11_within (c_within _ _ _) rfl rfl ⟨by decide, by decide⟩ (Nat.le_of_ble_eq_true rfl) ⟨rfl, rfl⟩ ⟨by decide, by decide⟩ ?_
    refine aE_if_ne (tgt := 27) dX11_as_17 (by decide) (fun h17 => ?_) (fun h17 => ?_)
    · skip
      obtain ⟨s, hs, rfl⟩ := wi_ix (by omega) (hns ▸ h8)
      have h4 : s < 4 := by omega
      refine aE_aload_n dX11_as_27 rfl rfl ?_
      refine aE_getf (v := .ref 1) dX11_as_28 fw_X11_10 (lt_nn (by decide)) rfl rfl ?_
      refine aE_getf (v := .ref 25) dX11_as_31 fw_X11_109 (lt_nn (by decide)) rfl rfl ?_
      refine aE_iload_n dX11_as_34 rfl rfl ?_
      refine aE_aald (t := 102) dX11_as_35 (lt_nn (by decide)) ⟨by decide, by decide⟩ rfl (by decide) rfl h4 (mm_schs h4) ?_
      refine aE_geti dX11_as_36 fw_X11_113 (lt_nn (by omega)) (sh_sch h4) (mc_sch (i := 0) h4 (by decide)).1 (mc_sch (i := 0) h4 (by decide)).2 ?_
      refine aE_iload_n dX11_as_39 rfl rfl ?_
      rw [(hkd s hs).2]
      refine aE_cSi dX11_as_40 lk_X11_118 ms_X11_isUnder (c_isUnder (kd s) k (hkd s hs).1 (Int32.not_lt.mpr (wi_1 h17).1)) rfl rfl ⟨by decide, by decide⟩ (Nat.le_of_ble_eq_true rfl) ⟨rfl, rfl⟩ ⟨by decide, by decide⟩ ?_
      refine aE_if_eq (tgt := 50) dX11_as_43 (by decide) (fun h43 => ?_) (fun h43 => ?_)
      · skip
        refine aE_aload_n dX11_as_50 rfl rfl ?_
        refine aE_ldc dX11_as_51 ct_X11_122 ?_
        refine aE_cVi dX11_as_53 lk_X11_62 mv_X11_found (c_found _) rfl (lt_nn (by decide)) rfl rfl ⟨by decide, by decide⟩ (Nat.le_of_ble_eq_true rfl) ⟨rfl, rfl⟩ ⟨by decide, by decide⟩ ?_
        refine aE_iret dX11_as_56 rfl ⟨by decide, by decide⟩ ?_
        first | exact hN s hs rfl h17 (by first | exact h43 | (rw [(hkd s hs).2]; exact h43)) | exact hY s hs rfl h17 (by first | exact h43 | (rw [(hkd s hs).2]; exact h43))
      · skip
        refine aE_iload_n dX11_as_46 rfl rfl ?_
        refine aE_goto (tgt := 56) dX11_as_47 (by decide) ?_
        refine aE_iret dX11_as_56 rfl ⟨by decide, by decide⟩ ?_
        first | exact hN s hs rfl h17 (by first | exact h43 | (rw [(hkd s hs).2]; exact h43)) | exact hY s hs rfl h17 (by first | exact h43 | (rw [(hkd s hs).2]; exact h43))
    · skip
      refine aE_aload_n dX11_as_20 rfl rfl ?_
      refine aE_ldc dX11_as_21 ct_X11_78 ?_
      refine aE_cVi dX11_as_23 lk_X11_62 mv_X11_found (c_found _) rfl (lt_nn (by decide)) rfl rfl ⟨by decide, by decide⟩ (Nat.le_of_ble_eq_true rfl) ⟨rfl, rfl⟩ ⟨by decide, by decide⟩ ?_
      refine aE_iret dX11_as_26 rfl ⟨by decide, by decide⟩ ?_
      refine hB ?_
      first | exact Or.inl ‹_› | exact Or.inr ‹_›

set_option maxRecDepth 20000 in
theorem c_of (v w : Int32) (ns nst : Nat) (hns : I 1 4 = nI ns) (hs4 : ns ≤ 4) (hn : I 1 5 = nI nst) (h10 : nst ≤ 10) (hsp : ∀ k, k < 10 → 44 ≤ sp k ∧ sp k < 54) (hB : wi v 0 (I 1 4 - 1) = 0 → qi Q (-1000001) (fnd I) sp pl) (h_0 : ∀ s, s < ns → v = nI s → w = 0 → qi Q (I (28 + 4 * s) 0) I sp pl) (h_1 : ∀ s, s < ns → v = nI s → w = 1 → qi Q (I (28 + 4 * s) 1) I sp pl) (h_2 : ∀ s, s < ns → v = nI s → w = 2 → qi Q (I 26 s) I sp pl) (h_3 : ∀ s, s < ns → v = nI s → w = 3 → qi Q (I (28 + 4 * s) 2) I sp pl) (h_4 : ∀ s, s < ns → v = nI s → w = 4 → qi Q (cntS (fun k => I (sp k) 0) (nI s) nst) I sp pl) (h_5 : ∀ s, s < ns → v = nI s → w = 5 → qi Q (sumS (fun k => I (sp k) 0) (fun k => I (sp k) 2) (nI s) nst) I sp pl) (h_6 : ∀ s, s < ns → v = nI s → w = 6 → qi Q (if I (28 + 4 * s) 0 = 3 then I 1 7 / 2 else I 1 7) I sp pl) (hD : ∀ s, s < ns → v = nI s → (w.toInt < 0 ∨ 6 < w.toInt) → qi Q (-1000001) (fnd I) sp pl) : aRuns mX11_of (rK 2) [.ref 0, .int v, .int w] (nn pl) (MM I sp pl) (Q) := by
  refine aRuns_of pn_X11_of (Nat.le_of_ble_eq_true rfl) (fun z => aE_loc (ls' := [_, _, _]) rfl ?_)
  refine aE_aload_n dX11_of_0 rfl rfl ?_
  refine aE_getf (v := .ref 1) dX11_of_1 fw_X11_10 (lt_nn (by decide)) rfl rfl ?_
  refine aE_iload_n dX11_of_4 rfl rfl ?_
  refine aE_cVi dX11_of_5 lk_X11_106 mv_X0_hasSchool (c_hasSchool _) rfl (lt_nn (by decide)) rfl rfl ⟨by decide, by decide⟩ (Nat.le_of_ble_eq_true rfl) ⟨rfl, rfl⟩ ⟨by decide, by decide⟩ ?_
  refine aE_if_ne (tgt := 18) dX11_of_8 (by decide) (fun h8 => ?_) (fun h8 => ?_)
  · skip
    obtain ⟨s, hs, rfl⟩ := wi_ix (by omega) (hns ▸ h8)
    have h4 : s < 4 := by omega
    refine aE_iload_n dX11_of_18 rfl rfl ?_
    rcases a_sw7 w with hsw | hsw | hsw | hsw | hsw | hsw | hsw | hsw
    · skip
      refine aE_tableOut (tgt := 136) dX11_of_19 hsw (by decide) ?_
      refine aE_aload_n dX11_of_136 rfl rfl ?_
      refine aE_ldc dX11_of_137 ct_X11_78 ?_
      refine aE_cVi dX11_of_139 lk_X11_62 mv_X11_found (c_found _) rfl (lt_nn (by decide)) rfl rfl ⟨by decide, by decide⟩ (Nat.le_of_ble_eq_true rfl) ⟨rfl, rfl⟩ ⟨by decide, by decide⟩ ?_
      refine aE_iret dX11_of_142 rfl ⟨by decide, by decide⟩ ?_
      exact hD s hs rfl hsw
    · skip
      subst hsw
      refine aE_tableIn (off := 41) (tgt := 60) dX11_of_19 (by decide) (by decide) rfl (by decide) ?_
      refine aE_aload_n dX11_of_60 rfl rfl ?_
      refine aE_getf (v := .ref 1) dX11_of_61 fw_X11_10 (lt_nn (by decide)) rfl rfl ?_
      refine aE_getf (v := .ref 25) dX11_of_64 fw_X11_109 (lt_nn (by decide)) rfl rfl ?_
      refine aE_iload_n dX11_of_67 rfl rfl ?_
      refine aE_aald (t := 102) dX11_of_68 (lt_nn (by decide)) ⟨by decide, by decide⟩ rfl (by decide) rfl h4 (mm_schs h4) ?_
      refine aE_geti dX11_of_69 fw_X11_113 (lt_nn (by omega)) (sh_sch h4) (mc_sch (i := 0) h4 (by decide)).1 (mc_sch (i := 0) h4 (by decide)).2 ?_
      refine aE_iret dX11_of_72 rfl ⟨by decide, by decide⟩ ?_
      exact h_0 s hs rfl rfl
    · skip
      subst hsw
      refine aE_tableIn (off := 54) (tgt := 73) dX11_of_19 (by decide) (by decide) rfl (by decide) ?_
      refine aE_aload_n dX11_of_73 rfl rfl ?_
      refine aE_getf (v := .ref 1) dX11_of_74 fw_X11_10 (lt_nn (by decide)) rfl rfl ?_
      refine aE_getf (v := .ref 25) dX11_of_77 fw_X11_109 (lt_nn (by decide)) rfl rfl ?_
      refine aE_iload_n dX11_of_80 rfl rfl ?_
      refine aE_aald (t := 102) dX11_of_81 (lt_nn (by decide)) ⟨by decide, by decide⟩ rfl (by decide) rfl h4 (mm_schs h4) ?_
      refine aE_geti dX11_of_82 fw_X11_123 (lt_nn (by omega)) (sh_sch h4) (mc_sch (i := 1) h4 (by decide)).1 (mc_sch (i := 1) h4 (by decide)).2 ?_
      refine aE_iret dX11_of_85 rfl ⟨by decide, by decide⟩ ?_
      exact h_1 s hs rfl rfl
    · skip
      subst hsw
      refine aE_tableIn (off := 67) (tgt := 86) dX11_of_19 (by decide) (by decide) rfl (by decide) ?_
      refine aE_aload_n dX11_of_86 rfl rfl ?_
      refine aE_getf (v := .ref 1) dX11_of_87 fw_X11_10 (lt_nn (by decide)) rfl rfl ?_
      refine aE_getf (v := .ref 26) dX11_of_90 fw_X11_126 (lt_nn (by decide)) rfl rfl ?_
      refine aE_iload_n dX11_of_93 rfl rfl ?_
      refine aE_ildM dX11_of_94 (lt_nn (by decide)) rfl (by decide) rfl h4 ?_
      refine aE_iret dX11_of_95 rfl ⟨by decide, by decide⟩ ?_
      exact h_2 s hs rfl rfl
    · skip
      subst hsw
      refine aE_tableIn (off := 77) (tgt := 96) dX11_of_19 (by decide) (by decide) rfl (by decide) ?_
      refine aE_aload_n dX11_of_96 rfl rfl ?_
      refine aE_getf (v := .ref 1) dX11_of_97 fw_X11_10 (lt_nn (by decide)) rfl rfl ?_
      refine aE_getf (v := .ref 25) dX11_of_100 fw_X11_109 (lt_nn (by decide)) rfl rfl ?_
      refine aE_iload_n dX11_of_103 rfl rfl ?_
      refine aE_aald (t := 102) dX11_of_104 (lt_nn (by decide)) ⟨by decide, by decide⟩ rfl (by decide) rfl h4 (mm_schs h4) ?_
      refine aE_geti dX11_of_105 fw_X11_130 (lt_nn (by omega)) (sh_sch h4) (mc_sch (i := 2) h4 (by decide)).1 (mc_sch (i := 2) h4 (by decide)).2 ?_
      refine aE_iret dX11_of_108 rfl ⟨by decide, by decide⟩ ?_
      exact h_3 s hs rfl rfl
    · skip
      subst hsw
      refine aE_tableIn (off := 90) (tgt := 109) dX11_of_19 (by decide) (by decide) rfl (by decide) ?_
      refine aE_aload_n dX11_of_109 rfl rfl ?_
      refine aE_getf (v := .ref 1) dX11_of_110 fw_X11_10 (lt_nn (by decide)) rfl rfl ?_
      refine aE_iload_n dX11_of_113 rfl rfl ?_
      refine aE_cVi dX11_of_114 lk_X11_133 mv_X0_stopsOf (c_stopsOf (nI s) nst hn h10 hsp) rfl (lt_nn (by decide)) rfl rfl ⟨by decide, by decide⟩ (Nat.le_of_ble_eq_true rfl) ⟨rfl, rfl⟩ ⟨by decide, by decide⟩ ?_
      refine aE_iret dX11_of_117 rfl ⟨by decide, by decide⟩ ?_
      exact h_4 s hs rfl rfl
    · skip
      subst hsw
      refine aE_tableIn (off := 99) (tgt := 118) dX11_of_19 (by decide) (by decide) rfl (by decide) ?_
      refine aE_aload_n dX11_of_118 rfl rfl ?_
      refine aE_getf (v := .ref 1) dX11_of_119 fw_X11_10 (lt_nn (by decide)) rfl rfl ?_
      refine aE_iload_n dX11_of_122 rfl rfl ?_
      refine aE_cVi dX11_of_123 lk_X11_136 mv_X0_pupilsOf (c_pupilsOf (nI s) nst hn h10 hsp) rfl (lt_nn (by decide)) rfl rfl ⟨by decide, by decide⟩ (Nat.le_of_ble_eq_true rfl) ⟨rfl, rfl⟩ ⟨by decide, by decide⟩ ?_
      refine aE_iret dX11_of_126 rfl ⟨by decide, by decide⟩ ?_
      exact h_5 s hs rfl rfl
    · skip
      subst hsw
      refine aE_tableIn (off := 108) (tgt := 127) dX11_of_19 (by decide) (by decide) rfl (by decide) ?_
      refine aE_aload_n dX11_of_127 rfl rfl ?_
      refine aE_getf (v := .ref 1) dX11_of_128 fw_X11_10 (lt_nn (by decide)) rfl rfl ?_
      refine aE_iload_n dX11_of_131 rfl rfl ?_
      refine aE_cVi dX11_of_132 lk_X11_139 mv_X0_longest (c_longest s h4) rfl (lt_nn (by decide)) rfl rfl ⟨by decide, by decide⟩ (Nat.le_of_ble_eq_true rfl) ⟨rfl, rfl⟩ ⟨by decide, by decide⟩ ?_
      refine aE_iret dX11_of_135 rfl ⟨by decide, by decide⟩ ?_
      exact h_6 s hs rfl rfl
  · skip
    refine aE_aload_n dX11_of_11 rfl rfl ?_
    refine aE_ldc dX11_of_12 ct_X11_78 ?_
    refine aE_cVi dX11_of_14 lk_X11_62 mv_X11_found (c_found _) rfl (lt_nn (by decide)) rfl rfl ⟨by decide, by decide⟩ (Nat.le_of_ble_eq_true rfl) ⟨rfl, rfl⟩ ⟨by decide, by decide⟩ ?_
    refine aE_iret dX11_of_17 rfl ⟨by decide, by decide⟩ ?_
    exact hB h8

set_option maxRecDepth 20000 in
theorem c_bell (v b : Int32) (ns : Nat) (hns : I 1 4 = nI ns) (hs4 : ns ≤ 4) (hB : (wi v 0 (I 1 4 - 1) = 0 ∨ wi b 0 6 = 0) → qi Q (-1000001) (fnd I) sp pl) (hO : ∀ s, s < ns → v = nI s → ¬ wi b 0 6 = 0 → qi Q (I 26 s) (iu (iu I 26 s b) 0 8 0) sp pl) : aRuns mX11_bell (rK 2) [.ref 0, .int v, .int b] (nn pl) (MM I sp pl) (Q) := by
  refine aRuns_of pn_X11_bell (Nat.le_of_ble_eq_true rfl) (fun z => aE_loc (ls' := [_, _, _, _]) rfl ?_)
  refine aE_aload_n dX11_bell_0 rfl rfl ?_
  refine aE_getf (v := .ref 1) dX11_bell_1 fw_X11_10 (lt_nn (by decide)) rfl rfl ?_
  refine aE_iload_n dX11_bell_4 rfl rfl ?_
  refine aE_cVi dX11_bell_5 lk_X11_106 mv_X0_hasSchool (c_hasSchool _) rfl (lt_nn (by decide)) rfl rfl ⟨by decide, by decide⟩ (Nat.le_of_ble_eq_true rfl) ⟨rfl, rfl⟩ ⟨by decide, by decide⟩ ?_
  refine aE_if_eq (tgt := 21) dX11_bell_8 (by decide) (fun h8 => ?_) (fun h8 => ?_)
  · skip
    refine aE_aload_n dX11_bell_21 rfl rfl ?_
    refine aE_ldc dX11_bell_22 ct_X11_78 ?_
    refine aE_cVi dX11_bell_24 lk_X11_62 mv_X11_found (c_found _) rfl (lt_nn (by decide)) rfl rfl ⟨by decide, by decide⟩ (Nat.le_of_ble_eq_true rfl) ⟨rfl, rfl⟩ ⟨by decide, by decide⟩ ?_
    refine aE_iret dX11_bell_27 rfl ⟨by decide, by decide⟩ ?_
    refine hB ?_
    first | exact Or.inl ‹_› | exact Or.inr ‹_›
  · skip
    refine aE_iload_n dX11_bell_11 rfl rfl ?_
    refine aE_iconst (v := 0) dX11_bell_12 rfl ?_
    refine aE_bipush (v := 6) dX11_bell_13 (by decide) ?_
    refine aE_cSi dX11_bell_15 lk_X11_74 ms_X11_within (c_within _ _ _) rfl rfl ⟨by decide, by decide⟩ (Nat.le_of_ble_eq_true rfl) ⟨rfl, rfl⟩ ⟨by decide, by decide⟩ ?_
    refine aE_if_ne (tgt := 28) dX11_bell_18 (by decide) (fun h18 => ?_) (fun h18 => ?_)
    · skip
      obtain ⟨s, hs, rfl⟩ := wi_ix (by omega) (hns ▸ h8)
      have h4 : s < 4 := by omega
      refine aE_aload_n dX11_bell_28 rfl rfl ?_
      refine aE_getf (v := .ref 1) dX11_bell_29 fw_X11_10 (lt_nn (by decide)) rfl rfl ?_
      refine aE_getf (v := .ref 26) dX11_bell_32 fw_X11_126 (lt_nn (by decide)) rfl rfl ?_
      refine aE_iload_n dX11_bell_35 rfl rfl ?_
      refine aE_ildM dX11_bell_36 (lt_nn (by decide)) rfl (by decide) rfl h4 ?_
      refine aE_istore_n dX11_bell_37 rfl (by decide) rfl (aE_loc (ls' := [_, _, _, _]) rfl ?_)
      refine aE_aload_n dX11_bell_38 rfl rfl ?_
      refine aE_getf (v := .ref 1) dX11_bell_39 fw_X11_10 (lt_nn (by decide)) rfl rfl ?_
      refine aE_getf (v := .ref 26) dX11_bell_42 fw_X11_126 (lt_nn (by decide)) rfl rfl ?_
      refine aE_iload_n dX11_bell_45 rfl rfl ?_
      refine aE_iload_n dX11_bell_46 rfl rfl ?_
      refine aE_istM dX11_bell_47 (lt_nn (by decide)) rfl (by decide) rfl h4 ?_
      refine aE_aload_n dX11_bell_48 rfl rfl ?_
      refine aE_iconst (v := 0) dX11_bell_49 rfl ?_
      refine aE_puti dX11_bell_50 fp_X11_142 (Or.inl rfl) (lt_nn (by decide)) rfl (fun _ => a_narZ (by first | exact Or.inl rfl | exact Or.inr rfl | assumption)) (by decide) rfl ?_
      refine aE_iload_n dX11_bell_53 rfl rfl ?_
      refine aE_iret dX11_bell_54 rfl ⟨by decide, by decide⟩ ?_
      exact hO s hs rfl h18
    · skip
      refine aE_aload_n dX11_bell_21 rfl rfl ?_
      refine aE_ldc dX11_bell_22 ct_X11_78 ?_
      refine aE_cVi dX11_bell_24 lk_X11_62 mv_X11_found (c_found _) rfl (lt_nn (by decide)) rfl rfl ⟨by decide, by decide⟩ (Nat.le_of_ble_eq_true rfl) ⟨rfl, rfl⟩ ⟨by decide, by decide⟩ ?_
      refine aE_iret dX11_bell_27 rfl ⟨by decide, by decide⟩ ?_
      refine hB ?_
      first | exact Or.inl ‹_› | exact Or.inr ‹_›

set_option maxRecDepth 20000 in
theorem c_wish (v b : Int32) (ns : Nat) (hns : I 1 4 = nI ns) (hs4 : ns ≤ 4) (hB : (wi v 0 (I 1 4 - 1) = 0 ∨ wi b 0 6 = 0) → qi Q (-1000001) (fnd I) sp pl) (hO : ∀ s, s < ns → v = nI s → ¬ wi b 0 6 = 0 → qi Q (I (28 + 4 * s) 2) (iu (iu I (28 + 4 * s) 2 b) 0 9 0) sp pl) : aRuns mX11_wish (rK 2) [.ref 0, .int v, .int b] (nn pl) (MM I sp pl) (Q) := by
  refine aRuns_of pn_X11_wish (Nat.le_of_ble_eq_true rfl) (fun z => aE_loc (ls' := [_, _, _, _]) rfl ?_)
  refine aE_aload_n dX11_wish_0 rfl rfl ?_
  refine aE_getf (v := .ref 1) dX11_wish_1 fw_X11_10 (lt_nn (by decide)) rfl rfl ?_
  refine aE_iload_n dX11_wish_4 rfl rfl ?_
  refine aE_cVi dX11_wish_5 lk_X11_106 mv_X0_hasSchool (c_hasSchool _) rfl (lt_nn (by decide)) rfl rfl ⟨by decide, by decide⟩ (Nat.le_of_ble_eq_true rfl) ⟨rfl, rfl⟩ ⟨by decide, by decide⟩ ?_
  refine aE_if_eq (tgt := 21) dX11_wish_8 (by decide) (fun h8 => ?_) (fun h8 => ?_)
  · skip
    refine aE_aload_n dX11_wish_21 rfl rfl ?_
    refine aE_ldc dX11_wish_22 ct_X11_78 ?_
    refine aE_cVi dX11_wish_24 lk_X11_62 mv_X11_found (c_found _) rfl (lt_nn (by decide)) rfl rfl ⟨by decide, by decide⟩ (Nat.le_of_ble_eq_true rfl) ⟨rfl, rfl⟩ ⟨by decide, by decide⟩ ?_
    refine aE_iret dX11_wish_27 rfl ⟨by decide, by decide⟩ ?_
    refine hB ?_
    first | exact Or.inl ‹_› | exact Or.inr ‹_›
  · skip
    refine aE_iload_n dX11_wish_11 rfl rfl ?_
    refine aE_iconst (v := 0) dX11_wish_12 rfl ?_
    refine aE_bipush (v := 6) dX11_wish_13 (by decide) ?_
    refine aE_cSi dX11_wish_15 lk_X11_74 ms_X11_within (c_within _ _ _) rfl rfl ⟨by decide, by decide⟩ (Nat.le_of_ble_eq_true rfl) ⟨rfl, rfl⟩ ⟨by decide, by decide⟩ ?_
    refine aE_if_ne (tgt := 28) dX11_wish_18 (by decide) (fun h18 => ?_) (fun h18 => ?_)
    · skip
      obtain ⟨s, hs, rfl⟩ := wi_ix (by omega) (hns ▸ h8)
      have h4 : s < 4 := by omega
      refine aE_aload_n dX11_wish_28 rfl rfl ?_
      refine aE_getf (v := .ref 1) dX11_wish_29 fw_X11_10 (lt_nn (by decide)) rfl rfl ?_
      refine aE_getf (v := .ref 25) dX11_wish_32 fw_X11_109 (lt_nn (by decide)) rfl rfl ?_
      refine aE_iload_n dX11_wish_35 rfl rfl ?_
      refine aE_aald (t := 102) dX11_wish_36 (lt_nn (by decide)) ⟨by decide, by decide⟩ rfl (by decide) rfl h4 (mm_schs h4) ?_
      refine aE_geti dX11_wish_37 fw_X11_130 (lt_nn (by omega)) (sh_sch h4) (mc_sch (i := 2) h4 (by decide)).1 (mc_sch (i := 2) h4 (by decide)).2 ?_
      refine aE_istore_n dX11_wish_40 rfl (by decide) rfl (aE_loc (ls' := [_, _, _, _]) rfl ?_)
      refine aE_aload_n dX11_wish_41 rfl rfl ?_
      refine aE_getf (v := .ref 1) dX11_wish_42 fw_X11_10 (lt_nn (by decide)) rfl rfl ?_
      refine aE_getf (v := .ref 25) dX11_wish_45 fw_X11_109 (lt_nn (by decide)) rfl rfl ?_
      refine aE_iload_n dX11_wish_48 rfl rfl ?_
      refine aE_aald (t := 102) dX11_wish_49 (lt_nn (by decide)) ⟨by decide, by decide⟩ rfl (by decide) rfl h4 (mm_schs h4) ?_
      refine aE_iload_n dX11_wish_50 rfl rfl ?_
      refine aE_puti dX11_wish_51 fp_X11_130 (Or.inl rfl) (lt_nn (by omega)) (sh_sch h4) (fun _ => ⟨rfl, rfl⟩) (mc_sch (i := 2) h4 (by decide)).1 (mc_sch (i := 2) h4 (by decide)).2 ?_
      refine aE_aload_n dX11_wish_54 rfl rfl ?_
      refine aE_iconst (v := 0) dX11_wish_55 rfl ?_
      refine aE_puti dX11_wish_56 fp_X11_146 (Or.inl rfl) (lt_nn (by decide)) rfl (fun _ => a_narZ (by first | exact Or.inl rfl | exact Or.inr rfl | assumption)) (by decide) rfl ?_
      refine aE_iload_n dX11_wish_59 rfl rfl ?_
      refine aE_iret dX11_wish_60 rfl ⟨by decide, by decide⟩ ?_
      exact hO s hs rfl h18
    · skip
      refine aE_aload_n dX11_wish_21 rfl rfl ?_
      refine aE_ldc dX11_wish_22 ct_X11_78 ?_
      refine aE_cVi dX11_wish_24 lk_X11_62 mv_X11_found (c_found _) rfl (lt_nn (by decide)) rfl rfl ⟨by decide, by decide⟩ (Nat.le_of_ble_eq_true rfl) ⟨rfl, rfl⟩ ⟨by decide, by decide⟩ ?_
      refine aE_iret dX11_wish_27 rfl ⟨by decide, by decide⟩ ?_
      refine hB ?_
      first | exact Or.inl ‹_› | exact Or.inr ‹_›

set_option maxRecDepth 20000 in
theorem c_addStop (t : Nat) (a b c d : Int32) (ht : I 1 5 = nI t) (h10 : t < 10) (hsp : ∀ k, k < 10 → 44 ≤ sp k ∧ sp k < 54) : aRuns mX0_addStop (rK 0) [.ref 1, .int a, .int b, .int c, .int d] (nn pl) (MM I sp pl) (a_ri (nI t + 1 - 1) (nn pl) (MM (iu (iu (iu (iu (iu I (sp t) 0 a) (sp t) 1 b) (sp t) 2 c) (sp t) 3 d) 1 5 (nI t + 1)) sp pl)) := by
  refine aRuns_of pn_X0_addStop (Nat.le_of_ble_eq_true rfl) (fun z => aE_loc (ls' := [_, _, _, _, _, _]) rfl ?_)
  refine aE_aload_n dX0_addStop_0 rfl rfl ?_
  refine aE_getf (v := .ref 27) dX0_addStop_1 fw_X0_30 (lt_nn (by decide)) rfl rfl ?_
  refine aE_aload_n dX0_addStop_4 rfl rfl ?_
  refine aE_geti dX0_addStop_5 fw_X0_50 (lt_nn (by decide)) rfl (by decide) rfl ?_
  refine aE_aald (t := 103) dX0_addStop_8 (lt_nn (by decide)) ⟨by decide, by decide⟩ rfl (by decide) ht h10 mm_stop ?_
  refine aE_astore dX0_addStop_9 (by decide) rfl (aE_loc (ls' := [_, _, _, _, _, _]) rfl ?_)
  refine aE_aload dX0_addStop_11 rfl ?_
  refine aE_iload_n dX0_addStop_13 rfl rfl ?_
  refine aE_puti dX0_addStop_14 fp_X0_62 (Or.inl rfl) (lt_nn (by have := (hsp t h10); omega)) (sh_stop (hsp t h10)) (fun _ => ⟨rfl, rfl⟩) (mc_stop (hsp t h10) (i := 0)).1 (mc_stop (hsp t h10) (i := 0)).2 ?_
  refine aE_aload dX0_addStop_17 rfl ?_
  refine aE_iload_n dX0_addStop_19 rfl rfl ?_
  refine aE_puti dX0_addStop_20 fp_X0_65 (Or.inl rfl) (lt_nn (by have := (hsp t h10); omega)) (sh_stop (hsp t h10)) (fun _ => ⟨rfl, rfl⟩) (mc_stop (hsp t h10) (i := 1)).1 (mc_stop (hsp t h10) (i := 1)).2 ?_
  refine aE_aload dX0_addStop_23 rfl ?_
  refine aE_iload_n dX0_addStop_25 rfl rfl ?_
  refine aE_puti dX0_addStop_26 fp_X0_66 (Or.inl rfl) (lt_nn (by have := (hsp t h10); omega)) (sh_stop (hsp t h10)) (fun _ => ⟨rfl, rfl⟩) (mc_stop (hsp t h10) (i := 2)).1 (mc_stop (hsp t h10) (i := 2)).2 ?_
  refine aE_aload dX0_addStop_29 rfl ?_
  refine aE_iload dX0_addStop_31 rfl ?_
  refine aE_puti dX0_addStop_33 fp_X0_69 (Or.inl rfl) (lt_nn (by have := (hsp t h10); omega)) (sh_stop (hsp t h10)) (fun _ => ⟨rfl, rfl⟩) (mc_stop (hsp t h10) (i := 3)).1 (mc_stop (hsp t h10) (i := 3)).2 ?_
  refine aE_aload_n dX0_addStop_36 rfl rfl ?_
  refine aE_dup dX0_addStop_37 rfl ?_
  refine aE_geti dX0_addStop_38 fw_X0_50 (lt_nn (by decide)) rfl (by decide) rfl ?_
  rw [show iu (iu (iu (iu I (sp t) 0 a) (sp t) 1 b) (sp t) 2 c) (sp t) 3 d 1 5 = nI t by have := hsp t h10; rw [iu_ne (by omega), iu_ne (by omega), iu_ne (by omega), iu_ne (by omega)]; exact ht]
  refine aE_iconst (v := 1) dX0_addStop_41 rfl ?_
  refine aE_iadd dX0_addStop_42 ?_
  refine aE_puti dX0_addStop_43 fp_X0_50 (Or.inl rfl) (lt_nn (by decide)) rfl (fun _ => ⟨rfl, rfl⟩) (by decide) rfl ?_
  refine aE_aload_n dX0_addStop_46 rfl rfl ?_
  refine aE_geti dX0_addStop_47 fw_X0_50 (lt_nn (by decide)) rfl (by decide) rfl ?_
  refine aE_iconst (v := 1) dX0_addStop_50 rfl ?_
  refine aE_isub dX0_addStop_51 ?_
  refine aE_iret dX0_addStop_52 rfl ⟨by decide, by decide⟩ ?_
  exact ⟨rfl, rfl, rfl⟩

set_option maxRecDepth 20000 in
theorem c_stop (a b c d : Int32) (t : Nat) (ht : I 1 5 = nI t) (htt : t < 1000) (hsp : ∀ k, k < 10 → 44 ≤ sp k ∧ sp k < 54) (hB : (wi a 0 (I 1 4 - 1) = 0 ∨ wi b 0 (I 2 0 - 1) = 0 ∨ wi c 1 30 = 0 ∨ wi d 0 3 = 0) → qi Q (-1000001) (fnd I) sp pl) (hF : (¬ wi a 0 (I 1 4 - 1) = 0 ∧ ¬ wi b 0 (I 2 0 - 1) = 0 ∧ ¬ wi c 1 30 = 0 ∧ ¬ wi d 0 3 = 0) → ¬ I 1 5 < 10 → qi Q (-1000002) (fnd I) sp pl) (hO : (¬ wi a 0 (I 1 4 - 1) = 0 ∧ ¬ wi b 0 (I 2 0 - 1) = 0 ∧ ¬ wi c 1 30 = 0 ∧ ¬ wi d 0 3 = 0) → I 1 5 < 10 → qi Q (nI t + 1 - 1) (iu (iu (iu (iu (iu (fall I) (sp t) 0 a) (sp t) 1 b) (sp t) 2 c) (sp t) 3 d) 1 5 (nI t + 1)) sp pl) : aRuns mX11_stop (rK 2) [.ref 0, .int a, .int b, .int c, .int d] (nn pl) (MM I sp pl) (Q) := by
  refine aRuns_of pn_X11_stop (Nat.le_of_ble_eq_true rfl) (fun z => aE_loc (ls' := [_, _, _, _, _]) rfl ?_)
  refine aE_aload_n dX11_stop_0 rfl rfl ?_
  refine aE_getf (v := .ref 1) dX11_stop_1 fw_X11_10 (lt_nn (by decide)) rfl rfl ?_
  refine aE_iload_n dX11_stop_4 rfl rfl ?_
  refine aE_cVi dX11_stop_5 lk_X11_106 mv_X0_hasSchool (c_hasSchool _) rfl (lt_nn (by decide)) rfl rfl ⟨by decide, by decide⟩ (Nat.le_of_ble_eq_true rfl) ⟨rfl, rfl⟩ ⟨by decide, by decide⟩ ?_
  refine aE_if_eq (tgt := 45) dX11_stop_8 (by decide) (fun h8 => ?_) (fun h8 => ?_)
  · skip
    refine aE_aload_n dX11_stop_45 rfl rfl ?_
    refine aE_ldc dX11_stop_46 ct_X11_78 ?_
    refine aE_cVi dX11_stop_48 lk_X11_62 mv_X11_found (c_found _) rfl (lt_nn (by decide)) rfl rfl ⟨by decide, by decide⟩ (Nat.le_of_ble_eq_true rfl) ⟨rfl, rfl⟩ ⟨by decide, by decide⟩ ?_
    refine aE_iret dX11_stop_51 rfl ⟨by decide, by decide⟩ ?_
    refine hB ?_
    first | exact Or.inl ‹_› | exact Or.inr (Or.inl ‹_›) | exact Or.inr (Or.inr (Or.inl ‹_›)) | exact Or.inr (Or.inr (Or.inr ‹_›))
  · skip
    refine aE_aload_n dX11_stop_11 rfl rfl ?_
    refine aE_getf (v := .ref 1) dX11_stop_12 fw_X11_10 (lt_nn (by decide)) rfl rfl ?_
    refine aE_getf (v := .ref 2) dX11_stop_15 fw_X11_51 (lt_nn (by decide)) rfl rfl ?_
    refine aE_iload_n dX11_stop_18 rfl rfl ?_
    refine aE_cVi dX11_stop_19 lk_X11_70 mv_X10_hasCorner (c_hasCorner _) rfl (lt_nn (by decide)) rfl rfl ⟨by decide, by decide⟩ (Nat.le_of_ble_eq_true rfl) ⟨rfl, rfl⟩ ⟨by decide, by decide⟩ ?_
    refine aE_if_eq (tgt := 45) dX11_stop_22 (by decide) (fun h22 => ?_) (fun h22 => ?_)
    · skip
      refine aE_aload_n dX11_stop_45 rfl rfl ?_
      refine aE_ldc dX11_stop_46 ct_X11_78 ?_
      refine aE_cVi dX11_stop_48 lk_X11_62 mv_X11_found (c_found _) rfl (lt_nn (by decide)) rfl rfl ⟨by decide, by decide⟩ (Nat.le_of_ble_eq_true rfl) ⟨rfl, rfl⟩ ⟨by decide, by decide⟩ ?_
      refine aE_iret dX11_stop_51 rfl ⟨by decide, by decide⟩ ?_
      refine hB ?_
      first | exact Or.inl ‹_› | exact Or.inr (Or.inl ‹_›) | exact Or.inr (Or.inr (Or.inl ‹_›)) | exact Or.inr (Or.inr (Or.inr ‹_›))
    · skip
      refine aE_iload_n dX11_stop_25 rfl rfl ?_
      refine aE_iconst (v := 1) dX11_stop_26 rfl ?_
      refine aE_bipush (v := 30) dX11_stop_27 (by decide) ?_
      refine aE_cSi dX11_stop_29 lk_X11_74 ms_X11_within (c_within _ _ _) rfl rfl ⟨by decide, by decide⟩ (Nat.le_of_ble_eq_true rfl) ⟨rfl, rfl⟩ ⟨by decide, by decide⟩ ?_
      refine aE_if_eq (tgt := 45) dX11_stop_32 (by decide) (fun h32 => ?_) (fun h32 => ?_)
      · skip
        refine aE_aload_n dX11_stop_45 rfl rfl ?_
        refine aE_ldc dX11_stop_46 ct_X11_78 ?_
        refine aE_cVi dX11_stop_48 lk_X11_62 mv_X11_found (c_found _) rfl (lt_nn (by decide)) rfl rfl ⟨by decide, by decide⟩ (Nat.le_of_ble_eq_true rfl) ⟨rfl, rfl⟩ ⟨by decide, by decide⟩ ?_
        refine aE_iret dX11_stop_51 rfl ⟨by decide, by decide⟩ ?_
        refine hB ?_
        first | exact Or.inl ‹_› | exact Or.inr (Or.inl ‹_›) | exact Or.inr (Or.inr (Or.inl ‹_›)) | exact Or.inr (Or.inr (Or.inr ‹_›))
      · skip
        refine aE_iload dX11_stop_35 rfl ?_
        refine aE_iconst (v := 0) dX11_stop_37 rfl ?_
        refine aE_iconst (v := 3) dX11_stop_38 rfl ?_
        refine aE_cSi dX11_stop_39 lk_X11_74 ms_X11_within (c_within _ _ _) rfl rfl ⟨by decide, by decide⟩ (Nat.le_of_ble_eq_true rfl) ⟨rfl, rfl⟩ ⟨by decide, by decide⟩ ?_
        refine aE_if_ne (tgt := 52) dX11_stop_42 (by decide) (fun h42 => ?_) (fun h42 => ?_)
        · skip
          refine aE_aload_n dX11_stop_52 rfl rfl ?_
          refine aE_getf (v := .ref 1) dX11_stop_53 fw_X11_10 (lt_nn (by decide)) rfl rfl ?_
          refine aE_geti dX11_stop_56 fw_X11_149 (lt_nn (by decide)) rfl (by decide) rfl ?_
          refine aE_bipush (v := 10) dX11_stop_59 (by decide) ?_
          refine aE_icmp_lt (tgt := 71) dX11_stop_61 (by decide) (fun h61 => ?_) (fun h61 => ?_)
          · skip
            refine aE_aload_n dX11_stop_71 rfl rfl ?_
            refine aE_cVv dX11_stop_72 lk_X11_82 mv_X11_plansFall (c_plansFall ) rfl (lt_nn (by decide)) rfl rfl ⟨by decide, by decide⟩ (Nat.le_of_ble_eq_true rfl) ⟨rfl, rfl⟩ ⟨by decide, by decide⟩ ?_
            refine aE_aload_n dX11_stop_75 rfl rfl ?_
            refine aE_getf (v := .ref 1) dX11_stop_76 fw_X11_10 (lt_nn (by decide)) rfl rfl ?_
            refine aE_iload_n dX11_stop_79 rfl rfl ?_
            refine aE_iload_n dX11_stop_80 rfl rfl ?_
            refine aE_iload_n dX11_stop_81 rfl rfl ?_
            refine aE_iload dX11_stop_82 rfl ?_
            have h10 : t < 10 := by
              rcases Nat.lt_or_ge t 10 with q | q
              · exact q
              · exact absurd h61 (by rw [ht]; exact nI_nlt (a := t) (b := 10) q (by omega))
            refine aE_cVi dX11_stop_84 lk_X11_152 mv_X0_addStop (c_addStop (I := fall I) t _ _ _ _ ht h10 hsp) rfl (lt_nn (by decide)) rfl rfl ⟨by decide, by decide⟩ (Nat.le_of_ble_eq_true rfl) ⟨rfl, rfl⟩ ⟨by decide, by decide⟩ ?_
            refine aE_iret dX11_stop_87 rfl ⟨by decide, by decide⟩ ?_
            exact hO ⟨h8, h22, h32, h42⟩ h61
          · skip
            refine aE_aload_n dX11_stop_64 rfl rfl ?_
            refine aE_ldc dX11_stop_65 ct_X11_61 ?_
            refine aE_cVi dX11_stop_67 lk_X11_62 mv_X11_found (c_found _) rfl (lt_nn (by decide)) rfl rfl ⟨by decide, by decide⟩ (Nat.le_of_ble_eq_true rfl) ⟨rfl, rfl⟩ ⟨by decide, by decide⟩ ?_
            refine aE_iret dX11_stop_70 rfl ⟨by decide, by decide⟩ ?_
            exact hF ⟨h8, h22, h32, h42⟩ h61
        · skip
          refine aE_aload_n dX11_stop_45 rfl rfl ?_
          refine aE_ldc dX11_stop_46 ct_X11_78 ?_
          refine aE_cVi dX11_stop_48 lk_X11_62 mv_X11_found (c_found _) rfl (lt_nn (by decide)) rfl rfl ⟨by decide, by decide⟩ (Nat.le_of_ble_eq_true rfl) ⟨rfl, rfl⟩ ⟨by decide, by decide⟩ ?_
          refine aE_iret dX11_stop_51 rfl ⟨by decide, by decide⟩ ?_
          refine hB ?_
          first | exact Or.inl ‹_› | exact Or.inr (Or.inl ‹_›) | exact Or.inr (Or.inr (Or.inl ‹_›)) | exact Or.inr (Or.inr (Or.inr ‹_›))

set_option maxRecDepth 20000 in
theorem c_pupils (v c : Int32) (nst : Nat) (hn : I 1 5 = nI nst) (hn10 : nst ≤ 10) (hsp : ∀ k, k < 10 → 44 ≤ sp k ∧ sp k < 54) (hB : (wi v 0 (I 1 5 - 1) = 0 ∨ wi c 1 30 = 0) → qi Q (-1000001) (fnd I) sp pl) (hO : ∀ t, t < nst → v = nI t → ¬ wi c 1 30 = 0 → qi Q (I (sp t) 2) (fall (iu I (sp t) 2 c)) sp pl) : aRuns mX11_pupils (rK 2) [.ref 0, .int v, .int c] (nn pl) (MM I sp pl) (Q) := by
  refine aRuns_of pn_X11_pupils (Nat.le_of_ble_eq_true rfl) (fun z => aE_loc (ls' := [_, _, _, _]) rfl ?_)
  refine aE_aload_n dX11_pupils_0 rfl rfl ?_
  refine aE_getf (v := .ref 1) dX11_pupils_1 fw_X11_10 (lt_nn (by decide)) rfl rfl ?_
  refine aE_iload_n dX11_pupils_4 rfl rfl ?_
  refine aE_cVi dX11_pupils_5 lk_X11_156 mv_X0_hasStop (c_hasStop _) rfl (lt_nn (by decide)) rfl rfl ⟨by decide, by decide⟩ (Nat.le_of_ble_eq_true rfl) ⟨rfl, rfl⟩ ⟨by decide, by decide⟩ ?_
  refine aE_if_eq (tgt := 21) dX11_pupils_8 (by decide) (fun h8 => ?_) (fun h8 => ?_)
  · skip
    refine aE_aload_n dX11_pupils_21 rfl rfl ?_
    refine aE_ldc dX11_pupils_22 ct_X11_78 ?_
    refine aE_cVi dX11_pupils_24 lk_X11_62 mv_X11_found (c_found _) rfl (lt_nn (by decide)) rfl rfl ⟨by decide, by decide⟩ (Nat.le_of_ble_eq_true rfl) ⟨rfl, rfl⟩ ⟨by decide, by decide⟩ ?_
    refine aE_iret dX11_pupils_27 rfl ⟨by decide, by decide⟩ ?_
    refine hB ?_
    first | exact Or.inl ‹_› | exact Or.inr ‹_›
  · skip
    refine aE_iload_n dX11_pupils_11 rfl rfl ?_
    refine aE_iconst (v := 1) dX11_pupils_12 rfl ?_
    refine aE_bipush (v := 30) dX11_pupils_13 (by decide) ?_
    refine aE_cSi dX11_pupils_15 lk_X11_74 ms_X11_within (c_within _ _ _) rfl rfl ⟨by decide, by decide⟩ (Nat.le_of_ble_eq_true rfl) ⟨rfl, rfl⟩ ⟨by decide, by decide⟩ ?_
    refine aE_if_ne (tgt := 28) dX11_pupils_18 (by decide) (fun h18 => ?_) (fun h18 => ?_)
    · skip
      obtain ⟨t, ht, rfl⟩ := wi_ix (by omega) (hn ▸ h8)
      have h10 : t < 10 := by omega
      refine aE_aload_n dX11_pupils_28 rfl rfl ?_
      refine aE_getf (v := .ref 1) dX11_pupils_29 fw_X11_10 (lt_nn (by decide)) rfl rfl ?_
      refine aE_getf (v := .ref 27) dX11_pupils_32 fw_X11_159 (lt_nn (by decide)) rfl rfl ?_
      refine aE_iload_n dX11_pupils_35 rfl rfl ?_
      refine aE_aald (t := 103) dX11_pupils_36 (lt_nn (by decide)) ⟨by decide, by decide⟩ rfl (by decide) rfl h10 mm_stop ?_
      refine aE_geti dX11_pupils_37 fw_X11_163 (lt_nn (by have := (hsp t h10); omega)) (sh_stop (hsp t h10)) (mc_stop (i := 2) (hsp t h10)).1 (mc_stop (i := 2) (hsp t h10)).2 ?_
      refine aE_istore_n dX11_pupils_40 rfl (by decide) rfl (aE_loc (ls' := [_, _, _, _]) rfl ?_)
      refine aE_aload_n dX11_pupils_41 rfl rfl ?_
      refine aE_getf (v := .ref 1) dX11_pupils_42 fw_X11_10 (lt_nn (by decide)) rfl rfl ?_
      refine aE_getf (v := .ref 27) dX11_pupils_45 fw_X11_159 (lt_nn (by decide)) rfl rfl ?_
      refine aE_iload_n dX11_pupils_48 rfl rfl ?_
      refine aE_aald (t := 103) dX11_pupils_49 (lt_nn (by decide)) ⟨by decide, by decide⟩ rfl (by decide) rfl h10 mm_stop ?_
      refine aE_iload_n dX11_pupils_50 rfl rfl ?_
      refine aE_puti dX11_pupils_51 fp_X11_163 (Or.inl rfl) (lt_nn (by have := (hsp t h10); omega)) (sh_stop (hsp t h10)) (fun _ => ⟨rfl, rfl⟩) (mc_stop (hsp t h10) (i := 2)).1 (mc_stop (hsp t h10) (i := 2)).2 ?_
      refine aE_aload_n dX11_pupils_54 rfl rfl ?_
      refine aE_cVv dX11_pupils_55 lk_X11_82 mv_X11_plansFall (c_plansFall ) rfl (lt_nn (by decide)) rfl rfl ⟨by decide, by decide⟩ (Nat.le_of_ble_eq_true rfl) ⟨rfl, rfl⟩ ⟨by decide, by decide⟩ ?_
      refine aE_iload_n dX11_pupils_58 rfl rfl ?_
      refine aE_iret dX11_pupils_59 rfl ⟨by decide, by decide⟩ ?_
      exact hO t ht rfl h18
    · skip
      refine aE_aload_n dX11_pupils_21 rfl rfl ?_
      refine aE_ldc dX11_pupils_22 ct_X11_78 ?_
      refine aE_cVi dX11_pupils_24 lk_X11_62 mv_X11_found (c_found _) rfl (lt_nn (by decide)) rfl rfl ⟨by decide, by decide⟩ (Nat.le_of_ble_eq_true rfl) ⟨rfl, rfl⟩ ⟨by decide, by decide⟩ ?_
      refine aE_iret dX11_pupils_27 rfl ⟨by decide, by decide⟩ ?_
      refine hB ?_
      first | exact Or.inl ‹_› | exact Or.inr ‹_›

set_option maxRecDepth 20000 in
theorem c_terms (a b c : Int32) (hB : (wi a 1 60 = 0 ∨ wi b 1 90 = 0 ∨ wi c 0 30 = 0) → qi Q (-1000001) (fnd I) sp pl) (hO : (¬ wi a 1 60 = 0 ∧ ¬ wi b 1 90 = 0 ∧ ¬ wi c 0 30 = 0) → qi Q 1 (iu (iu (iu (fall I) 1 6 a) 1 7 b) 1 8 c) sp pl) : aRuns mX11_terms (rK 1) [.ref 0, .int a, .int b, .int c] (nn pl) (MM I sp pl) (Q) := by
  refine aRuns_of pn_X11_terms (Nat.le_of_ble_eq_true rfl) (fun z => aE_loc (ls' := [_, _, _, _]) rfl ?_)
  refine aE_iload_n dX11_terms_0 rfl rfl ?_
  refine aE_iconst (v := 1) dX11_terms_1 rfl ?_
  refine aE_bipush (v := 60) dX11_terms_2 (by decide) ?_
  refine aE_cSi dX11_terms_4 lk_X11_74 ms_X11_within (c_within _ _ _) rfl rfl ⟨by decide, by decide⟩ (Nat.le_of_ble_eq_true rfl) ⟨rfl, rfl⟩ ⟨by decide, by decide⟩ ?_
  refine aE_if_eq (tgt := 30) dX11_terms_7 (by decide) (fun h7 => ?_) (fun h7 => ?_)
  · skip
    refine aE_aload_n dX11_terms_30 rfl rfl ?_
    refine aE_ldc dX11_terms_31 ct_X11_78 ?_
    refine aE_cVi dX11_terms_33 lk_X11_62 mv_X11_found (c_found _) rfl (lt_nn (by decide)) rfl rfl ⟨by decide, by decide⟩ (Nat.le_of_ble_eq_true rfl) ⟨rfl, rfl⟩ ⟨by decide, by decide⟩ ?_
    refine aE_iret dX11_terms_36 rfl ⟨by decide, by decide⟩ ?_
    refine hB ?_
    first | exact Or.inl ‹_› | exact Or.inr (Or.inl ‹_›) | exact Or.inr (Or.inr ‹_›)
  · skip
    refine aE_iload_n dX11_terms_10 rfl rfl ?_
    refine aE_iconst (v := 1) dX11_terms_11 rfl ?_
    refine aE_bipush (v := 90) dX11_terms_12 (by decide) ?_
    refine aE_cSi dX11_terms_14 lk_X11_74 ms_X11_within (c_within _ _ _) rfl rfl ⟨by decide, by decide⟩ (Nat.le_of_ble_eq_true rfl) ⟨rfl, rfl⟩ ⟨by decide, by decide⟩ ?_
    refine aE_if_eq (tgt := 30) dX11_terms_17 (by decide) (fun h17 => ?_) (fun h17 => ?_)
    · skip
      refine aE_aload_n dX11_terms_30 rfl rfl ?_
      refine aE_ldc dX11_terms_31 ct_X11_78 ?_
      refine aE_cVi dX11_terms_33 lk_X11_62 mv_X11_found (c_found _) rfl (lt_nn (by decide)) rfl rfl ⟨by decide, by decide⟩ (Nat.le_of_ble_eq_true rfl) ⟨rfl, rfl⟩ ⟨by decide, by decide⟩ ?_
      refine aE_iret dX11_terms_36 rfl ⟨by decide, by decide⟩ ?_
      refine hB ?_
      first | exact Or.inl ‹_› | exact Or.inr (Or.inl ‹_›) | exact Or.inr (Or.inr ‹_›)
    · skip
      refine aE_iload_n dX11_terms_20 rfl rfl ?_
      refine aE_iconst (v := 0) dX11_terms_21 rfl ?_
      refine aE_bipush (v := 30) dX11_terms_22 (by decide) ?_
      refine aE_cSi dX11_terms_24 lk_X11_74 ms_X11_within (c_within _ _ _) rfl rfl ⟨by decide, by decide⟩ (Nat.le_of_ble_eq_true rfl) ⟨rfl, rfl⟩ ⟨by decide, by decide⟩ ?_
      refine aE_if_ne (tgt := 37) dX11_terms_27 (by decide) (fun h27 => ?_) (fun h27 => ?_)
      · skip
        refine aE_aload_n dX11_terms_37 rfl rfl ?_
        refine aE_cVv dX11_terms_38 lk_X11_82 mv_X11_plansFall (c_plansFall ) rfl (lt_nn (by decide)) rfl rfl ⟨by decide, by decide⟩ (Nat.le_of_ble_eq_true rfl) ⟨rfl, rfl⟩ ⟨by decide, by decide⟩ ?_
        refine aE_aload_n dX11_terms_41 rfl rfl ?_
        refine aE_getf (v := .ref 1) dX11_terms_42 fw_X11_10 (lt_nn (by decide)) rfl rfl ?_
        refine aE_iload_n dX11_terms_45 rfl rfl ?_
        refine aE_puti dX11_terms_46 fp_X11_172 (Or.inl rfl) (lt_nn (by decide)) rfl (fun _ => ⟨rfl, rfl⟩) (by decide) rfl ?_
        refine aE_aload_n dX11_terms_49 rfl rfl ?_
        refine aE_getf (v := .ref 1) dX11_terms_50 fw_X11_10 (lt_nn (by decide)) rfl rfl ?_
        refine aE_iload_n dX11_terms_53 rfl rfl ?_
        refine aE_puti dX11_terms_54 fp_X11_175 (Or.inl rfl) (lt_nn (by decide)) rfl (fun _ => ⟨rfl, rfl⟩) (by decide) rfl ?_
        refine aE_aload_n dX11_terms_57 rfl rfl ?_
        refine aE_getf (v := .ref 1) dX11_terms_58 fw_X11_10 (lt_nn (by decide)) rfl rfl ?_
        refine aE_iload_n dX11_terms_61 rfl rfl ?_
        refine aE_puti dX11_terms_62 fp_X11_178 (Or.inl rfl) (lt_nn (by decide)) rfl (fun _ => ⟨rfl, rfl⟩) (by decide) rfl ?_
        refine aE_iconst (v := 1) dX11_terms_65 rfl ?_
        refine aE_iret dX11_terms_66 rfl ⟨by decide, by decide⟩ ?_
        exact hO ⟨h7, h17, h27⟩
      · skip
        refine aE_aload_n dX11_terms_30 rfl rfl ?_
        refine aE_ldc dX11_terms_31 ct_X11_78 ?_
        refine aE_cVi dX11_terms_33 lk_X11_62 mv_X11_found (c_found _) rfl (lt_nn (by decide)) rfl rfl ⟨by decide, by decide⟩ (Nat.le_of_ble_eq_true rfl) ⟨rfl, rfl⟩ ⟨by decide, by decide⟩ ?_
        refine aE_iret dX11_terms_36 rfl ⟨by decide, by decide⟩ ?_
        refine hB ?_
        first | exact Or.inl ‹_› | exact Or.inr (Or.inl ‹_›) | exact Or.inr (Or.inr ‹_›)

set_option maxRecDepth 20000 in
theorem c_told (w : Int32) (h_0 : w = 0 → qi Q (I 2 0) I sp pl) (h_1 : w = 1 → qi Q (I 2 1) I sp pl) (h_2 : w = 2 → qi Q (I 1 4) I sp pl) (h_3 : w = 3 → qi Q (I 1 5) I sp pl) (h_4 : w = 4 → qi Q (I 75 1) I sp pl) (h_5 : w = 5 → qi Q (I 75 0) I sp pl) (h_6 : w = 6 → qi Q (I 0 10) I sp pl) (hD : (w.toInt < 0 ∨ 6 < w.toInt) → qi Q (-1000001) (fnd I) sp pl) : aRuns mX11_told (rK 1) [.ref 0, .int w] (nn pl) (MM I sp pl) (Q) := by
  refine aRuns_of pn_X11_told (Nat.le_of_ble_eq_true rfl) (fun z => aE_loc (ls' := [_, _]) rfl ?_)
  refine aE_iload_n dX11_told_0 rfl rfl ?_
  rcases a_sw7 w with hsw | hsw | hsw | hsw | hsw | hsw | hsw | hsw
  · skip
    refine aE_tableOut (tgt := 103) dX11_told_1 hsw (by decide) ?_
    refine aE_aload_n dX11_told_103 rfl rfl ?_
    refine aE_ldc dX11_told_104 ct_X11_78 ?_
    refine aE_cVi dX11_told_106 lk_X11_62 mv_X11_found (c_found _) rfl (lt_nn (by decide)) rfl rfl ⟨by decide, by decide⟩ (Nat.le_of_ble_eq_true rfl) ⟨rfl, rfl⟩ ⟨by decide, by decide⟩ ?_
    refine aE_iret dX11_told_109 rfl ⟨by decide, by decide⟩ ?_
    exact hD hsw
  · skip
    subst hsw
    refine aE_tableIn (off := 43) (tgt := 44) dX11_told_1 (by decide) (by decide) rfl (by decide) ?_
    refine aE_aload_n dX11_told_44 rfl rfl ?_
    refine aE_getf (v := .ref 1) dX11_told_45 fw_X11_10 (lt_nn (by decide)) rfl rfl ?_
    refine aE_getf (v := .ref 2) dX11_told_48 fw_X11_51 (lt_nn (by decide)) rfl rfl ?_
    refine aE_geti dX11_told_51 fw_X11_55 (lt_nn (by decide)) rfl (by decide) rfl ?_
    refine aE_iret dX11_told_54 rfl ⟨by decide, by decide⟩ ?_
    exact h_0 rfl
  · skip
    subst hsw
    refine aE_tableIn (off := 54) (tgt := 55) dX11_told_1 (by decide) (by decide) rfl (by decide) ?_
    refine aE_aload_n dX11_told_55 rfl rfl ?_
    refine aE_getf (v := .ref 1) dX11_told_56 fw_X11_10 (lt_nn (by decide)) rfl rfl ?_
    refine aE_getf (v := .ref 2) dX11_told_59 fw_X11_51 (lt_nn (by decide)) rfl rfl ?_
    refine aE_geti dX11_told_62 fw_X11_79 (lt_nn (by decide)) rfl (by decide) rfl ?_
    refine aE_iret dX11_told_65 rfl ⟨by decide, by decide⟩ ?_
    exact h_1 rfl
  · skip
    subst hsw
    refine aE_tableIn (off := 65) (tgt := 66) dX11_told_1 (by decide) (by decide) rfl (by decide) ?_
    refine aE_aload_n dX11_told_66 rfl rfl ?_
    refine aE_getf (v := .ref 1) dX11_told_67 fw_X11_10 (lt_nn (by decide)) rfl rfl ?_
    refine aE_geti dX11_told_70 fw_X11_99 (lt_nn (by decide)) rfl (by decide) rfl ?_
    refine aE_iret dX11_told_73 rfl ⟨by decide, by decide⟩ ?_
    exact h_2 rfl
  · skip
    subst hsw
    refine aE_tableIn (off := 73) (tgt := 74) dX11_told_1 (by decide) (by decide) rfl (by decide) ?_
    refine aE_aload_n dX11_told_74 rfl rfl ?_
    refine aE_getf (v := .ref 1) dX11_told_75 fw_X11_10 (lt_nn (by decide)) rfl rfl ?_
    refine aE_geti dX11_told_78 fw_X11_149 (lt_nn (by decide)) rfl (by decide) rfl ?_
    refine aE_iret dX11_told_81 rfl ⟨by decide, by decide⟩ ?_
    exact h_3 rfl
  · skip
    subst hsw
    refine aE_tableIn (off := 81) (tgt := 82) dX11_told_1 (by decide) (by decide) rfl (by decide) ?_
    refine aE_aload_n dX11_told_82 rfl rfl ?_
    refine aE_getf (v := .ref 75) dX11_told_83 fw_X11_26 (lt_nn (by decide)) rfl rfl ?_
    refine aE_geti dX11_told_86 fw_X11_252 (lt_nn (by decide)) rfl (by decide) rfl ?_
    refine aE_iret dX11_told_89 rfl ⟨by decide, by decide⟩ ?_
    exact h_4 rfl
  · skip
    subst hsw
    refine aE_tableIn (off := 89) (tgt := 90) dX11_told_1 (by decide) (by decide) rfl (by decide) ?_
    refine aE_aload_n dX11_told_90 rfl rfl ?_
    refine aE_getf (v := .ref 75) dX11_told_91 fw_X11_26 (lt_nn (by decide)) rfl rfl ?_
    refine aE_geti dX11_told_94 fw_X11_239 (lt_nn (by decide)) rfl (by decide) rfl ?_
    refine aE_iret dX11_told_97 rfl ⟨by decide, by decide⟩ ?_
    exact h_5 rfl
  · skip
    subst hsw
    refine aE_tableIn (off := 97) (tgt := 98) dX11_told_1 (by decide) (by decide) rfl (by decide) ?_
    refine aE_aload_n dX11_told_98 rfl rfl ?_
    refine aE_geti dX11_told_99 fw_X11_324 (lt_nn (by decide)) rfl (by decide) rfl ?_
    refine aE_iret dX11_told_102 rfl ⟨by decide, by decide⟩ ?_
    exact h_6 rfl

set_option maxRecDepth 20000 in
theorem c_comes (r : Int32) (nm : Nat) (hm : I 90 0 = nI nm) (hnm : nm ≤ 10) (hB : r < 0 → qi Q (-1000001) (fnd I) sp pl) (hN : 0 ≤ r → I 90 0 ≤ r → qi Q (-1000004) (fnd I) sp pl) (hO : ∀ j, j < nm → r = nI j → qi Q (I 91 j) I sp pl) : aRuns mX11_comes (rK 1) [.ref 0, .int r] (nn pl) (MM I sp pl) (Q) := by
  refine aRuns_of pn_X11_comes (Nat.le_of_ble_eq_true rfl) (fun z => aE_loc (ls' := [_, _]) rfl ?_)
  refine aE_iload_n dX11_comes_0 rfl rfl ?_
  refine aE_if_ge (tgt := 11) dX11_comes_1 (by decide) (fun h1 => ?_) (fun h1 => ?_)
  · skip
    refine aE_iload_n dX11_comes_11 rfl rfl ?_
    refine aE_aload_n dX11_comes_12 rfl rfl ?_
    refine aE_getf (v := .ref 90) dX11_comes_13 fw_X11_40 (lt_nn (by decide)) rfl rfl ?_
    refine aE_geti dX11_comes_16 fw_X11_284 (lt_nn (by decide)) rfl (by decide) rfl ?_
    refine aE_icmp_ge (tgt := 34) dX11_comes_19 (by decide) (fun h19 => ?_) (fun h19 => ?_)
    · skip
      refine aE_aload_n dX11_comes_34 rfl rfl ?_
      refine aE_ldc dX11_comes_35 ct_X11_98 ?_
      refine aE_cVi dX11_comes_37 lk_X11_62 mv_X11_found (c_found _) rfl (lt_nn (by decide)) rfl rfl ⟨by decide, by decide⟩ (Nat.le_of_ble_eq_true rfl) ⟨rfl, rfl⟩ ⟨by decide, by decide⟩ ?_
      refine aE_iret dX11_comes_40 rfl ⟨by decide, by decide⟩ ?_
      first | exact hN h1 h19 | exact hO j hjn hr
    · skip
      obtain ⟨j, hj31, hr⟩ := nI_of (Int32.not_lt.mpr h1)
      have hjn : j < nm := by
        rcases Nat.lt_or_ge j nm with q | q
        · exact q
        · exact absurd (by rw [hm, hr]; exact nI_le q hj31) h19
      have hr10 : j < 10 := by omega
      refine aE_aload_n dX11_comes_22 rfl rfl ?_
      refine aE_getf (v := .ref 90) dX11_comes_23 fw_X11_40 (lt_nn (by decide)) rfl rfl ?_
      refine aE_getf (v := .ref 91) dX11_comes_26 fw_X11_285 (lt_nn (by decide)) rfl rfl ?_
      refine aE_iload_n dX11_comes_29 rfl rfl ?_
      refine aE_ildM dX11_comes_30 (lt_nn (by decide)) rfl (by decide) hr hr10 ?_
      refine aE_goto (tgt := 40) dX11_comes_31 (by decide) ?_
      refine aE_iret dX11_comes_40 rfl ⟨by decide, by decide⟩ ?_
      first | exact hN h1 h19 | exact hO j hjn hr
  · skip
    refine aE_aload_n dX11_comes_4 rfl rfl ?_
    refine aE_ldc dX11_comes_5 ct_X11_78 ?_
    refine aE_cVi dX11_comes_7 lk_X11_62 mv_X11_found (c_found _) rfl (lt_nn (by decide)) rfl rfl ⟨by decide, by decide⟩ (Nat.le_of_ble_eq_true rfl) ⟨rfl, rfl⟩ ⟨by decide, by decide⟩ ?_
    refine aE_iret dX11_comes_10 rfl ⟨by decide, by decide⟩ ?_
    exact hB (Int32.not_le.mp h1)

end CB3
