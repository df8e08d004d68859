/-- the stops' rows, from t up to e moved down by one -/
def gsI (I : Nat → Nat → Int32) (t e : Nat) : Nat → Nat → Int32 := fun q i => if (110 ≤ q ∧ q ≤ 113) ∧ t ≤ i ∧ i < e then I q (i + 1) else I q i
theorem gsI_0 (I : Nat → Nat → Int32) (t : Nat) : gsI I t t = I := by
  funext q i; unfold gsI; rw [if_neg (by omega)]
theorem gsI_hi {I : Nat → Nat → Int32} {t k q : Nat} : gsI I t k q (k + 1) = I q (k + 1) := by
  unfold gsI; rw [if_neg (by omega)]
theorem gsI_o {I : Nat → Nat → Int32} {t k q i : Nat} (h : q < 110 ∨ 113 < q) : gsI I t k q i = I q i := by
  unfold gsI; rw [if_neg (by omega)]
theorem gsI_s {I : Nat → Nat → Int32} {t k : Nat} (h : t ≤ k) : iu (iu (iu (iu (gsI I t k) 110 k (I 110 (k + 1))) 111 k (I 111 (k + 1))) 112 k (I 112 (k + 1))) 113 k (I 113 (k + 1)) = gsI I t (k + 1) := by
  funext q i
  unfold iu gsI
  by_cases h1 : i = k
  · subst h1
    by_cases a : q = 113
    · subst a; simp [h]
    by_cases b : q = 112
    · subst b; simp [h]
    by_cases c : q = 111
    · subst c; simp [h]
    by_cases d : q = 110
    · subst d; simp [h]
    simp [a, b, c, d, show ¬ (110 ≤ q ∧ q ≤ 113) by omega]
  · simp only [h1, and_false, if_false]
    by_cases a : (110 ≤ q ∧ q ≤ 113) ∧ t ≤ i ∧ i < k
    · rw [if_pos a, if_pos ⟨a.1, a.2.1, by omega⟩]
    · rw [if_neg a, if_neg (by omega)]
section MB2
variable {z : Nat × (Nat → Int32)} {n : Nat} {mem : aM} {I : Nat → Nat → Int32} {sp : Nat → Nat} {pl : Bool} {Q : Option Value → Nat → aM → Prop} {R : Room}
set_option maxRecDepth 20000 in
theorem m_of (v w : Int32) (ns nst : Nat) (hns : I 101 2 = nI ns) (hs4 : ns ≤ 4) (hn : I 101 3 = nI nst) (h10 : nst ≤ 10) (hB : wi v 0 (I 101 2 - 1) = 0 → qi Q (-1000001) (fndM I) sp pl) (h_0 : ∀ s, s < ns → v = nI s → w = 0 → qi Q (I 106 s) I sp pl) (h_1 : ∀ s, s < ns → v = nI s → w = 1 → qi Q (I 107 s) I sp pl) (h_2 : ∀ s, s < ns → v = nI s → w = 2 → qi Q (I 108 s) I sp pl) (h_3 : ∀ s, s < ns → v = nI s → w = 3 → qi Q (I 109 s) I sp pl) (h_4 : ∀ s, s < ns → v = nI s → w = 4 → qi Q (onesB (setOf (I 110) (nI s) nst) 10) I sp pl) (h_5 : ∀ s, s < ns → v = nI s → w = 5 → qi Q (sumB (setOf (I 110) (nI s) nst) (I 112) nst) I sp pl) (h_6 : ∀ s, s < ns → v = nI s → w = 6 → qi Q (if I 106 s = 3 then I 101 8 / 2 else I 101 8) I sp pl) (hD : ∀ s, s < ns → v = nI s → (w.toInt < 0 ∨ 6 < w.toInt) → qi Q (-1000001) (fndM I) sp pl) : aRuns mX12_of (rK 2) [.ref 101, .int v, .int w] (nn pl) (MM I sp pl) (Q) := by
  refine aRuns_of pn_X12_of (Nat.le_of_ble_eq_true rfl) (fun z => aE_loc (ls' := [_, _, _]) rfl ?_)
  refine aE_aload_n dX12_of_0 rfl rfl ?_
  refine aE_iload_n dX12_of_1 rfl rfl ?_
  refine aE_cVi dX12_of_2 lk_X12_198 mv_X12_isSchool (c_isSchool _) rfl (lt_nn (by decide)) rfl rfl ⟨by decide, by decide⟩ (Nat.le_of_ble_eq_true rfl) ⟨rfl, rfl⟩ ⟨by decide, by decide⟩ ?_
  refine aE_if_ne (tgt := 15) dX12_of_5 (by decide) (fun h5 => ?_) (fun h5 => ?_)
  · skip
    obtain ⟨s, hs, rfl⟩ := wi_ix (by omega) (hns ▸ h5)
    have h4 : s < 4 := by omega
    refine aE_iload_n dX12_of_15 rfl rfl ?_
    rcases a_sw7 w with hsw | hsw | hsw | hsw | hsw | hsw | hsw | hsw
    · skip
      refine aE_tableOut (tgt := 113) dX12_of_16 hsw (by decide) ?_
      refine aE_aload_n dX12_of_113 rfl rfl ?_
      refine aE_ldc dX12_of_114 ct_X12_185 ?_
      refine aE_cVi dX12_of_116 lk_X12_177 mv_X12_finds (c_finds _) rfl (lt_nn (by decide)) rfl rfl ⟨by decide, by decide⟩ (Nat.le_of_ble_eq_true rfl) ⟨rfl, rfl⟩ ⟨by decide, by decide⟩ ?_
      refine aE_iret dX12_of_119 rfl ⟨by decide, by decide⟩ ?_
      exact hD s hs rfl hsw
    · skip
      subst hsw
      refine aE_tableIn (off := 44) (tgt := 60) dX12_of_16 (by decide) (by decide) rfl (by decide) ?_
      refine aE_aload_n dX12_of_60 rfl rfl ?_
      refine aE_getf (v := .ref 106) dX12_of_61 fw_X12_30 (lt_nn (by decide)) rfl rfl ?_
      refine aE_iload_n dX12_of_64 rfl rfl ?_
      refine aE_ildM dX12_of_65 (lt_nn (by decide)) rfl (by decide) rfl h4 ?_
      refine aE_iret dX12_of_66 rfl ⟨by decide, by decide⟩ ?_
      exact h_0 s hs rfl rfl
    · skip
      subst hsw
      refine aE_tableIn (off := 51) (tgt := 67) dX12_of_16 (by decide) (by decide) rfl (by decide) ?_
      refine aE_aload_n dX12_of_67 rfl rfl ?_
      refine aE_getf (v := .ref 107) dX12_of_68 fw_X12_33 (lt_nn (by decide)) rfl rfl ?_
      refine aE_iload_n dX12_of_71 rfl rfl ?_
      refine aE_ildM dX12_of_72 (lt_nn (by decide)) rfl (by decide) rfl h4 ?_
      refine aE_iret dX12_of_73 rfl ⟨by decide, by decide⟩ ?_
      exact h_1 s hs rfl rfl
    · skip
      subst hsw
      refine aE_tableIn (off := 58) (tgt := 74) dX12_of_16 (by decide) (by decide) rfl (by decide) ?_
      refine aE_aload_n dX12_of_74 rfl rfl ?_
      refine aE_getf (v := .ref 108) dX12_of_75 fw_X12_36 (lt_nn (by decide)) rfl rfl ?_
      refine aE_iload_n dX12_of_78 rfl rfl ?_
      refine aE_ildM dX12_of_79 (lt_nn (by decide)) rfl (by decide) rfl h4 ?_
      refine aE_iret dX12_of_80 rfl ⟨by decide, by decide⟩ ?_
      exact h_2 s hs rfl rfl
    · skip
      subst hsw
      refine aE_tableIn (off := 65) (tgt := 81) dX12_of_16 (by decide) (by decide) rfl (by decide) ?_
      refine aE_aload_n dX12_of_81 rfl rfl ?_
      refine aE_getf (v := .ref 109) dX12_of_82 fw_X12_39 (lt_nn (by decide)) rfl rfl ?_
      refine aE_iload_n dX12_of_85 rfl rfl ?_
      refine aE_ildM dX12_of_86 (lt_nn (by decide)) rfl (by decide) rfl h4 ?_
      refine aE_iret dX12_of_87 rfl ⟨by decide, by decide⟩ ?_
      exact h_3 s hs rfl rfl
    · skip
      subst hsw
      refine aE_tableIn (off := 72) (tgt := 88) dX12_of_16 (by decide) (by decide) rfl (by decide) ?_
      refine aE_aload_n dX12_of_88 rfl rfl ?_
      refine aE_iload_n dX12_of_89 rfl rfl ?_
      refine aE_cVi dX12_of_90 lk_X12_209 mv_X12_stopsOf (m_stopsOf (nI s) nst hn h10) rfl (lt_nn (by decide)) rfl rfl ⟨by decide, by decide⟩ (Nat.le_of_ble_eq_true rfl) ⟨rfl, rfl⟩ ⟨by decide, by decide⟩ ?_
      refine aE_cSi dX12_of_93 lk_X12_212 ms_X12_ones (m_ones _ (Nat.lt_of_lt_of_le (setOf_lt _ _ _) (Nat.le_trans (pow10' h10) (by decide)))) rfl rfl ⟨by decide, by decide⟩ (Nat.le_of_ble_eq_true rfl) ⟨rfl, rfl⟩ ⟨by decide, by decide⟩ ?_
      refine aE_iret dX12_of_96 rfl ⟨by decide, by decide⟩ ?_
      exact h_4 s hs rfl rfl
    · skip
      subst hsw
      refine aE_tableIn (off := 81) (tgt := 97) dX12_of_16 (by decide) (by decide) rfl (by decide) ?_
      refine aE_aload_n dX12_of_97 rfl rfl ?_
      refine aE_aload_n dX12_of_98 rfl rfl ?_
      refine aE_iload_n dX12_of_99 rfl rfl ?_
      refine aE_cVi dX12_of_100 lk_X12_209 mv_X12_stopsOf (m_stopsOf (nI s) nst hn h10) rfl (lt_nn (by decide)) rfl rfl ⟨by decide, by decide⟩ (Nat.le_of_ble_eq_true rfl) ⟨rfl, rfl⟩ ⟨by decide, by decide⟩ ?_
      refine aE_cVi dX12_of_103 lk_X12_215 mv_X12_pupilsOf (m_pupilsOf _ nst (Nat.lt_of_lt_of_le (setOf_lt _ _ _) (Nat.le_trans (pow10' h10) (by decide))) hn h10) rfl (lt_nn (by decide)) rfl rfl ⟨by decide, by decide⟩ (Nat.le_of_ble_eq_true rfl) ⟨rfl, rfl⟩ ⟨by decide, by decide⟩ ?_
      refine aE_iret dX12_of_106 rfl ⟨by decide, by decide⟩ ?_
      exact h_5 s hs rfl rfl
    · skip
      subst hsw
      refine aE_tableIn (off := 91) (tgt := 107) dX12_of_16 (by decide) (by decide) rfl (by decide) ?_
      refine aE_aload_n dX12_of_107 rfl rfl ?_
      refine aE_iload_n dX12_of_108 rfl rfl ?_
      refine aE_cVi dX12_of_109 lk_X12_218 mv_X12_mayTake (m_mayTake s h4) rfl (lt_nn (by decide)) rfl rfl ⟨by decide, by decide⟩ (Nat.le_of_ble_eq_true rfl) ⟨rfl, rfl⟩ ⟨by decide, by decide⟩ ?_
      refine aE_iret dX12_of_112 rfl ⟨by decide, by decide⟩ ?_
      exact h_6 s hs rfl rfl
  · skip
    refine aE_aload_n dX12_of_8 rfl rfl ?_
    refine aE_ldc dX12_of_9 ct_X12_185 ?_
    refine aE_cVi dX12_of_11 lk_X12_177 mv_X12_finds (c_finds _) rfl (lt_nn (by decide)) rfl rfl ⟨by decide, by decide⟩ (Nat.le_of_ble_eq_true rfl) ⟨rfl, rfl⟩ ⟨by decide, by decide⟩ ?_
    refine aE_iret dX12_of_14 rfl ⟨by decide, by decide⟩ ?_
    exact hB h5

set_option maxRecDepth 20000 in
theorem m_bell (v b : Int32) (ns : Nat) (hns : I 101 2 = nI ns) (hs4 : ns ≤ 4) (hB : (wi v 0 (I 101 2 - 1) = 0 ∨ wi b 0 6 = 0) → qi Q (-1000001) (fndM I) sp pl) (hO : ∀ s, s < ns → v = nI s → ¬ wi b 0 6 = 0 → qi Q (I 108 s) (iu I 108 s b) sp pl) : aRuns mX12_bell (rK 2) [.ref 101, .int v, .int b] (nn pl) (MM I sp pl) (Q) := by
  refine aRuns_of pn_X12_bell (Nat.le_of_ble_eq_true rfl) (fun z => aE_loc (ls' := [_, _, _, _]) rfl ?_)
  refine aE_aload_n dX12_bell_0 rfl rfl ?_
  refine aE_iload_n dX12_bell_1 rfl rfl ?_
  refine aE_cVi dX12_bell_2 lk_X12_198 mv_X12_isSchool (c_isSchool _) rfl (lt_nn (by decide)) rfl rfl ⟨by decide, by decide⟩ (Nat.le_of_ble_eq_true rfl) ⟨rfl, rfl⟩ ⟨by decide, by decide⟩ ?_
  refine aE_if_eq (tgt := 18) dX12_bell_5 (by decide) (fun h5 => ?_) (fun h5 => ?_)
  · skip
    refine aE_aload_n dX12_bell_18 rfl rfl ?_
    refine aE_ldc dX12_bell_19 ct_X12_185 ?_
    refine aE_cVi dX12_bell_21 lk_X12_177 mv_X12_finds (c_finds _) rfl (lt_nn (by decide)) rfl rfl ⟨by decide, by decide⟩ (Nat.le_of_ble_eq_true rfl) ⟨rfl, rfl⟩ ⟨by decide, by decide⟩ ?_
    refine aE_iret dX12_bell_24 rfl ⟨by decide, by decide⟩ ?_
    refine hB ?_
    first | exact Or.inl ‹_› | exact Or.inr ‹_›
  · skip
    refine aE_iload_n dX12_bell_8 rfl rfl ?_
    refine aE_iconst (v := 0) dX12_bell_9 rfl ?_
    refine aE_bipush (v := 6) dX12_bell_10 (by decide) ?_
    refine aE_cSi dX12_bell_12 lk_X12_159 ms_X12_in (c_in _ _ _) rfl rfl ⟨by decide, by decide⟩ (Nat.le_of_ble_eq_true rfl) ⟨rfl, rfl⟩ ⟨by decide, by decide⟩ ?_
    refine aE_if_ne (tgt := 25) dX12_bell_15 (by decide) (fun h15 => ?_) (fun h15 => ?_)
    · skip
      obtain ⟨s, hs, rfl⟩ := wi_ix (by omega) (hns ▸ h5)
      have h4 : s < 4 := by omega
      refine aE_aload_n dX12_bell_25 rfl rfl ?_
      refine aE_getf (v := .ref 108) dX12_bell_26 fw_X12_36 (lt_nn (by decide)) rfl rfl ?_
      refine aE_iload_n dX12_bell_29 rfl rfl ?_
      refine aE_ildM dX12_bell_30 (lt_nn (by decide)) rfl (by decide) rfl h4 ?_
      refine aE_istore_n dX12_bell_31 rfl (by decide) rfl (aE_loc (ls' := [_, _, _, _]) rfl ?_)
      refine aE_aload_n dX12_bell_32 rfl rfl ?_
      refine aE_getf (v := .ref 108) dX12_bell_33 fw_X12_36 (lt_nn (by decide)) rfl rfl ?_
      refine aE_iload_n dX12_bell_36 rfl rfl ?_
      refine aE_iload_n dX12_bell_37 rfl rfl ?_
      refine aE_istM dX12_bell_38 (lt_nn (by decide)) rfl (by decide) rfl h4 ?_
      refine aE_iload_n dX12_bell_39 rfl rfl ?_
      refine aE_iret dX12_bell_40 rfl ⟨by decide, by decide⟩ ?_
      exact hO s hs rfl h15
    · skip
      refine aE_aload_n dX12_bell_18 rfl rfl ?_
      refine aE_ldc dX12_bell_19 ct_X12_185 ?_
      refine aE_cVi dX12_bell_21 lk_X12_177 mv_X12_finds (c_finds _) rfl (lt_nn (by decide)) rfl rfl ⟨by decide, by decide⟩ (Nat.le_of_ble_eq_true rfl) ⟨rfl, rfl⟩ ⟨by decide, by decide⟩ ?_
      refine aE_iret dX12_bell_24 rfl ⟨by decide, by decide⟩ ?_
      refine hB ?_
      first | exact Or.inl ‹_› | exact Or.inr ‹_›

set_option maxRecDepth 20000 in
theorem m_wish (v b : Int32) (ns : Nat) (hns : I 101 2 = nI ns) (hs4 : ns ≤ 4) (hB : (wi v 0 (I 101 2 - 1) = 0 ∨ wi b 0 6 = 0) → qi Q (-1000001) (fndM I) sp pl) (hO : ∀ s, s < ns → v = nI s → ¬ wi b 0 6 = 0 → qi Q (I 109 s) (ano (iu I 109 s b)) sp pl) : aRuns mX12_wish (rK 2) [.ref 101, .int v, .int b] (nn pl) (MM I sp pl) (Q) := by
  refine aRuns_of pn_X12_wish (Nat.le_of_ble_eq_true rfl) (fun z => aE_loc (ls' := [_, _, _, _]) rfl ?_)
  refine aE_aload_n dX12_wish_0 rfl rfl ?_
  refine aE_iload_n dX12_wish_1 rfl rfl ?_
  refine aE_cVi dX12_wish_2 lk_X12_198 mv_X12_isSchool (c_isSchool _) rfl (lt_nn (by decide)) rfl rfl ⟨by decide, by decide⟩ (Nat.le_of_ble_eq_true rfl) ⟨rfl, rfl⟩ ⟨by decide, by decide⟩ ?_
  refine aE_if_eq (tgt := 18) dX12_wish_5 (by decide) (fun h5 => ?_) (fun h5 => ?_)
  · skip
    refine aE_aload_n dX12_wish_18 rfl rfl ?_
    refine aE_ldc dX12_wish_19 ct_X12_185 ?_
    refine aE_cVi dX12_wish_21 lk_X12_177 mv_X12_finds (c_finds _) rfl (lt_nn (by decide)) rfl rfl ⟨by decide, by decide⟩ (Nat.le_of_ble_eq_true rfl) ⟨rfl, rfl⟩ ⟨by decide, by decide⟩ ?_
    refine aE_iret dX12_wish_24 rfl ⟨by decide, by decide⟩ ?_
    refine hB ?_
    first | exact Or.inl ‹_› | exact Or.inr ‹_›
  · skip
    refine aE_iload_n dX12_wish_8 rfl rfl ?_
    refine aE_iconst (v := 0) dX12_wish_9 rfl ?_
    refine aE_bipush (v := 6) dX12_wish_10 (by decide) ?_
    refine aE_cSi dX12_wish_12 lk_X12_159 ms_X12_in (c_in _ _ _) rfl rfl ⟨by decide, by decide⟩ (Nat.le_of_ble_eq_true rfl) ⟨rfl, rfl⟩ ⟨by decide, by decide⟩ ?_
    refine aE_if_ne (tgt := 25) dX12_wish_15 (by decide) (fun h15 => ?_) (fun h15 => ?_)
    · skip
      obtain ⟨s, hs, rfl⟩ := wi_ix (by omega) (hns ▸ h5)
      have h4 : s < 4 := by omega
      refine aE_aload_n dX12_wish_25 rfl rfl ?_
      refine aE_getf (v := .ref 109) dX12_wish_26 fw_X12_39 (lt_nn (by decide)) rfl rfl ?_
      refine aE_iload_n dX12_wish_29 rfl rfl ?_
      refine aE_ildM dX12_wish_30 (lt_nn (by decide)) rfl (by decide) rfl h4 ?_
      refine aE_istore_n dX12_wish_31 rfl (by decide) rfl (aE_loc (ls' := [_, _, _, _]) rfl ?_)
      refine aE_aload_n dX12_wish_32 rfl rfl ?_
      refine aE_getf (v := .ref 109) dX12_wish_33 fw_X12_39 (lt_nn (by decide)) rfl rfl ?_
      refine aE_iload_n dX12_wish_36 rfl rfl ?_
      refine aE_iload_n dX12_wish_37 rfl rfl ?_
      refine aE_istM dX12_wish_38 (lt_nn (by decide)) rfl (by decide) rfl h4 ?_
      refine aE_aload_n dX12_wish_39 rfl rfl ?_
      refine aE_cVv dX12_wish_40 lk_X12_189 mv_X12_another (c_another ) rfl (lt_nn (by decide)) rfl rfl ⟨by decide, by decide⟩ (Nat.le_of_ble_eq_true rfl) ⟨rfl, rfl⟩ ⟨by decide, by decide⟩ ?_
      refine aE_iload_n dX12_wish_43 rfl rfl ?_
      refine aE_iret dX12_wish_44 rfl ⟨by decide, by decide⟩ ?_
      exact hO s hs rfl h15
    · skip
      refine aE_aload_n dX12_wish_18 rfl rfl ?_
      refine aE_ldc dX12_wish_19 ct_X12_185 ?_
      refine aE_cVi dX12_wish_21 lk_X12_177 mv_X12_finds (c_finds _) rfl (lt_nn (by decide)) rfl rfl ⟨by decide, by decide⟩ (Nat.le_of_ble_eq_true rfl) ⟨rfl, rfl⟩ ⟨by decide, by decide⟩ ?_
      refine aE_iret dX12_wish_24 rfl ⟨by decide, by decide⟩ ?_
      refine hB ?_
      first | exact Or.inl ‹_› | exact Or.inr ‹_›

set_option maxRecDepth 20000 in
theorem m_stop (a b c d : Int32) (t : Nat) (ht : I 101 3 = nI t) (htt : t ≤ 10) (hB : (wi a 0 (I 101 2 - 1) = 0 ∨ wi b 0 (I 101 0 - 1) = 0 ∨ wi c 1 30 = 0 ∨ wi d 0 3 = 0) → qi Q (-1000001) (fndM I) sp pl) (hF : (¬ wi a 0 (I 101 2 - 1) = 0 ∧ ¬ wi b 0 (I 101 0 - 1) = 0 ∧ ¬ wi c 1 30 = 0 ∧ ¬ wi d 0 3 = 0) → I 101 3 = 10 → qi Q (-1000002) (fndM I) sp pl) (hO : (¬ wi a 0 (I 101 2 - 1) = 0 ∧ ¬ wi b 0 (I 101 0 - 1) = 0 ∧ ¬ wi c 1 30 = 0 ∧ ¬ wi d 0 3 = 0) → t < 10 → qi Q (nI t + 1 - 1) (ano (iu (iu (iu (iu (iu I 110 t a) 111 t b) 112 t c) 113 t d) 101 3 (nI t + 1))) sp pl) : aRuns mX12_stop (rK 2) [.ref 101, .int a, .int b, .int c, .int d] (nn pl) (MM I sp pl) (Q) := by
  refine aRuns_of pn_X12_stop (Nat.le_of_ble_eq_true rfl) (fun z => aE_loc (ls' := [_, _, _, _, _]) rfl ?_)
  refine aE_aload_n dX12_stop_0 rfl rfl ?_
  refine aE_iload_n dX12_stop_1 rfl rfl ?_
  refine aE_cVi dX12_stop_2 lk_X12_198 mv_X12_isSchool (c_isSchool _) rfl (lt_nn (by decide)) rfl rfl ⟨by decide, by decide⟩ (Nat.le_of_ble_eq_true rfl) ⟨rfl, rfl⟩ ⟨by decide, by decide⟩ ?_
  refine aE_if_eq (tgt := 36) dX12_stop_5 (by decide) (fun h5 => ?_) (fun h5 => ?_)
  · skip
    refine aE_aload_n dX12_stop_36 rfl rfl ?_
    refine aE_ldc dX12_stop_37 ct_X12_185 ?_
    refine aE_cVi dX12_stop_39 lk_X12_177 mv_X12_finds (c_finds _) rfl (lt_nn (by decide)) rfl rfl ⟨by decide, by decide⟩ (Nat.le_of_ble_eq_true rfl) ⟨rfl, rfl⟩ ⟨by decide, by decide⟩ ?_
    refine aE_iret dX12_stop_42 rfl ⟨by decide, by decide⟩ ?_
    refine hB ?_
    first | exact Or.inl ‹_› | exact Or.inr (Or.inl ‹_›) | exact Or.inr (Or.inr (Or.inl ‹_›)) | exact Or.inr (Or.inr (Or.inr ‹_›))
  · skip
    refine aE_aload_n dX12_stop_8 rfl rfl ?_
    refine aE_iload_n dX12_stop_9 rfl rfl ?_
    refine aE_cVi dX12_stop_10 lk_X12_181 mv_X12_isCorner (c_isCorner _) rfl (lt_nn (by decide)) rfl rfl ⟨by decide, by decide⟩ (Nat.le_of_ble_eq_true rfl) ⟨rfl, rfl⟩ ⟨by decide, by decide⟩ ?_
    refine aE_if_eq (tgt := 36) dX12_stop_13 (by decide) (fun h13 => ?_) (fun h13 => ?_)
    · skip
      refine aE_aload_n dX12_stop_36 rfl rfl ?_
      refine aE_ldc dX12_stop_37 ct_X12_185 ?_
      refine aE_cVi dX12_stop_39 lk_X12_177 mv_X12_finds (c_finds _) rfl (lt_nn (by decide)) rfl rfl ⟨by decide, by decide⟩ (Nat.le_of_ble_eq_true rfl) ⟨rfl, rfl⟩ ⟨by decide, by decide⟩ ?_
      refine aE_iret dX12_stop_42 rfl ⟨by decide, by decide⟩ ?_
      refine hB ?_
      first | exact Or.inl ‹_› | exact Or.inr (Or.inl ‹_›) | exact Or.inr (Or.inr (Or.inl ‹_›)) | exact Or.inr (Or.inr (Or.inr ‹_›))
    · skip
      refine aE_iload_n dX12_stop_16 rfl rfl ?_
      refine aE_iconst (v := 1) dX12_stop_17 rfl ?_
      refine aE_bipush (v := 30) dX12_stop_18 (by decide) ?_
      refine aE_cSi dX12_stop_20 lk_X12_159 ms_X12_in (c_in _ _ _) rfl rfl ⟨by decide, by decide⟩ (Nat.le_of_ble_eq_true rfl) ⟨rfl, rfl⟩ ⟨by decide, by decide⟩ ?_
      refine aE_if_eq (tgt := 36) dX12_stop_23 (by decide) (fun h23 => ?_) (fun h23 => ?_)
      · skip
        refine aE_aload_n dX12_stop_36 rfl rfl ?_
        refine aE_ldc dX12_stop_37 ct_X12_185 ?_
        refine aE_cVi dX12_stop_39 lk_X12_177 mv_X12_finds (c_finds _) rfl (lt_nn (by decide)) rfl rfl ⟨by decide, by decide⟩ (Nat.le_of_ble_eq_true rfl) ⟨rfl, rfl⟩ ⟨by decide, by decide⟩ ?_
        refine aE_iret dX12_stop_42 rfl ⟨by decide, by decide⟩ ?_
        refine hB ?_
        first | exact Or.inl ‹_› | exact Or.inr (Or.inl ‹_›) | exact Or.inr (Or.inr (Or.inl ‹_›)) | exact Or.inr (Or.inr (Or.inr ‹_›))
      · skip
        refine aE_iload dX12_stop_26 rfl ?_
        refine aE_iconst (v := 0) dX12_stop_28 rfl ?_
        refine aE_iconst (v := 3) dX12_stop_29 rfl ?_
        refine aE_cSi dX12_stop_30 lk_X12_159 ms_X12_in (c_in _ _ _) rfl rfl ⟨by decide, by decide⟩ (Nat.le_of_ble_eq_true rfl) ⟨rfl, rfl⟩ ⟨by decide, by decide⟩ ?_
        refine aE_if_ne (tgt := 43) dX12_stop_33 (by decide) (fun h33 => ?_) (fun h33 => ?_)
        · skip
          refine aE_aload_n dX12_stop_43 rfl rfl ?_
          refine aE_geti dX12_stop_44 fw_X12_166 (lt_nn (by decide)) rfl (by decide) rfl ?_
          refine aE_bipush (v := 10) dX12_stop_47 (by decide) ?_
          refine aE_icmp_ne (tgt := 59) dX12_stop_49 (by decide) (fun h49 => ?_) (fun h49 => ?_)
          · skip
            have h10 : t < 10 := by
              rcases Nat.lt_or_ge t 10 with q | q
              · exact q
              · exact absurd (by rw [ht, show t = 10 by omega]; rfl) h49
            refine aE_aload_n dX12_stop_59 rfl rfl ?_
            refine aE_getf (v := .ref 110) dX12_stop_60 fw_X12_42 (lt_nn (by decide)) rfl rfl ?_
            refine aE_aload_n dX12_stop_63 rfl rfl ?_
            refine aE_geti dX12_stop_64 fw_X12_166 (lt_nn (by decide)) rfl (by decide) rfl ?_
            refine aE_iload_n dX12_stop_67 rfl rfl ?_
            refine aE_istM dX12_stop_68 (lt_nn (by decide)) rfl (by decide) ht h10 ?_
            refine aE_aload_n dX12_stop_69 rfl rfl ?_
            refine aE_getf (v := .ref 111) dX12_stop_70 fw_X12_45 (lt_nn (by decide)) rfl rfl ?_
            refine aE_aload_n dX12_stop_73 rfl rfl ?_
            refine aE_geti dX12_stop_74 fw_X12_166 (lt_nn (by decide)) rfl (by decide) rfl ?_
            refine aE_iload_n dX12_stop_77 rfl rfl ?_
            refine aE_istM dX12_stop_78 (lt_nn (by decide)) rfl (by decide) ht h10 ?_
            refine aE_aload_n dX12_stop_79 rfl rfl ?_
            refine aE_getf (v := .ref 112) dX12_stop_80 fw_X12_48 (lt_nn (by decide)) rfl rfl ?_
            refine aE_aload_n dX12_stop_83 rfl rfl ?_
            refine aE_geti dX12_stop_84 fw_X12_166 (lt_nn (by decide)) rfl (by decide) rfl ?_
            refine aE_iload_n dX12_stop_87 rfl rfl ?_
            refine aE_istM dX12_stop_88 (lt_nn (by decide)) rfl (by decide) ht h10 ?_
            refine aE_aload_n dX12_stop_89 rfl rfl ?_
            refine aE_getf (v := .ref 113) dX12_stop_90 fw_X12_51 (lt_nn (by decide)) rfl rfl ?_
            refine aE_aload_n dX12_stop_93 rfl rfl ?_
            refine aE_geti dX12_stop_94 fw_X12_166 (lt_nn (by decide)) rfl (by decide) rfl ?_
            refine aE_iload dX12_stop_97 rfl ?_
            refine aE_istM dX12_stop_99 (lt_nn (by decide)) rfl (by decide) ht h10 ?_
            refine aE_aload_n dX12_stop_100 rfl rfl ?_
            refine aE_dup dX12_stop_101 rfl ?_
            refine aE_geti dX12_stop_102 fw_X12_166 (lt_nn (by decide)) rfl (by decide) rfl ?_
            refine aE_top (x' := nI t) ht ?_
            refine aE_iconst (v := 1) dX12_stop_105 rfl ?_
            refine aE_iadd dX12_stop_106 ?_
            refine aE_puti dX12_stop_107 fp_X12_166 (Or.inl rfl) (lt_nn (by decide)) rfl (fun _ => ⟨rfl, rfl⟩) (by decide) rfl ?_
            refine aE_aload_n dX12_stop_110 rfl rfl ?_
            refine aE_cVv dX12_stop_111 lk_X12_189 mv_X12_another (c_another ) rfl (lt_nn (by decide)) rfl rfl ⟨by decide, by decide⟩ (Nat.le_of_ble_eq_true rfl) ⟨rfl, rfl⟩ ⟨by decide, by decide⟩ ?_
            refine aE_aload_n dX12_stop_114 rfl rfl ?_
            refine aE_geti dX12_stop_115 fw_X12_166 (lt_nn (by decide)) rfl (by decide) rfl ?_
            refine aE_iconst (v := 1) dX12_stop_118 rfl ?_
            refine aE_isub dX12_stop_119 ?_
            refine aE_iret dX12_stop_120 rfl ⟨by decide, by decide⟩ ?_
            exact hO ⟨h5, h13, h23, h33⟩ h10
          · skip
            refine aE_aload_n dX12_stop_52 rfl rfl ?_
            refine aE_ldc dX12_stop_53 ct_X12_176 ?_
            refine aE_cVi dX12_stop_55 lk_X12_177 mv_X12_finds (c_finds _) rfl (lt_nn (by decide)) rfl rfl ⟨by decide, by decide⟩ (Nat.le_of_ble_eq_true rfl) ⟨rfl, rfl⟩ ⟨by decide, by decide⟩ ?_
            refine aE_iret dX12_stop_58 rfl ⟨by decide, by decide⟩ ?_
            exact hF ⟨h5, h13, h23, h33⟩ h49
        · skip
          refine aE_aload_n dX12_stop_36 rfl rfl ?_
          refine aE_ldc dX12_stop_37 ct_X12_185 ?_
          refine aE_cVi dX12_stop_39 lk_X12_177 mv_X12_finds (c_finds _) rfl (lt_nn (by decide)) rfl rfl ⟨by decide, by decide⟩ (Nat.le_of_ble_eq_true rfl) ⟨rfl, rfl⟩ ⟨by decide, by decide⟩ ?_
          refine aE_iret dX12_stop_42 rfl ⟨by decide, by decide⟩ ?_
          refine hB ?_
          first | exact Or.inl ‹_› | exact Or.inr (Or.inl ‹_›) | exact Or.inr (Or.inr (Or.inl ‹_›)) | exact Or.inr (Or.inr (Or.inr ‹_›))

set_option maxRecDepth 20000 in
theorem m_pupils (v c : Int32) (nst : Nat) (hn : I 101 3 = nI nst) (h10 : nst ≤ 10) (hB : (wi v 0 (I 101 3 - 1) = 0 ∨ wi c 1 30 = 0) → qi Q (-1000001) (fndM I) sp pl) (hO : ∀ t, t < nst → v = nI t → ¬ wi c 1 30 = 0 → qi Q (I 112 t) (ano (iu I 112 t c)) sp pl) : aRuns mX12_pupils (rK 2) [.ref 101, .int v, .int c] (nn pl) (MM I sp pl) (Q) := by
  refine aRuns_of pn_X12_pupils (Nat.le_of_ble_eq_true rfl) (fun z => aE_loc (ls' := [_, _, _, _]) rfl ?_)
  refine aE_aload_n dX12_pupils_0 rfl rfl ?_
  refine aE_iload_n dX12_pupils_1 rfl rfl ?_
  refine aE_cVi dX12_pupils_2 lk_X12_221 mv_X12_isStop (c_isStop _) rfl (lt_nn (by decide)) rfl rfl ⟨by decide, by decide⟩ (Nat.le_of_ble_eq_true rfl) ⟨rfl, rfl⟩ ⟨by decide, by decide⟩ ?_
  refine aE_if_eq (tgt := 18) dX12_pupils_5 (by decide) (fun h5 => ?_) (fun h5 => ?_)
  · skip
    refine aE_aload_n dX12_pupils_18 rfl rfl ?_
    refine aE_ldc dX12_pupils_19 ct_X12_185 ?_
    refine aE_cVi dX12_pupils_21 lk_X12_177 mv_X12_finds (c_finds _) rfl (lt_nn (by decide)) rfl rfl ⟨by decide, by decide⟩ (Nat.le_of_ble_eq_true rfl) ⟨rfl, rfl⟩ ⟨by decide, by decide⟩ ?_
    refine aE_iret dX12_pupils_24 rfl ⟨by decide, by decide⟩ ?_
    refine hB ?_
    first | exact Or.inl ‹_› | exact Or.inr ‹_›
  · skip
    refine aE_iload_n dX12_pupils_8 rfl rfl ?_
    refine aE_iconst (v := 1) dX12_pupils_9 rfl ?_
    refine aE_bipush (v := 30) dX12_pupils_10 (by decide) ?_
    refine aE_cSi dX12_pupils_12 lk_X12_159 ms_X12_in (c_in _ _ _) rfl rfl ⟨by decide, by decide⟩ (Nat.le_of_ble_eq_true rfl) ⟨rfl, rfl⟩ ⟨by decide, by decide⟩ ?_
    refine aE_if_ne (tgt := 25) dX12_pupils_15 (by decide) (fun h15 => ?_) (fun h15 => ?_)
    · skip
      obtain ⟨t, ht, rfl⟩ := wi_ix (by omega) (hn ▸ h5)
      refine aE_aload_n dX12_pupils_25 rfl rfl ?_
      refine aE_getf (v := .ref 112) dX12_pupils_26 fw_X12_48 (lt_nn (by decide)) rfl rfl ?_
      refine aE_iload_n dX12_pupils_29 rfl rfl ?_
      refine aE_ildM dX12_pupils_30 (lt_nn (by decide)) rfl (by decide) rfl (by omega) ?_
      refine aE_istore_n dX12_pupils_31 rfl (by decide) rfl (aE_loc (ls' := [_, _, _, _]) rfl ?_)
      refine aE_aload_n dX12_pupils_32 rfl rfl ?_
      refine aE_getf (v := .ref 112) dX12_pupils_33 fw_X12_48 (lt_nn (by decide)) rfl rfl ?_
      refine aE_iload_n dX12_pupils_36 rfl rfl ?_
      refine aE_iload_n dX12_pupils_37 rfl rfl ?_
      refine aE_istM dX12_pupils_38 (lt_nn (by decide)) rfl (by decide) rfl (by omega) ?_
      refine aE_aload_n dX12_pupils_39 rfl rfl ?_
      refine aE_cVv dX12_pupils_40 lk_X12_189 mv_X12_another (c_another ) rfl (lt_nn (by decide)) rfl rfl ⟨by decide, by decide⟩ (Nat.le_of_ble_eq_true rfl) ⟨rfl, rfl⟩ ⟨by decide, by decide⟩ ?_
      refine aE_iload_n dX12_pupils_43 rfl rfl ?_
      refine aE_iret dX12_pupils_44 rfl ⟨by decide, by decide⟩ ?_
      exact hO t ht rfl h15
    · skip
      refine aE_aload_n dX12_pupils_18 rfl rfl ?_
      refine aE_ldc dX12_pupils_19 ct_X12_185 ?_
      refine aE_cVi dX12_pupils_21 lk_X12_177 mv_X12_finds (c_finds _) rfl (lt_nn (by decide)) rfl rfl ⟨by decide, by decide⟩ (Nat.le_of_ble_eq_true rfl) ⟨rfl, rfl⟩ ⟨by decide, by decide⟩ ?_
      refine aE_iret dX12_pupils_24 rfl ⟨by decide, by decide⟩ ?_
      refine hB ?_
      first | exact Or.inl ‹_› | exact Or.inr ‹_›

set_option maxRecDepth 20000 in
theorem m_terms (a b c : Int32) (hB : (wi a 1 60 = 0 ∨ wi b 1 90 = 0 ∨ wi c 0 30 = 0) → qi Q (-1000001) (fndM I) sp pl) (hO : (¬ wi a 1 60 = 0 ∧ ¬ wi b 1 90 = 0 ∧ ¬ wi c 0 30 = 0) → qi Q 1 (ano (iu (iu (iu I 101 7 a) 101 8 b) 101 9 c)) sp pl) : aRuns mX12_terms (rK 1) [.ref 101, .int a, .int b, .int c] (nn pl) (MM I sp pl) (Q) := by
  refine aRuns_of pn_X12_terms (Nat.le_of_ble_eq_true rfl) (fun z => aE_loc (ls' := [_, _, _, _]) rfl ?_)
  refine aE_iload_n dX12_terms_0 rfl rfl ?_
  refine aE_iconst (v := 1) dX12_terms_1 rfl ?_
  refine aE_bipush (v := 60) dX12_terms_2 (by decide) ?_
  refine aE_cSi dX12_terms_4 lk_X12_159 ms_X12_in (c_in _ _ _) rfl rfl ⟨by decide, by decide⟩ (Nat.le_of_ble_eq_true rfl) ⟨rfl, rfl⟩ ⟨by decide, by decide⟩ ?_
  refine aE_if_eq (tgt := 30) dX12_terms_7 (by decide) (fun h7 => ?_) (fun h7 => ?_)
  · skip
    refine aE_aload_n dX12_terms_30 rfl rfl ?_
    refine aE_ldc dX12_terms_31 ct_X12_185 ?_
    refine aE_cVi dX12_terms_33 lk_X12_177 mv_X12_finds (c_finds _) rfl (lt_nn (by decide)) rfl rfl ⟨by decide, by decide⟩ (Nat.le_of_ble_eq_true rfl) ⟨rfl, rfl⟩ ⟨by decide, by decide⟩ ?_
    refine aE_iret dX12_terms_36 rfl ⟨by decide, by decide⟩ ?_
    refine hB ?_
    first | exact Or.inl ‹_› | exact Or.inr (Or.inl ‹_›) | exact Or.inr (Or.inr ‹_›)
  · skip
    refine aE_iload_n dX12_terms_10 rfl rfl ?_
    refine aE_iconst (v := 1) dX12_terms_11 rfl ?_
    refine aE_bipush (v := 90) dX12_terms_12 (by decide) ?_
    refine aE_cSi dX12_terms_14 lk_X12_159 ms_X12_in (c_in _ _ _) rfl rfl ⟨by decide, by decide⟩ (Nat.le_of_ble_eq_true rfl) ⟨rfl, rfl⟩ ⟨by decide, by decide⟩ ?_
    refine aE_if_eq (tgt := 30) dX12_terms_17 (by decide) (fun h17 => ?_) (fun h17 => ?_)
    · skip
      refine aE_aload_n dX12_terms_30 rfl rfl ?_
      refine aE_ldc dX12_terms_31 ct_X12_185 ?_
      refine aE_cVi dX12_terms_33 lk_X12_177 mv_X12_finds (c_finds _) rfl (lt_nn (by decide)) rfl rfl ⟨by decide, by decide⟩ (Nat.le_of_ble_eq_true rfl) ⟨rfl, rfl⟩ ⟨by decide, by decide⟩ ?_
      refine aE_iret dX12_terms_36 rfl ⟨by decide, by decide⟩ ?_
      refine hB ?_
      first | exact Or.inl ‹_› | exact Or.inr (Or.inl ‹_›) | exact Or.inr (Or.inr ‹_›)
    · skip
      refine aE_iload_n dX12_terms_20 rfl rfl ?_
      refine aE_iconst (v := 0) dX12_terms_21 rfl ?_
      refine aE_bipush (v := 30) dX12_terms_22 (by decide) ?_
      refine aE_cSi dX12_terms_24 lk_X12_159 ms_X12_in (c_in _ _ _) rfl rfl ⟨by decide, by decide⟩ (Nat.le_of_ble_eq_true rfl) ⟨rfl, rfl⟩ ⟨by decide, by decide⟩ ?_
      refine aE_if_ne (tgt := 37) dX12_terms_27 (by decide) (fun h27 => ?_) (fun h27 => ?_)
      · skip
        refine aE_aload_n dX12_terms_37 rfl rfl ?_
        refine aE_iload_n dX12_terms_38 rfl rfl ?_
        refine aE_puti dX12_terms_39 fp_X12_7 (Or.inl rfl) (lt_nn (by decide)) rfl (fun _ => ⟨rfl, rfl⟩) (by decide) rfl ?_
        refine aE_aload_n dX12_terms_42 rfl rfl ?_
        refine aE_iload_n dX12_terms_43 rfl rfl ?_
        refine aE_puti dX12_terms_44 fp_X12_13 (Or.inl rfl) (lt_nn (by decide)) rfl (fun _ => ⟨rfl, rfl⟩) (by decide) rfl ?_
        refine aE_aload_n dX12_terms_47 rfl rfl ?_
        refine aE_iload_n dX12_terms_48 rfl rfl ?_
        refine aE_puti dX12_terms_49 fp_X12_224 (Or.inl rfl) (lt_nn (by decide)) rfl (fun _ => ⟨rfl, rfl⟩) (by decide) rfl ?_
        refine aE_aload_n dX12_terms_52 rfl rfl ?_
        refine aE_cVv dX12_terms_53 lk_X12_189 mv_X12_another (c_another ) rfl (lt_nn (by decide)) rfl rfl ⟨by decide, by decide⟩ (Nat.le_of_ble_eq_true rfl) ⟨rfl, rfl⟩ ⟨by decide, by decide⟩ ?_
        refine aE_iconst (v := 1) dX12_terms_56 rfl ?_
        refine aE_iret dX12_terms_57 rfl ⟨by decide, by decide⟩ ?_
        exact hO ⟨h7, h17, h27⟩
      · skip
        refine aE_aload_n dX12_terms_30 rfl rfl ?_
        refine aE_ldc dX12_terms_31 ct_X12_185 ?_
        refine aE_cVi dX12_terms_33 lk_X12_177 mv_X12_finds (c_finds _) rfl (lt_nn (by decide)) rfl rfl ⟨by decide, by decide⟩ (Nat.le_of_ble_eq_true rfl) ⟨rfl, rfl⟩ ⟨by decide, by decide⟩ ?_
        refine aE_iret dX12_terms_36 rfl ⟨by decide, by decide⟩ ?_
        refine hB ?_
        first | exact Or.inl ‹_› | exact Or.inr (Or.inl ‹_›) | exact Or.inr (Or.inr ‹_›)

set_option maxRecDepth 20000 in
theorem m_told (w : Int32) (h_0 : w = 0 → qi Q (I 101 0) I sp pl) (h_1 : w = 1 → qi Q (I 101 1) I sp pl) (h_2 : w = 2 → qi Q (I 101 2) I sp pl) (h_3 : w = 3 → qi Q (I 101 3) I sp pl) (h_4 : w = 4 → qi Q (I 101 4) I sp pl) (h_5 : w = 5 → qi Q (I 101 5) I sp pl) (h_6 : w = 6 → qi Q (I 101 6) I sp pl) (hD : (w.toInt < 0 ∨ 6 < w.toInt) → qi Q (-1000001) (fndM I) sp pl) : aRuns mX12_told (rK 1) [.ref 101, .int w] (nn pl) (MM I sp pl) (Q) := by
  refine aRuns_of pn_X12_told (Nat.le_of_ble_eq_true rfl) (fun z => aE_loc (ls' := [_, _]) rfl ?_)
  refine aE_iload_n dX12_told_0 rfl rfl ?_
  rcases a_sw7 w with hsw | hsw | hsw | hsw | hsw | hsw | hsw | hsw
  · skip
    refine aE_tableOut (tgt := 79) dX12_told_1 hsw (by decide) ?_
    refine aE_aload_n dX12_told_79 rfl rfl ?_
    refine aE_ldc dX12_told_80 ct_X12_185 ?_
    refine aE_cVi dX12_told_82 lk_X12_177 mv_X12_finds (c_finds _) rfl (lt_nn (by decide)) rfl rfl ⟨by decide, by decide⟩ (Nat.le_of_ble_eq_true rfl) ⟨rfl, rfl⟩ ⟨by decide, by decide⟩ ?_
    refine aE_iret dX12_told_85 rfl ⟨by decide, by decide⟩ ?_
    exact hD hsw
  · skip
    subst hsw
    refine aE_tableIn (off := 43) (tgt := 44) dX12_told_1 (by decide) (by decide) rfl (by decide) ?_
    refine aE_aload_n dX12_told_44 rfl rfl ?_
    refine aE_geti dX12_told_45 fw_X12_156 (lt_nn (by decide)) rfl (by decide) rfl ?_
    refine aE_iret dX12_told_48 rfl ⟨by decide, by decide⟩ ?_
    exact h_0 rfl
  · skip
    subst hsw
    refine aE_tableIn (off := 48) (tgt := 49) dX12_told_1 (by decide) (by decide) rfl (by decide) ?_
    refine aE_aload_n dX12_told_49 rfl rfl ?_
    refine aE_geti dX12_told_50 fw_X12_186 (lt_nn (by decide)) rfl (by decide) rfl ?_
    refine aE_iret dX12_told_53 rfl ⟨by decide, by decide⟩ ?_
    exact h_1 rfl
  · skip
    subst hsw
    refine aE_tableIn (off := 53) (tgt := 54) dX12_told_1 (by decide) (by decide) rfl (by decide) ?_
    refine aE_aload_n dX12_told_54 rfl rfl ?_
    refine aE_geti dX12_told_55 fw_X12_163 (lt_nn (by decide)) rfl (by decide) rfl ?_
    refine aE_iret dX12_told_58 rfl ⟨by decide, by decide⟩ ?_
    exact h_2 rfl
  · skip
    subst hsw
    refine aE_tableIn (off := 58) (tgt := 59) dX12_told_1 (by decide) (by decide) rfl (by decide) ?_
    refine aE_aload_n dX12_told_59 rfl rfl ?_
    refine aE_geti dX12_told_60 fw_X12_166 (lt_nn (by decide)) rfl (by decide) rfl ?_
    refine aE_iret dX12_told_63 rfl ⟨by decide, by decide⟩ ?_
    exact h_3 rfl
  · skip
    subst hsw
    refine aE_tableIn (off := 63) (tgt := 64) dX12_told_1 (by decide) (by decide) rfl (by decide) ?_
    refine aE_aload_n dX12_told_64 rfl rfl ?_
    refine aE_geti dX12_told_65 fw_X12_289 (lt_nn (by decide)) rfl (by decide) rfl ?_
    refine aE_iret dX12_told_68 rfl ⟨by decide, by decide⟩ ?_
    exact h_4 rfl
  · skip
    subst hsw
    refine aE_tableIn (off := 68) (tgt := 69) dX12_told_1 (by decide) (by decide) rfl (by decide) ?_
    refine aE_aload_n dX12_told_69 rfl rfl ?_
    refine aE_geti dX12_told_70 fw_X12_277 (lt_nn (by decide)) rfl (by decide) rfl ?_
    refine aE_iret dX12_told_73 rfl ⟨by decide, by decide⟩ ?_
    exact h_5 rfl
  · skip
    subst hsw
    refine aE_tableIn (off := 73) (tgt := 74) dX12_told_1 (by decide) (by decide) rfl (by decide) ?_
    refine aE_aload_n dX12_told_74 rfl rfl ?_
    refine aE_geti dX12_told_75 fw_X12_153 (lt_nn (by decide)) rfl (by decide) rfl ?_
    refine aE_iret dX12_told_78 rfl ⟨by decide, by decide⟩ ?_
    exact h_6 rfl

set_option maxRecDepth 20000 in
theorem m_comes (r : Int32) (nm : Nat) (hm : I 101 57 = nI nm) (hnm : nm ≤ 10) (hB : r < 0 → qi Q (-1000001) (fndM I) sp pl) (hN : 0 ≤ r → I 101 57 ≤ r → qi Q (-1000004) (fndM I) sp pl) (hO : ∀ j, j < nm → r = nI j → qi Q (I 144 j) I sp pl) : aRuns mX12_comes (rK 1) [.ref 101, .int r] (nn pl) (MM I sp pl) (Q) := by
  refine aRuns_of pn_X12_comes (Nat.le_of_ble_eq_true rfl) (fun z => aE_loc (ls' := [_, _]) rfl ?_)
  refine aE_iload_n dX12_comes_0 rfl rfl ?_
  refine aE_if_ge (tgt := 11) dX12_comes_1 (by decide) (fun h1 => ?_) (fun h1 => ?_)
  · skip
    refine aE_iload_n dX12_comes_11 rfl rfl ?_
    refine aE_aload_n dX12_comes_12 rfl rfl ?_
    refine aE_geti dX12_comes_13 fw_X12_319 (lt_nn (by decide)) rfl (by decide) rfl ?_
    refine aE_icmp_ge (tgt := 28) dX12_comes_16 (by decide) (fun h16 => ?_) (fun h16 => ?_)
    · skip
      refine aE_aload_n dX12_comes_28 rfl rfl ?_
      refine aE_ldc dX12_comes_29 ct_X12_197 ?_
      refine aE_cVi dX12_comes_31 lk_X12_177 mv_X12_finds (c_finds _) rfl (lt_nn (by decide)) rfl rfl ⟨by decide, by decide⟩ (Nat.le_of_ble_eq_true rfl) ⟨rfl, rfl⟩ ⟨by decide, by decide⟩ ?_
      refine aE_iret dX12_comes_34 rfl ⟨by decide, by decide⟩ ?_
      first | exact hN h1 h16 | exact hO j hjn hr
    · skip
      obtain ⟨j, hj31, hr⟩ := nI_of (Int32.not_lt.mpr h1)
      have hjn : j < nm := by
        rcases Nat.lt_or_ge j nm with q | q
        · exact q
        · exact absurd (by rw [hm, hr]; exact nI_le q hj31) h16
      have hr10 : j < 10 := by omega
      refine aE_aload_n dX12_comes_19 rfl rfl ?_
      refine aE_getf (v := .ref 144) dX12_comes_20 fw_X12_144 (lt_nn (by decide)) rfl rfl ?_
      refine aE_iload_n dX12_comes_23 rfl rfl ?_
      refine aE_ildM dX12_comes_24 (lt_nn (by decide)) rfl (by decide) hr hr10 ?_
      refine aE_goto (tgt := 34) dX12_comes_25 (by decide) ?_
      refine aE_iret dX12_comes_34 rfl ⟨by decide, by decide⟩ ?_
      first | exact hN h1 h16 | exact hO j hjn hr
  · skip
    refine aE_aload_n dX12_comes_4 rfl rfl ?_
    refine aE_ldc dX12_comes_5 ct_X12_185 ?_
    refine aE_cVi dX12_comes_7 lk_X12_177 mv_X12_finds (c_finds _) rfl (lt_nn (by decide)) rfl rfl ⟨by decide, by decide⟩ (Nat.le_of_ble_eq_true rfl) ⟨rfl, rfl⟩ ⟨by decide, by decide⟩ ?_
    refine aE_iret dX12_comes_10 rfl ⟨by decide, by decide⟩ ?_
    exact hB (Int32.not_le.mp h1)

theorem l_mgone (t nst t' : Nat) (v : Int32) (hn : I 101 3 = nI nst) (ht : t < nst) (h10 : nst ≤ 10) (ht' : nst = t' + 1) (hQ : qi Q (nI t') (ano (iu (gsI I t t') 101 3 (nI t'))) sp pl) : ∀ (m k : Nat), t ≤ k → k + m = t' → aE z mX12_gone (rK 2) Q 17 [some (.ref 101), some (.int v), some (.int (nI k))] [] (nn pl) (MM (gsI I t k) sp pl) 0 0 := by
  intro m
  induction m with
  | zero =>
    intro k hk hkm
    have hk2 : k = t' := by omega
    subst hk2
    refine aE_iload_n dX12_gone_17 rfl rfl ?_
    refine aE_aload_n dX12_gone_18 rfl rfl ?_
    refine aE_geti dX12_gone_19 fw_X12_166 (lt_nn (by decide)) rfl (by decide) rfl ?_
    refine aE_iconst (v := 1) dX12_gone_22 rfl ?_
    refine aE_isub dX12_gone_23 ?_
    refine aE_icmp_ge (tgt := 89) dX12_gone_24 (by decide) (fun h24 => ?_) (fun h24 => absurd (by rw [(show gsI I t k 101 3 = nI nst from (gsI_o (by omega)).trans hn), show nst = k + 1 from ht', nI_pred]; exact Int32.le_refl _) h24)
    refine aE_aload_n dX12_gone_89 rfl rfl ?_
    refine aE_dup dX12_gone_90 rfl ?_
    refine aE_geti dX12_gone_91 fw_X12_166 (lt_nn (by decide)) rfl (by decide) rfl ?_
    refine aE_iconst (v := 1) dX12_gone_94 rfl ?_
    refine aE_isub dX12_gone_95 ?_
    refine aE_top (x' := nI k) (by rw [(show gsI I t k 101 3 = nI nst from (gsI_o (by omega)).trans hn), show nst = k + 1 from ht', nI_pred]) ?_
    refine aE_puti dX12_gone_96 fp_X12_166 (Or.inl rfl) (lt_nn (by decide)) rfl (fun _ => ⟨rfl, rfl⟩) (by decide) rfl ?_
    refine aE_aload_n dX12_gone_99 rfl rfl ?_
    refine aE_cVv dX12_gone_100 lk_X12_189 mv_X12_another (c_another ) rfl (lt_nn (by decide)) rfl rfl ⟨by decide, by decide⟩ (Nat.le_of_ble_eq_true rfl) ⟨rfl, rfl⟩ ⟨by decide, by decide⟩ ?_
    refine aE_aload_n dX12_gone_103 rfl rfl ?_
    refine aE_geti dX12_gone_104 fw_X12_166 (lt_nn (by decide)) rfl (by decide) rfl ?_
    refine aE_iret dX12_gone_107 rfl ⟨by decide, by decide⟩ ?_
    exact hQ
  | succ m ih =>
    intro k hk hkm
    refine aE_iload_n dX12_gone_17 rfl rfl ?_
    refine aE_aload_n dX12_gone_18 rfl rfl ?_
    refine aE_geti dX12_gone_19 fw_X12_166 (lt_nn (by decide)) rfl (by decide) rfl ?_
    refine aE_iconst (v := 1) dX12_gone_22 rfl ?_
    refine aE_isub dX12_gone_23 ?_
    refine aE_icmp_ge (tgt := 89) dX12_gone_24 (by decide) (fun h24 => absurd h24 (by rw [(show gsI I t k 101 3 = nI nst from (gsI_o (by omega)).trans hn), show nst = t' + 1 from ht', nI_pred]; exact nI_ge (by omega) (by omega))) (fun h24 => ?_)
    refine aE_aload_n dX12_gone_27 rfl rfl ?_
    refine aE_getf (v := .ref 110) dX12_gone_28 fw_X12_42 (lt_nn (by decide)) rfl rfl ?_
    refine aE_iload_n dX12_gone_31 rfl rfl ?_
    refine aE_aload_n dX12_gone_32 rfl rfl ?_
    refine aE_getf (v := .ref 110) dX12_gone_33 fw_X12_42 (lt_nn (by decide)) rfl rfl ?_
    refine aE_iload_n dX12_gone_36 rfl rfl ?_
    refine aE_iconst (v := 1) dX12_gone_37 rfl ?_
    refine aE_iadd dX12_gone_38 ?_
    refine aE_top (nI_1 k) ?_
    refine aE_ildM dX12_gone_39 (lt_nn (by decide)) rfl (by decide) rfl (by omega) ?_
    refine aE_top (x' := I 110 (k + 1)) (by first | exact gsI_hi | (rw [iu_ne (by omega)]; exact gsI_hi) | (rw [iu_ne (by omega), iu_ne (by omega)]; exact gsI_hi) | (rw [iu_ne (by omega), iu_ne (by omega), iu_ne (by omega)]; exact gsI_hi)) ?_
    refine aE_istM dX12_gone_40 (lt_nn (by decide)) rfl (by decide) rfl (by omega) ?_
    refine aE_aload_n dX12_gone_41 rfl rfl ?_
    refine aE_getf (v := .ref 111) dX12_gone_42 fw_X12_45 (lt_nn (by decide)) rfl rfl ?_
    refine aE_iload_n dX12_gone_45 rfl rfl ?_
    refine aE_aload_n dX12_gone_46 rfl rfl ?_
    refine aE_getf (v := .ref 111) dX12_gone_47 fw_X12_45 (lt_nn (by decide)) rfl rfl ?_
    refine aE_iload_n dX12_gone_50 rfl rfl ?_
    refine aE_iconst (v := 1) dX12_gone_51 rfl ?_
    refine aE_iadd dX12_gone_52 ?_
    refine aE_top (nI_1 k) ?_
    refine aE_ildM dX12_gone_53 (lt_nn (by decide)) rfl (by decide) rfl (by omega) ?_
    refine aE_top (x' := I 111 (k + 1)) (by first | exact gsI_hi | (rw [iu_ne (by omega)]; exact gsI_hi) | (rw [iu_ne (by omega), iu_ne (by omega)]; exact gsI_hi) | (rw [iu_ne (by omega), iu_ne (by omega), iu_ne (by omega)]; exact gsI_hi)) ?_
    refine aE_istM dX12_gone_54 (lt_nn (by decide)) rfl (by decide) rfl (by omega) ?_
    refine aE_aload_n dX12_gone_55 rfl rfl ?_
    refine aE_getf (v := .ref 112) dX12_gone_56 fw_X12_48 (lt_nn (by decide)) rfl rfl ?_
    refine aE_iload_n dX12_gone_59 rfl rfl ?_
    refine aE_aload_n dX12_gone_60 rfl rfl ?_
    refine aE_getf (v := .ref 112) dX12_gone_61 fw_X12_48 (lt_nn (by decide)) rfl rfl ?_
    refine aE_iload_n dX12_gone_64 rfl rfl ?_
    refine aE_iconst (v := 1) dX12_gone_65 rfl ?_
    refine aE_iadd dX12_gone_66 ?_
    refine aE_top (nI_1 k) ?_
    refine aE_ildM dX12_gone_67 (lt_nn (by decide)) rfl (by decide) rfl (by omega) ?_
    refine aE_top (x' := I 112 (k + 1)) (by first | exact gsI_hi | (rw [iu_ne (by omega)]; exact gsI_hi) | (rw [iu_ne (by omega), iu_ne (by omega)]; exact gsI_hi) | (rw [iu_ne (by omega), iu_ne (by omega), iu_ne (by omega)]; exact gsI_hi)) ?_
    refine aE_istM dX12_gone_68 (lt_nn (by decide)) rfl (by decide) rfl (by omega) ?_
    refine aE_aload_n dX12_gone_69 rfl rfl ?_
    refine aE_getf (v := .ref 113) dX12_gone_70 fw_X12_51 (lt_nn (by decide)) rfl rfl ?_
    refine aE_iload_n dX12_gone_73 rfl rfl ?_
    refine aE_aload_n dX12_gone_74 rfl rfl ?_
    refine aE_getf (v := .ref 113) dX12_gone_75 fw_X12_51 (lt_nn (by decide)) rfl rfl ?_
    refine aE_iload_n dX12_gone_78 rfl rfl ?_
    refine aE_iconst (v := 1) dX12_gone_79 rfl ?_
    refine aE_iadd dX12_gone_80 ?_
    refine aE_top (nI_1 k) ?_
    refine aE_ildM dX12_gone_81 (lt_nn (by decide)) rfl (by decide) rfl (by omega) ?_
    refine aE_top (x' := I 113 (k + 1)) (by first | exact gsI_hi | (rw [iu_ne (by omega)]; exact gsI_hi) | (rw [iu_ne (by omega), iu_ne (by omega)]; exact gsI_hi) | (rw [iu_ne (by omega), iu_ne (by omega), iu_ne (by omega)]; exact gsI_hi)) ?_
    refine aE_istM dX12_gone_82 (lt_nn (by decide)) rfl (by decide) rfl (by omega) ?_
    refine aE_I (gsI_s hk) ?_
    refine aE_iinc dX12_gone_83 rfl (a_inc _) (by decide) rfl (aE_loc (ls' := [_, _, _]) rfl ?_)
    refine aE_goto (tgt := 17) dX12_gone_86 (by decide) ?_
    exact ih (k + 1) (by omega) (by omega)
set_option maxRecDepth 20000 in
theorem m_gone (v : Int32) (nst : Nat) (hn : I 101 3 = nI nst) (h10 : nst ≤ 10) (hB : wi v 0 (I 101 3 - 1) = 0 → qi Q (-1000001) (fndM I) sp pl) (hO : ∀ t t', t < nst → v = nI t → nst = t' + 1 → qi Q (nI t') (ano (iu (gsI I t t') 101 3 (nI t'))) sp pl) : aRuns mX12_gone (rK 2) [.ref 101, .int v] (nn pl) (MM I sp pl) (Q) := by
  refine aRuns_of pn_X12_gone (Nat.le_of_ble_eq_true rfl) (fun z => aE_loc (ls' := [_, _, _]) rfl ?_)
  refine aE_aload_n dX12_gone_0 rfl rfl ?_
  refine aE_iload_n dX12_gone_1 rfl rfl ?_
  refine aE_cVi dX12_gone_2 lk_X12_221 mv_X12_isStop (c_isStop _) rfl (lt_nn (by decide)) rfl rfl ⟨by decide, by decide⟩ (Nat.le_of_ble_eq_true rfl) ⟨rfl, rfl⟩ ⟨by decide, by decide⟩ ?_
  refine aE_if_ne (tgt := 15) dX12_gone_5 (by decide) (fun h5 => ?_) (fun h5 => ?_)
  · skip
    obtain ⟨t, ht, rfl⟩ := wi_ix (by omega) (hn ▸ h5)
    obtain ⟨t', ht'⟩ : ∃ t', nst = t' + 1 := ⟨nst - 1, by omega⟩
    refine aE_iload_n dX12_gone_15 rfl rfl ?_
    refine aE_istore_n dX12_gone_16 rfl (by decide) rfl (aE_loc (ls' := [_, _, _]) rfl ?_)
    refine aE_I (I' := gsI I t t) (gsI_0 I t).symm ?_
    exact l_mgone t nst t' _ hn ht h10 ht' (hO t t' ht rfl ht') (t' - t) t (by omega) (by omega)
  · skip
    refine aE_aload_n dX12_gone_8 rfl rfl ?_
    refine aE_ldc dX12_gone_9 ct_X12_185 ?_
    refine aE_cVi dX12_gone_11 lk_X12_177 mv_X12_finds (c_finds _) rfl (lt_nn (by decide)) rfl rfl ⟨by decide, by decide⟩ (Nat.le_of_ble_eq_true rfl) ⟨rfl, rfl⟩ ⟨by decide, by decide⟩ ?_
    refine aE_iret dX12_gone_14 rfl ⟨by decide, by decide⟩ ?_
    exact hB h5

end MB2
