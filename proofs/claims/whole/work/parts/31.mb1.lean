abbrev ano (I : Nat → Nat → Int32) : Nat → Nat → Int32 := iu (iu I 101 29 0) 101 30 0
section MB1
variable {z : Nat × (Nat → Int32)} {n : Nat} {mem : aM} {I : Nat → Nat → Int32} {sp : Nat → Nat} {pl : Bool} {Q : Option Value → Nat → aM → Prop} {R : Room}
set_option maxRecDepth 20000 in
theorem m_corner  (hF : I 101 0 = 8 → qi Q (-1000002) (fndM I) sp pl) (hO : ¬ I 101 0 = 8 → qi Q (I 101 0 + 1 - 1) (iu I 101 0 (I 101 0 + 1)) sp pl) : aRuns mX12_corner (rK 1) [.ref 101] (nn pl) (MM I sp pl) (Q) := by
  refine aRuns_of pn_X12_corner (Nat.le_of_ble_eq_true rfl) (fun z => aE_loc (ls' := [_]) rfl ?_)
  refine aE_aload_n dX12_corner_0 rfl rfl ?_
  refine aE_geti dX12_corner_1 fw_X12_156 (lt_nn (by decide)) rfl (by decide) rfl ?_
  refine aE_bipush (v := 8) dX12_corner_4 (by decide) ?_
  refine aE_icmp_ne (tgt := 16) dX12_corner_6 (by decide) (fun h6 => ?_) (fun h6 => ?_)
  · skip
    refine aE_aload_n dX12_corner_16 rfl rfl ?_
    refine aE_dup dX12_corner_17 rfl ?_
    refine aE_geti dX12_corner_18 fw_X12_156 (lt_nn (by decide)) rfl (by decide) rfl ?_
    refine aE_iconst (v := 1) dX12_corner_21 rfl ?_
    refine aE_iadd dX12_corner_22 ?_
    refine aE_puti dX12_corner_23 fp_X12_156 (Or.inl rfl) (lt_nn (by decide)) rfl (fun _ => ⟨rfl, rfl⟩) (by decide) rfl ?_
    refine aE_aload_n dX12_corner_26 rfl rfl ?_
    refine aE_geti dX12_corner_27 fw_X12_156 (lt_nn (by decide)) rfl (by decide) rfl ?_
    refine aE_iconst (v := 1) dX12_corner_30 rfl ?_
    refine aE_isub dX12_corner_31 ?_
    refine aE_iret dX12_corner_32 rfl ⟨by decide, by decide⟩ ?_
    exact hO h6
  · skip
    refine aE_aload_n dX12_corner_9 rfl rfl ?_
    refine aE_ldc dX12_corner_10 ct_X12_176 ?_
    refine aE_cVi dX12_corner_12 lk_X12_177 mv_X12_finds (c_finds _) rfl (lt_nn (by decide)) rfl rfl ⟨by decide, by decide⟩ (Nat.le_of_ble_eq_true rfl) ⟨rfl, rfl⟩ ⟨by decide, by decide⟩ ?_
    refine aE_iret dX12_corner_15 rfl ⟨by decide, by decide⟩ ?_
    exact hF h6

set_option maxRecDepth 20000 in
theorem m_street (a b c : Int32) (ns : Nat) (hns : I 101 1 = nI ns) (hs : ns ≤ 14) (hB : (wi a 0 (I 101 0 - 1) = 0 ∨ wi b 0 (I 101 0 - 1) = 0 ∨ a = b ∨ wi c 1 20 = 0) → qi Q (-1000001) (fndM I) sp pl) (hF : (¬ wi a 0 (I 101 0 - 1) = 0 ∧ ¬ wi b 0 (I 101 0 - 1) = 0 ∧ ¬ a = b ∧ ¬ wi c 1 20 = 0) → I 101 1 = 14 → qi Q (-1000002) (fndM I) sp pl) (hO : (¬ wi a 0 (I 101 0 - 1) = 0 ∧ ¬ wi b 0 (I 101 0 - 1) = 0 ∧ ¬ a = b ∧ ¬ wi c 1 20 = 0) → ns < 14 → qi Q (nI ns + 1 - 1) (ano (iu (iu (iu (iu (iu I 102 ns a) 103 ns b) 104 ns c) 105 ns 0) 101 1 (nI ns + 1))) sp pl) : aRuns mX12_street (rK 2) [.ref 101, .int a, .int b, .int c] (nn pl) (MM I sp pl) (Q) := by
  refine aRuns_of pn_X12_street (Nat.le_of_ble_eq_true rfl) (fun z => aE_loc (ls' := [_, _, _, _]) rfl ?_)
  refine aE_aload_n dX12_street_0 rfl rfl ?_
  refine aE_iload_n dX12_street_1 rfl rfl ?_
  refine aE_cVi dX12_street_2 lk_X12_181 mv_X12_isCorner (c_isCorner _) rfl (lt_nn (by decide)) rfl rfl ⟨by decide, by decide⟩ (Nat.le_of_ble_eq_true rfl) ⟨rfl, rfl⟩ ⟨by decide, by decide⟩ ?_
  refine aE_if_eq (tgt := 31) dX12_street_5 (by decide) (fun h5 => ?_) (fun h5 => ?_)
  · skip
    refine aE_aload_n dX12_street_31 rfl rfl ?_
    refine aE_ldc dX12_street_32 ct_X12_185 ?_
    refine aE_cVi dX12_street_34 lk_X12_177 mv_X12_finds (c_finds _) rfl (lt_nn (by decide)) rfl rfl ⟨by decide, by decide⟩ (Nat.le_of_ble_eq_true rfl) ⟨rfl, rfl⟩ ⟨by decide, by decide⟩ ?_
    refine aE_iret dX12_street_37 rfl ⟨by decide, by decide⟩ ?_
    refine hB ?_
    first | exact Or.inl ‹_› | exact Or.inr (Or.inl ‹_›) | exact Or.inr (Or.inr (Or.inl ‹_›)) | exact Or.inr (Or.inr (Or.inr ‹_›))
  · skip
    refine aE_aload_n dX12_street_8 rfl rfl ?_
    refine aE_iload_n dX12_street_9 rfl rfl ?_
    refine aE_cVi dX12_street_10 lk_X12_181 mv_X12_isCorner (c_isCorner _) rfl (lt_nn (by decide)) rfl rfl ⟨by decide, by decide⟩ (Nat.le_of_ble_eq_true rfl) ⟨rfl, rfl⟩ ⟨by decide, by decide⟩ ?_
    refine aE_if_eq (tgt := 31) dX12_street_13 (by decide) (fun h13 => ?_) (fun h13 => ?_)
    · skip
      refine aE_aload_n dX12_street_31 rfl rfl ?_
      refine aE_ldc dX12_street_32 ct_X12_185 ?_
      refine aE_cVi dX12_street_34 lk_X12_177 mv_X12_finds (c_finds _) rfl (lt_nn (by decide)) rfl rfl ⟨by decide, by decide⟩ (Nat.le_of_ble_eq_true rfl) ⟨rfl, rfl⟩ ⟨by decide, by decide⟩ ?_
      refine aE_iret dX12_street_37 rfl ⟨by decide, by decide⟩ ?_
      refine hB ?_
      first | exact Or.inl ‹_› | exact Or.inr (Or.inl ‹_›) | exact Or.inr (Or.inr (Or.inl ‹_›)) | exact Or.inr (Or.inr (Or.inr ‹_›))
    · skip
      refine aE_iload_n dX12_street_16 rfl rfl ?_
      refine aE_iload_n dX12_street_17 rfl rfl ?_
      refine aE_icmp_eq (tgt := 31) dX12_street_18 (by decide) (fun h18 => ?_) (fun h18 => ?_)
      · skip
        refine aE_aload_n dX12_street_31 rfl rfl ?_
        refine aE_ldc dX12_street_32 ct_X12_185 ?_
        refine aE_cVi dX12_street_34 lk_X12_177 mv_X12_finds (c_finds _) rfl (lt_nn (by decide)) rfl rfl ⟨by decide, by decide⟩ (Nat.le_of_ble_eq_true rfl) ⟨rfl, rfl⟩ ⟨by decide, by decide⟩ ?_
        refine aE_iret dX12_street_37 rfl ⟨by decide, by decide⟩ ?_
        refine hB ?_
        first | exact Or.inl ‹_› | exact Or.inr (Or.inl ‹_›) | exact Or.inr (Or.inr (Or.inl ‹_›)) | exact Or.inr (Or.inr (Or.inr ‹_›))
      · skip
        refine aE_iload_n dX12_street_21 rfl rfl ?_
        refine aE_iconst (v := 1) dX12_street_22 rfl ?_
        refine aE_bipush (v := 20) dX12_street_23 (by decide) ?_
        refine aE_cSi dX12_street_25 lk_X12_159 ms_X12_in (c_in _ _ _) rfl rfl ⟨by decide, by decide⟩ (Nat.le_of_ble_eq_true rfl) ⟨rfl, rfl⟩ ⟨by decide, by decide⟩ ?_
        refine aE_if_ne (tgt := 38) dX12_street_28 (by decide) (fun h28 => ?_) (fun h28 => ?_)
        · skip
          refine aE_aload_n dX12_street_38 rfl rfl ?_
          refine aE_geti dX12_street_39 fw_X12_186 (lt_nn (by decide)) rfl (by decide) rfl ?_
          refine aE_bipush (v := 14) dX12_street_42 (by decide) ?_
          refine aE_icmp_ne (tgt := 54) dX12_street_44 (by decide) (fun h44 => ?_) (fun h44 => ?_)
          · skip
            have h14 : ns < 14 := by
              rcases Nat.lt_or_ge ns 14 with q | q
              · exact q
              · exact absurd (by rw [hns, show ns = 14 by omega]; rfl) h44
            refine aE_aload_n dX12_street_54 rfl rfl ?_
            refine aE_getf (v := .ref 102) dX12_street_55 fw_X12_16 (lt_nn (by decide)) rfl rfl ?_
            refine aE_aload_n dX12_street_58 rfl rfl ?_
            refine aE_geti dX12_street_59 fw_X12_186 (lt_nn (by decide)) rfl (by decide) rfl ?_
            refine aE_iload_n dX12_street_62 rfl rfl ?_
            refine aE_istM dX12_street_63 (lt_nn (by decide)) rfl (by decide) hns h14 ?_
            refine aE_aload_n dX12_street_64 rfl rfl ?_
            refine aE_getf (v := .ref 103) dX12_street_65 fw_X12_20 (lt_nn (by decide)) rfl rfl ?_
            refine aE_aload_n dX12_street_68 rfl rfl ?_
            refine aE_geti dX12_street_69 fw_X12_186 (lt_nn (by decide)) rfl (by decide) rfl ?_
            refine aE_iload_n dX12_street_72 rfl rfl ?_
            refine aE_istM dX12_street_73 (lt_nn (by decide)) rfl (by decide) hns h14 ?_
            refine aE_aload_n dX12_street_74 rfl rfl ?_
            refine aE_getf (v := .ref 104) dX12_street_75 fw_X12_23 (lt_nn (by decide)) rfl rfl ?_
            refine aE_aload_n dX12_street_78 rfl rfl ?_
            refine aE_geti dX12_street_79 fw_X12_186 (lt_nn (by decide)) rfl (by decide) rfl ?_
            refine aE_iload_n dX12_street_82 rfl rfl ?_
            refine aE_istM dX12_street_83 (lt_nn (by decide)) rfl (by decide) hns h14 ?_
            refine aE_aload_n dX12_street_84 rfl rfl ?_
            refine aE_getf (v := .ref 105) dX12_street_85 fw_X12_26 (lt_nn (by decide)) rfl rfl ?_
            refine aE_aload_n dX12_street_88 rfl rfl ?_
            refine aE_geti dX12_street_89 fw_X12_186 (lt_nn (by decide)) rfl (by decide) rfl ?_
            refine aE_iconst (v := 0) dX12_street_92 rfl ?_
            refine aE_zstM dX12_street_93 (lt_nn (by decide)) rfl (by decide) hns h14 (by first | exact Or.inl rfl | exact Or.inr rfl | assumption) ?_
            refine aE_aload_n dX12_street_94 rfl rfl ?_
            refine aE_dup dX12_street_95 rfl ?_
            refine aE_geti dX12_street_96 fw_X12_186 (lt_nn (by decide)) rfl (by decide) rfl ?_
            refine aE_top (x' := nI ns) hns ?_
            refine aE_iconst (v := 1) dX12_street_99 rfl ?_
            refine aE_iadd dX12_street_100 ?_
            refine aE_puti dX12_street_101 fp_X12_186 (Or.inl rfl) (lt_nn (by decide)) rfl (fun _ => ⟨rfl, rfl⟩) (by decide) rfl ?_
            refine aE_aload_n dX12_street_104 rfl rfl ?_
            refine aE_cVv dX12_street_105 lk_X12_189 mv_X12_another (c_another ) rfl (lt_nn (by decide)) rfl rfl ⟨by decide, by decide⟩ (Nat.le_of_ble_eq_true rfl) ⟨rfl, rfl⟩ ⟨by decide, by decide⟩ ?_
            refine aE_aload_n dX12_street_108 rfl rfl ?_
            refine aE_geti dX12_street_109 fw_X12_186 (lt_nn (by decide)) rfl (by decide) rfl ?_
            refine aE_iconst (v := 1) dX12_street_112 rfl ?_
            refine aE_isub dX12_street_113 ?_
            refine aE_iret dX12_street_114 rfl ⟨by decide, by decide⟩ ?_
            exact hO ⟨h5, h13, h18, h28⟩ h14
          · skip
            refine aE_aload_n dX12_street_47 rfl rfl ?_
            refine aE_ldc dX12_street_48 ct_X12_176 ?_
            refine aE_cVi dX12_street_50 lk_X12_177 mv_X12_finds (c_finds _) rfl (lt_nn (by decide)) rfl rfl ⟨by decide, by decide⟩ (Nat.le_of_ble_eq_true rfl) ⟨rfl, rfl⟩ ⟨by decide, by decide⟩ ?_
            refine aE_iret dX12_street_53 rfl ⟨by decide, by decide⟩ ?_
            exact hF ⟨h5, h13, h18, h28⟩ h44
        · skip
          refine aE_aload_n dX12_street_31 rfl rfl ?_
          refine aE_ldc dX12_street_32 ct_X12_185 ?_
          refine aE_cVi dX12_street_34 lk_X12_177 mv_X12_finds (c_finds _) rfl (lt_nn (by decide)) rfl rfl ⟨by decide, by decide⟩ (Nat.le_of_ble_eq_true rfl) ⟨rfl, rfl⟩ ⟨by decide, by decide⟩ ?_
          refine aE_iret dX12_street_37 rfl ⟨by decide, by decide⟩ ?_
          refine hB ?_
          first | exact Or.inl ‹_› | exact Or.inr (Or.inl ‹_›) | exact Or.inr (Or.inr (Or.inl ‹_›)) | exact Or.inr (Or.inr (Or.inr ‹_›))

set_option maxRecDepth 20000 in
theorem m_shut (v b : Int32) (ns : Nat) (hns : I 101 1 = nI ns) (hs : ns ≤ 14) (hb : b = 0 ∨ b = 1) (hB : wi v 0 (I 101 1 - 1) = 0 → qi Q (-1000001) (fndM I) sp pl) (hS : ∀ st, st < ns → v = nI st → I 105 st = b → qi Q 0 (ano (iu I 105 st b)) sp pl) (hN : ∀ st, st < ns → v = nI st → ¬ I 105 st = b → qi Q 1 (ano (iu I 105 st b)) sp pl) : aRuns mX12_shut (rK 1) [.ref 101, .int v, .int b] (nn pl) (MM I sp pl) (Q) := by
  refine aRuns_of pn_X12_shut (Nat.le_of_ble_eq_true rfl) (fun z => aE_loc (ls' := [_, _, _, _]) rfl ?_)
  refine aE_iload_n dX12_shut_0 rfl rfl ?_
  refine aE_iconst (v := 0) dX12_shut_1 rfl ?_
  refine aE_aload_n dX12_shut_2 rfl rfl ?_
  refine aE_geti dX12_shut_3 fw_X12_186 (lt_nn (by decide)) rfl (by decide) rfl ?_
  refine aE_iconst (v := 1) dX12_shut_6 rfl ?_
  refine aE_isub dX12_shut_7 ?_
  refine aE_cSi dX12_shut_8 lk_X12_159 ms_X12_in (c_in _ _ _) rfl rfl ⟨by decide, by decide⟩ (Nat.le_of_ble_eq_true rfl) ⟨rfl, rfl⟩ ⟨by decide, by decide⟩ ?_
  refine aE_if_ne (tgt := 21) dX12_shut_11 (by decide) (fun h11 => ?_) (fun h11 => ?_)
  · skip
    obtain ⟨st, hst, rfl⟩ := wi_ix (by omega) (hns ▸ h11)
    refine aE_aload_n dX12_shut_21 rfl rfl ?_
    refine aE_getf (v := .ref 105) dX12_shut_22 fw_X12_26 (lt_nn (by decide)) rfl rfl ?_
    refine aE_iload_n dX12_shut_25 rfl rfl ?_
    refine aE_zldM dX12_shut_26 (lt_nn (by decide)) rfl (by decide) rfl (by omega) ?_
    refine aE_istore_n dX12_shut_27 rfl (by decide) rfl (aE_loc (ls' := [_, _, _, _]) rfl ?_)
    refine aE_aload_n dX12_shut_28 rfl rfl ?_
    refine aE_getf (v := .ref 105) dX12_shut_29 fw_X12_26 (lt_nn (by decide)) rfl rfl ?_
    refine aE_iload_n dX12_shut_32 rfl rfl ?_
    refine aE_iload_n dX12_shut_33 rfl rfl ?_
    refine aE_zstM dX12_shut_34 (lt_nn (by decide)) rfl (by decide) rfl (by omega) (by first | exact Or.inl rfl | exact Or.inr rfl | assumption) ?_
    refine aE_aload_n dX12_shut_35 rfl rfl ?_
    refine aE_cVv dX12_shut_36 lk_X12_189 mv_X12_another (c_another ) rfl (lt_nn (by decide)) rfl rfl ⟨by decide, by decide⟩ (Nat.le_of_ble_eq_true rfl) ⟨rfl, rfl⟩ ⟨by decide, by decide⟩ ?_
    refine aE_iload_n dX12_shut_39 rfl rfl ?_
    refine aE_iload_n dX12_shut_40 rfl rfl ?_
    refine aE_icmp_ne (tgt := 48) dX12_shut_41 (by decide) (fun h41 => ?_) (fun h41 => ?_)
    · skip
      refine aE_iconst (v := 1) dX12_shut_48 rfl ?_
      refine aE_iret dX12_shut_49 rfl ⟨by decide, by decide⟩ ?_
      first | exact hN st hst rfl h41 | exact hS st hst rfl h41
    · skip
      refine aE_iconst (v := 0) dX12_shut_44 rfl ?_
      refine aE_goto (tgt := 49) dX12_shut_45 (by decide) ?_
      refine aE_iret dX12_shut_49 rfl ⟨by decide, by decide⟩ ?_
      first | exact hN st hst rfl h41 | exact hS st hst rfl h41
  · skip
    refine aE_aload_n dX12_shut_14 rfl rfl ?_
    refine aE_ldc dX12_shut_15 ct_X12_185 ?_
    refine aE_cVi dX12_shut_17 lk_X12_177 mv_X12_finds (c_finds _) rfl (lt_nn (by decide)) rfl rfl ⟨by decide, by decide⟩ (Nat.le_of_ble_eq_true rfl) ⟨rfl, rfl⟩ ⟨by decide, by decide⟩ ?_
    refine aE_iret dX12_shut_20 rfl ⟨by decide, by decide⟩ ?_
    exact hB h11

set_option maxRecDepth 20000 in
theorem m_school (k c : Int32) (s : Nat) (hs : I 101 2 = nI s) (hss : s ≤ 4) (hB : (wi k 0 3 = 0 ∨ wi c 0 (I 101 0 - 1) = 0) → qi Q (-1000001) (fndM I) sp pl) (hF : (¬ wi k 0 3 = 0 ∧ ¬ wi c 0 (I 101 0 - 1) = 0) → I 101 2 = 4 → qi Q (-1000002) (fndM I) sp pl) (hO : (¬ wi k 0 3 = 0 ∧ ¬ wi c 0 (I 101 0 - 1) = 0) → s < 4 → qi Q (nI s + 1 - 1) (ano (iu (iu (iu (iu (iu I 106 s k) 107 s c) 108 s 0) 109 s 3) 101 2 (nI s + 1))) sp pl) : aRuns mX12_school (rK 2) [.ref 101, .int k, .int c] (nn pl) (MM I sp pl) (Q) := by
  refine aRuns_of pn_X12_school (Nat.le_of_ble_eq_true rfl) (fun z => aE_loc (ls' := [_, _, _]) rfl ?_)
  refine aE_iload_n dX12_school_0 rfl rfl ?_
  refine aE_iconst (v := 0) dX12_school_1 rfl ?_
  refine aE_iconst (v := 3) dX12_school_2 rfl ?_
  refine aE_cSi dX12_school_3 lk_X12_159 ms_X12_in (c_in _ _ _) rfl rfl ⟨by decide, by decide⟩ (Nat.le_of_ble_eq_true rfl) ⟨rfl, rfl⟩ ⟨by decide, by decide⟩ ?_
  refine aE_if_eq (tgt := 17) dX12_school_6 (by decide) (fun h6 => ?_) (fun h6 => ?_)
  · skip
    refine aE_aload_n dX12_school_17 rfl rfl ?_
    refine aE_ldc dX12_school_18 ct_X12_185 ?_
    refine aE_cVi dX12_school_20 lk_X12_177 mv_X12_finds (c_finds _) rfl (lt_nn (by decide)) rfl rfl ⟨by decide, by decide⟩ (Nat.le_of_ble_eq_true rfl) ⟨rfl, rfl⟩ ⟨by decide, by decide⟩ ?_
    refine aE_iret dX12_school_23 rfl ⟨by decide, by decide⟩ ?_
    refine hB ?_
    first | exact Or.inl ‹_› | exact Or.inr ‹_›
  · skip
    refine aE_aload_n dX12_school_9 rfl rfl ?_
    refine aE_iload_n dX12_school_10 rfl rfl ?_
    refine aE_cVi dX12_school_11 lk_X12_181 mv_X12_isCorner (c_isCorner _) rfl (lt_nn (by decide)) rfl rfl ⟨by decide, by decide⟩ (Nat.le_of_ble_eq_true rfl) ⟨rfl, rfl⟩ ⟨by decide, by decide⟩ ?_
    refine aE_if_ne (tgt := 24) dX12_school_14 (by decide) (fun h14 => ?_) (fun h14 => ?_)
    · skip
      refine aE_aload_n dX12_school_24 rfl rfl ?_
      refine aE_geti dX12_school_25 fw_X12_163 (lt_nn (by decide)) rfl (by decide) rfl ?_
      refine aE_iconst (v := 4) dX12_school_28 rfl ?_
      refine aE_icmp_ne (tgt := 39) dX12_school_29 (by decide) (fun h29 => ?_) (fun h29 => ?_)
      · skip
        have h4 : s < 4 := by
          rcases Nat.lt_or_ge s 4 with q | q
          · exact q
          · exact absurd (by rw [hs, show s = 4 by omega]; rfl) h29
        refine aE_aload_n dX12_school_39 rfl rfl ?_
        refine aE_getf (v := .ref 106) dX12_school_40 fw_X12_30 (lt_nn (by decide)) rfl rfl ?_
        refine aE_aload_n dX12_school_43 rfl rfl ?_
        refine aE_geti dX12_school_44 fw_X12_163 (lt_nn (by decide)) rfl (by decide) rfl ?_
        refine aE_iload_n dX12_school_47 rfl rfl ?_
        refine aE_istM dX12_school_48 (lt_nn (by decide)) rfl (by decide) hs h4 ?_
        refine aE_aload_n dX12_school_49 rfl rfl ?_
        refine aE_getf (v := .ref 107) dX12_school_50 fw_X12_33 (lt_nn (by decide)) rfl rfl ?_
        refine aE_aload_n dX12_school_53 rfl rfl ?_
        refine aE_geti dX12_school_54 fw_X12_163 (lt_nn (by decide)) rfl (by decide) rfl ?_
        refine aE_iload_n dX12_school_57 rfl rfl ?_
        refine aE_istM dX12_school_58 (lt_nn (by decide)) rfl (by decide) hs h4 ?_
        refine aE_aload_n dX12_school_59 rfl rfl ?_
        refine aE_getf (v := .ref 108) dX12_school_60 fw_X12_36 (lt_nn (by decide)) rfl rfl ?_
        refine aE_aload_n dX12_school_63 rfl rfl ?_
        refine aE_geti dX12_school_64 fw_X12_163 (lt_nn (by decide)) rfl (by decide) rfl ?_
        refine aE_iconst (v := 0) dX12_school_67 rfl ?_
        refine aE_istM dX12_school_68 (lt_nn (by decide)) rfl (by decide) hs h4 ?_
        refine aE_aload_n dX12_school_69 rfl rfl ?_
        refine aE_getf (v := .ref 109) dX12_school_70 fw_X12_39 (lt_nn (by decide)) rfl rfl ?_
        refine aE_aload_n dX12_school_73 rfl rfl ?_
        refine aE_geti dX12_school_74 fw_X12_163 (lt_nn (by decide)) rfl (by decide) rfl ?_
        refine aE_iconst (v := 3) dX12_school_77 rfl ?_
        refine aE_istM dX12_school_78 (lt_nn (by decide)) rfl (by decide) hs h4 ?_
        refine aE_aload_n dX12_school_79 rfl rfl ?_
        refine aE_dup dX12_school_80 rfl ?_
        refine aE_geti dX12_school_81 fw_X12_163 (lt_nn (by decide)) rfl (by decide) rfl ?_
        refine aE_top (x' := nI s) hs ?_
        refine aE_iconst (v := 1) dX12_school_84 rfl ?_
        refine aE_iadd dX12_school_85 ?_
        refine aE_puti dX12_school_86 fp_X12_163 (Or.inl rfl) (lt_nn (by decide)) rfl (fun _ => ⟨rfl, rfl⟩) (by decide) rfl ?_
        refine aE_aload_n dX12_school_89 rfl rfl ?_
        refine aE_cVv dX12_school_90 lk_X12_189 mv_X12_another (c_another ) rfl (lt_nn (by decide)) rfl rfl ⟨by decide, by decide⟩ (Nat.le_of_ble_eq_true rfl) ⟨rfl, rfl⟩ ⟨by decide, by decide⟩ ?_
        refine aE_aload_n dX12_school_93 rfl rfl ?_
        refine aE_geti dX12_school_94 fw_X12_163 (lt_nn (by decide)) rfl (by decide) rfl ?_
        refine aE_iconst (v := 1) dX12_school_97 rfl ?_
        refine aE_isub dX12_school_98 ?_
        refine aE_iret dX12_school_99 rfl ⟨by decide, by decide⟩ ?_
        exact hO ⟨h6, h14⟩ h4
      · skip
        refine aE_aload_n dX12_school_32 rfl rfl ?_
        refine aE_ldc dX12_school_33 ct_X12_176 ?_
        refine aE_cVi dX12_school_35 lk_X12_177 mv_X12_finds (c_finds _) rfl (lt_nn (by decide)) rfl rfl ⟨by decide, by decide⟩ (Nat.le_of_ble_eq_true rfl) ⟨rfl, rfl⟩ ⟨by decide, by decide⟩ ?_
        refine aE_iret dX12_school_38 rfl ⟨by decide, by decide⟩ ?_
        exact hF ⟨h6, h14⟩ h29
    · skip
      refine aE_aload_n dX12_school_17 rfl rfl ?_
      refine aE_ldc dX12_school_18 ct_X12_185 ?_
      refine aE_cVi dX12_school_20 lk_X12_177 mv_X12_finds (c_finds _) rfl (lt_nn (by decide)) rfl rfl ⟨by decide, by decide⟩ (Nat.le_of_ble_eq_true rfl) ⟨rfl, rfl⟩ ⟨by decide, by decide⟩ ?_
      refine aE_iret dX12_school_23 rfl ⟨by decide, by decide⟩ ?_
      refine hB ?_
      first | exact Or.inl ‹_› | exact Or.inr ‹_›

set_option maxRecDepth 20000 in
theorem m_isOf (kd ab : Int32)  : aRuns mX12_isOf (rK 0) [.int kd, .int ab] n mem (a_ri (isU kd ab) n mem) := by
  refine aRuns_of pn_X12_isOf (Nat.le_of_ble_eq_true rfl) (fun z => aE_loc (ls' := [_, _]) rfl ?_)
  refine aE_iload_n dX12_isOf_0 rfl rfl ?_
  refine aE_if_eq (tgt := 19) dX12_isOf_1 (by decide) (fun h1 => ?_) (fun h1 => ?_)
  · skip
    have hv : (1 : Int32) = isU kd ab := by unfold isU; rw [if_pos (Or.inl h1)]
    refine aE_iconst (v := 1) dX12_isOf_19 rfl ?_
    refine aE_goto (tgt := 24) dX12_isOf_20 (by decide) ?_
    refine aE_zret dX12_isOf_24 rfl (by first | exact Or.inl rfl | exact Or.inr rfl | exact wi_or _ _ _ | assumption) ⟨by decide, by decide⟩ ?_
    exact a_rio hv rfl
  · skip
    refine aE_iload_n dX12_isOf_4 rfl rfl ?_
    refine aE_iload_n dX12_isOf_5 rfl rfl ?_
    refine aE_icmp_eq (tgt := 19) dX12_isOf_6 (by decide) (fun h6 => ?_) (fun h6 => ?_)
    · skip
      have hv : (1 : Int32) = isU kd ab := by unfold isU; rw [if_pos (Or.inr (Or.inl h6))]
      refine aE_iconst (v := 1) dX12_isOf_19 rfl ?_
      refine aE_goto (tgt := 24) dX12_isOf_20 (by decide) ?_
      refine aE_zret dX12_isOf_24 rfl (by first | exact Or.inl rfl | exact Or.inr rfl | exact wi_or _ _ _ | assumption) ⟨by decide, by decide⟩ ?_
      exact a_rio hv rfl
    · skip
      refine aE_iload_n dX12_isOf_9 rfl rfl ?_
      refine aE_iconst (v := 3) dX12_isOf_10 rfl ?_
      refine aE_icmp_ne (tgt := 23) dX12_isOf_11 (by decide) (fun h11 => ?_) (fun h11 => ?_)
      · skip
        have hv : (0 : Int32) = isU kd ab := by unfold isU; rw [if_neg (fun q => q.elim h1 (fun q => q.elim h6 (fun q => h11 q.1)))]
        refine aE_iconst (v := 0) dX12_isOf_23 rfl ?_
        refine aE_zret dX12_isOf_24 rfl (by first | exact Or.inl rfl | exact Or.inr rfl | exact wi_or _ _ _ | assumption) ⟨by decide, by decide⟩ ?_
        exact a_rio hv rfl
      · skip
        refine aE_iload_n dX12_isOf_14 rfl rfl ?_
        refine aE_iconst (v := 1) dX12_isOf_15 rfl ?_
        refine aE_icmp_ne (tgt := 23) dX12_isOf_16 (by decide) (fun h16 => ?_) (fun h16 => ?_)
        · skip
          have hv : (0 : Int32) = isU kd ab := by unfold isU; rw [if_neg (fun q => q.elim h1 (fun q => q.elim h6 (fun q => h16 q.2)))]
          refine aE_iconst (v := 0) dX12_isOf_23 rfl ?_
          refine aE_zret dX12_isOf_24 rfl (by first | exact Or.inl rfl | exact Or.inr rfl | exact wi_or _ _ _ | assumption) ⟨by decide, by decide⟩ ?_
          exact a_rio hv rfl
        · skip
          have hv : (1 : Int32) = isU kd ab := by unfold isU; rw [if_pos (Or.inr (Or.inr ⟨h11, h16⟩))]
          refine aE_iconst (v := 1) dX12_isOf_19 rfl ?_
          refine aE_goto (tgt := 24) dX12_isOf_20 (by decide) ?_
          refine aE_zret dX12_isOf_24 rfl (by first | exact Or.inl rfl | exact Or.inr rfl | exact wi_or _ _ _ | assumption) ⟨by decide, by decide⟩ ?_
          exact a_rio hv rfl

set_option maxRecDepth 20000 in
theorem m_as (v k : Int32) (ns : Nat) (hns : I 101 2 = nI ns) (hs4 : ns ≤ 4) (hB : (wi v 0 (I 101 2 - 1) = 0 ∨ wi k 0 3 = 0) → qi Q (-1000001) (fndM I) sp pl) (hY : ∀ s, s < ns → v = nI s → ¬ wi k 0 3 = 0 → ¬ isU (I 106 s) k = 0 → qi Q (nI s) I sp pl) (hN : ∀ s, s < ns → v = nI s → ¬ wi k 0 3 = 0 → isU (I 106 s) k = 0 → qi Q (-1000003) (fndM I) sp pl) : aRuns mX12_as (rK 2) [.ref 101, .int v, .int k] (nn pl) (MM I sp pl) (Q) := by
  refine aRuns_of pn_X12_as (Nat.le_of_ble_eq_true rfl) (fun z => aE_loc (ls' := [_, _, _]) rfl ?_)
  refine aE_aload_n dX12_as_0 rfl rfl ?_
  refine aE_iload_n dX12_as_1 rfl rfl ?_
  refine aE_cVi dX12_as_2 lk_X12_198 mv_X12_isSchool (c_isSchool _) rfl (lt_nn (by decide)) rfl rfl ⟨by decide, by decide⟩ (Nat.le_of_ble_eq_true rfl) ⟨rfl, rfl⟩ ⟨by decide, by decide⟩ ?_
  refine aE_if_eq (tgt := 17) dX12_as_5 (by decide) (fun h5 => ?_) (fun h5 => ?_)
  · skip
    refine aE_aload_n dX12_as_17 rfl rfl ?_
    refine aE_ldc dX12_as_18 ct_X12_185 ?_
    refine aE_cVi dX12_as_20 lk_X12_177 mv_X12_finds (c_finds _) rfl (lt_nn (by decide)) rfl rfl ⟨by decide, by decide⟩ (Nat.le_of_ble_eq_true rfl) ⟨rfl, rfl⟩ ⟨by decide, by decide⟩ ?_
    refine aE_iret dX12_as_23 rfl ⟨by decide, by decide⟩ ?_
    refine hB ?_
    first | exact Or.inl ‹_› | exact Or.inr ‹_›
  · skip
    refine aE_iload_n dX12_as_8 rfl rfl ?_
    refine aE_iconst (v := 0) dX12_as_9 rfl ?_
    refine aE_iconst (v := 3) dX12_as_10 rfl ?_
    refine aE_cSi dX12_as_11 lk_X12_159 ms_X12_in (c_in _ _ _) rfl rfl ⟨by decide, by decide⟩ (Nat.le_of_ble_eq_true rfl) ⟨rfl, rfl⟩ ⟨by decide, by decide⟩ ?_
    refine aE_if_ne (tgt := 24) dX12_as_14 (by decide) (fun h14 => ?_) (fun h14 => ?_)
    · skip
      obtain ⟨s, hs, rfl⟩ := wi_ix (by omega) (hns ▸ h5)
      have h4 : s < 4 := by omega
      refine aE_aload_n dX12_as_24 rfl rfl ?_
      refine aE_getf (v := .ref 106) dX12_as_25 fw_X12_30 (lt_nn (by decide)) rfl rfl ?_
      refine aE_iload_n dX12_as_28 rfl rfl ?_
      refine aE_ildM dX12_as_29 (lt_nn (by decide)) rfl (by decide) rfl h4 ?_
      refine aE_iload_n dX12_as_30 rfl rfl ?_
      refine aE_cSi dX12_as_31 lk_X12_201 ms_X12_isOf (m_isOf _ _) rfl rfl ⟨by decide, by decide⟩ (Nat.le_of_ble_eq_true rfl) ⟨rfl, rfl⟩ ⟨by decide, by decide⟩ ?_
      refine aE_if_eq (tgt := 41) dX12_as_34 (by decide) (fun h34 => ?_) (fun h34 => ?_)
      · skip
        refine aE_aload_n dX12_as_41 rfl rfl ?_
        refine aE_ldc dX12_as_42 ct_X12_205 ?_
        refine aE_cVi dX12_as_44 lk_X12_177 mv_X12_finds (c_finds _) rfl (lt_nn (by decide)) rfl rfl ⟨by decide, by decide⟩ (Nat.le_of_ble_eq_true rfl) ⟨rfl, rfl⟩ ⟨by decide, by decide⟩ ?_
        refine aE_iret dX12_as_47 rfl ⟨by decide, by decide⟩ ?_
        first | exact hN s hs rfl h14 h34 | exact hY s hs rfl h14 h34
      · skip
        refine aE_iload_n dX12_as_37 rfl rfl ?_
        refine aE_goto (tgt := 47) dX12_as_38 (by decide) ?_
        refine aE_iret dX12_as_47 rfl ⟨by decide, by decide⟩ ?_
        first | exact hN s hs rfl h14 h34 | exact hY s hs rfl h14 h34
    · skip
      refine aE_aload_n dX12_as_17 rfl rfl ?_
      refine aE_ldc dX12_as_18 ct_X12_185 ?_
      refine aE_cVi dX12_as_20 lk_X12_177 mv_X12_finds (c_finds _) rfl (lt_nn (by decide)) rfl rfl ⟨by decide, by decide⟩ (Nat.le_of_ble_eq_true rfl) ⟨rfl, rfl⟩ ⟨by decide, by decide⟩ ?_
      refine aE_iret dX12_as_23 rfl ⟨by decide, by decide⟩ ?_
      refine hB ?_
      first | exact Or.inl ‹_› | exact Or.inr ‹_›

set_option maxRecDepth 20000 in
theorem m_has (S k : Nat) (hS : S < 2 ^ 31) (hk : k < 32) : aRuns mX12_has (rK 0) [.int (nI S), .int (nI k)] n mem (a_ri (if S.testBit k then 1 else 0) n mem) := by
  refine aRuns_of pn_X12_has (Nat.le_of_ble_eq_true rfl) (fun z => aE_loc (ls' := [_, _]) rfl ?_)
  refine aE_iload_n dX12_has_0 rfl rfl ?_
  refine aE_iload_n dX12_has_1 rfl rfl ?_
  refine aE_ishr dX12_has_2 ?_
  refine aE_iconst (v := 1) dX12_has_3 rfl ?_
  refine aE_iand dX12_has_4 ?_
  refine aE_top (nb_has hS hk) ?_
  refine aE_iconst (v := 1) dX12_has_5 rfl ?_
  refine aE_icmp_ne (tgt := 13) dX12_has_6 (by decide) (fun h6 => ?_) (fun h6 => ?_)
  · skip
    have hb : ¬ S.testBit k = true := fun hb => by rw [if_pos hb] at h6; exact absurd rfl h6
    have hv : (0 : Int32) = if S.testBit k then 1 else 0 := by rw [if_neg hb]
    refine aE_iconst (v := 0) dX12_has_13 rfl ?_
    refine aE_zret dX12_has_14 rfl (by first | exact Or.inl rfl | exact Or.inr rfl | exact wi_or _ _ _ | assumption) ⟨by decide, by decide⟩ ?_
    exact a_rio hv rfl
  · skip
    have hb : S.testBit k = true := Classical.byContradiction fun hb => by rw [if_neg hb] at h6; exact absurd h6 (by decide)
    have hv : (1 : Int32) = if S.testBit k then 1 else 0 := by rw [if_pos hb]
    refine aE_iconst (v := 1) dX12_has_9 rfl ?_
    refine aE_goto (tgt := 14) dX12_has_10 (by decide) ?_
    refine aE_zret dX12_has_14 rfl (by first | exact Or.inl rfl | exact Or.inr rfl | exact wi_or _ _ _ | assumption) ⟨by decide, by decide⟩ ?_
    exact a_rio hv rfl

theorem l_mstopsOf (x : Int32) (nst : Nat) (hn : I 101 3 = nI nst) (h10 : nst ≤ 10) (hQ : qi Q (nI (setOf (I 110) x nst)) I sp pl) : ∀ (d k : Nat), k + d = nst → aE z mX12_stopsOf (rK 0) Q 4 [some (.ref 101), some (.int x), some (.int (nI (setOf (I 110) x k))), some (.int (nI k))] [] (nn pl) (MM I sp pl) 0 0 := by
  intro d
  induction d with
  | zero =>
    intro k hk
    have hk : k = nst := by omega
    subst hk
    refine aE_iload_n dX12_stopsOf_4 rfl rfl ?_
    refine aE_aload_n dX12_stopsOf_5 rfl rfl ?_
    refine aE_geti dX12_stopsOf_6 fw_X12_166 (lt_nn (by decide)) rfl (by decide) rfl ?_
    refine aE_icmp_ge (tgt := 38) dX12_stopsOf_9 (by decide) (fun h9 => ?_) (fun h9 => absurd (by rw [hn]; exact Int32.le_refl _) h9)
    refine aE_iload_n dX12_stopsOf_38 rfl rfl ?_
    refine aE_iret dX12_stopsOf_39 rfl ⟨by decide, by decide⟩ ?_
    exact hQ
  | succ d ih =>
    intro k hk
    refine aE_iload_n dX12_stopsOf_4 rfl rfl ?_
    refine aE_aload_n dX12_stopsOf_5 rfl rfl ?_
    refine aE_geti dX12_stopsOf_6 fw_X12_166 (lt_nn (by decide)) rfl (by decide) rfl ?_
    refine aE_icmp_ge (tgt := 38) dX12_stopsOf_9 (by decide) (fun h9 => absurd h9 (by rw [hn]; exact nI_ge (by omega) (by omega))) (fun h9 => ?_)
    refine aE_iload_n dX12_stopsOf_12 rfl rfl ?_
    refine aE_aload_n dX12_stopsOf_13 rfl rfl ?_
    refine aE_getf (v := .ref 110) dX12_stopsOf_14 fw_X12_42 (lt_nn (by decide)) rfl rfl ?_
    refine aE_iload_n dX12_stopsOf_17 rfl rfl ?_
    refine aE_ildM dX12_stopsOf_18 (lt_nn (by decide)) rfl (by decide) rfl (by omega) ?_
    refine aE_iload_n dX12_stopsOf_19 rfl rfl ?_
    refine aE_icmp_ne (tgt := 29) dX12_stopsOf_20 (by decide) (fun h20 => ?_) (fun h20 => ?_)
    · skip
      refine aE_iconst (v := 0) dX12_stopsOf_29 rfl ?_
      refine aE_ior dX12_stopsOf_30 ?_
      first | refine aE_top (x' := nI (setOf (I 110) x (k + 1))) (by rw [nb_or, setOf_s, if_pos h20]) ?_ | refine aE_top (x' := nI (setOf (I 110) x (k + 1))) (by rw [show (0 : Int32) = nI 0 from rfl, nb_or, Nat.or_zero, setOf_s, if_neg h20]) ?_
      refine aE_istore_n dX12_stopsOf_31 rfl (by decide) rfl (aE_loc (ls' := [_, _, _, _]) rfl ?_)
      refine aE_iinc dX12_stopsOf_32 rfl (a_inc _) (by decide) rfl (aE_loc (ls' := [_, _, _, _]) rfl ?_)
      refine aE_goto (tgt := 4) dX12_stopsOf_35 (by decide) ?_
      exact ih (k + 1) (by omega)
    · skip
      refine aE_iconst (v := 1) dX12_stopsOf_23 rfl ?_
      refine aE_iload_n dX12_stopsOf_24 rfl rfl ?_
      refine aE_ishl dX12_stopsOf_25 ?_
      refine aE_top (nb_1shl (by omega)) ?_
      refine aE_goto (tgt := 30) dX12_stopsOf_26 (by decide) ?_
      refine aE_ior dX12_stopsOf_30 ?_
      first | refine aE_top (x' := nI (setOf (I 110) x (k + 1))) (by rw [nb_or, setOf_s, if_pos h20]) ?_ | refine aE_top (x' := nI (setOf (I 110) x (k + 1))) (by rw [show (0 : Int32) = nI 0 from rfl, nb_or, Nat.or_zero, setOf_s, if_neg h20]) ?_
      refine aE_istore_n dX12_stopsOf_31 rfl (by decide) rfl (aE_loc (ls' := [_, _, _, _]) rfl ?_)
      refine aE_iinc dX12_stopsOf_32 rfl (a_inc _) (by decide) rfl (aE_loc (ls' := [_, _, _, _]) rfl ?_)
      refine aE_goto (tgt := 4) dX12_stopsOf_35 (by decide) ?_
      exact ih (k + 1) (by omega)
theorem m_stopsOf (x : Int32) (nst : Nat) (hn : I 101 3 = nI nst) (h10 : nst ≤ 10) : aRuns mX12_stopsOf (rK 0) [.ref 101, .int x] (nn pl) (MM I sp pl) (a_ri (nI (setOf (I 110) x nst)) (nn pl) (MM I sp pl)) := by
  refine aRuns_of pn_X12_stopsOf (Nat.le_of_ble_eq_true rfl) (fun z => aE_loc (ls' := [_, _, _, _]) rfl ?_)
  refine aE_iconst (v := 0) dX12_stopsOf_0 rfl ?_
  refine aE_istore_n dX12_stopsOf_1 rfl (by decide) rfl (aE_loc (ls' := [_, _, _, _]) rfl ?_)
  refine aE_iconst (v := 0) dX12_stopsOf_2 rfl ?_
  refine aE_istore_n dX12_stopsOf_3 rfl (by decide) rfl (aE_loc (ls' := [_, _, _, _]) rfl ?_)
  exact l_mstopsOf x nst hn h10 ⟨rfl, rfl, rfl⟩ nst 0 (by omega)
/-- how many bits below n -/
def onesB (S : Nat) : Nat → Int32
  | 0 => 0
  | k + 1 => onesB S k + (if S.testBit k then 1 else 0)
theorem l_ones (S : Nat) (hS : S < 2 ^ 31) (hQ : Q (some (.int (onesB S 10))) n mem) : ∀ (d k : Nat), k + d = 10 → aE z mX12_ones (rK 0) Q 4 [some (.int (nI S)), some (.int (onesB S k)), some (.int (nI k))] [] n mem 0 0 := by
  intro d
  induction d with
  | zero =>
    intro k hk
    have hk : k = 10 := by omega
    subst hk
    refine aE_iload_n dX12_ones_4 rfl rfl ?_
    refine aE_bipush (v := 10) dX12_ones_5 (by decide) ?_
    refine aE_icmp_ge (tgt := 24) dX12_ones_7 (by decide) (fun h7 => ?_) (fun h7 => absurd (by decide) h7)
    refine aE_iload_n dX12_ones_24 rfl rfl ?_
    refine aE_iret dX12_ones_25 rfl ⟨by decide, by decide⟩ ?_
    exact hQ
  | succ d ih =>
    intro k hk
    refine aE_iload_n dX12_ones_4 rfl rfl ?_
    refine aE_bipush (v := 10) dX12_ones_5 (by decide) ?_
    refine aE_icmp_ge (tgt := 24) dX12_ones_7 (by decide) (fun h7 => absurd h7 (nI_ge (b := 10) (by omega) (by omega))) (fun h7 => ?_)
    refine aE_iload_n dX12_ones_10 rfl rfl ?_
    refine aE_iload_n dX12_ones_11 rfl rfl ?_
    refine aE_iload_n dX12_ones_12 rfl rfl ?_
    refine aE_ishr dX12_ones_13 ?_
    refine aE_iconst (v := 1) dX12_ones_14 rfl ?_
    refine aE_iand dX12_ones_15 ?_
    refine aE_top (nb_has hS (by omega)) ?_
    refine aE_iadd dX12_ones_16 ?_
    refine aE_istore_n dX12_ones_17 rfl (by decide) rfl (aE_loc (ls' := [_, _, _]) rfl ?_)
    refine aE_iinc dX12_ones_18 rfl (a_inc _) (by decide) rfl (aE_loc (ls' := [_, _, _]) rfl ?_)
    refine aE_goto (tgt := 4) dX12_ones_21 (by decide) ?_
    exact ih (k + 1) (by omega)
theorem m_ones (S : Nat) (hS : S < 2 ^ 31) : aRuns mX12_ones (rK 0) [.int (nI S)] n mem (a_ri (onesB S 10) n mem) := by
  refine aRuns_of pn_X12_ones (Nat.le_of_ble_eq_true rfl) (fun z => aE_loc (ls' := [_, _, _]) rfl ?_)
  refine aE_iconst (v := 0) dX12_ones_0 rfl ?_
  refine aE_istore_n dX12_ones_1 rfl (by decide) rfl (aE_loc (ls' := [_, _, _]) rfl ?_)
  refine aE_iconst (v := 0) dX12_ones_2 rfl ?_
  refine aE_istore_n dX12_ones_3 rfl (by decide) rfl (aE_loc (ls' := [_, _, _]) rfl ?_)
  exact l_ones S hS ⟨rfl, rfl, rfl⟩ 10 0 (by omega)
/-- the sum of g over the bits below n -/
def sumB (S : Nat) (g : Nat → Int32) : Nat → Int32
  | 0 => 0
  | k + 1 => sumB S g k + (if S.testBit k then g k else 0)
theorem sumB_s (S : Nat) (g : Nat → Int32) (k : Nat) : sumB S g (k + 1) = sumB S g k + (if S.testBit k then g k else 0) := rfl
theorem l_mpupilsOf (S nst : Nat) (hS : S < 2 ^ 31) (hn : I 101 3 = nI nst) (h10 : nst ≤ 10) (hQ : qi Q (sumB S (I 112) nst) I sp pl) : ∀ (d k : Nat), k + d = nst → aE z mX12_pupilsOf (rK 1) Q 4 [some (.ref 101), some (.int (nI S)), some (.int (sumB S (I 112) k)), some (.int (nI k))] [] (nn pl) (MM I sp pl) 0 0 := by
  intro d
  induction d with
  | zero =>
    intro k hk
    have hk : k = nst := by omega
    subst hk
    refine aE_iload_n dX12_pupilsOf_4 rfl rfl ?_
    refine aE_aload_n dX12_pupilsOf_5 rfl rfl ?_
    refine aE_geti dX12_pupilsOf_6 fw_X12_166 (lt_nn (by decide)) rfl (by decide) rfl ?_
    refine aE_icmp_ge (tgt := 39) dX12_pupilsOf_9 (by decide) (fun h9 => ?_) (fun h9 => absurd (by rw [hn]; exact Int32.le_refl _) h9)
    refine aE_iload_n dX12_pupilsOf_39 rfl rfl ?_
    refine aE_iret dX12_pupilsOf_40 rfl ⟨by decide, by decide⟩ ?_
    exact hQ
  | succ d ih =>
    intro k hk
    refine aE_iload_n dX12_pupilsOf_4 rfl rfl ?_
    refine aE_aload_n dX12_pupilsOf_5 rfl rfl ?_
    refine aE_geti dX12_pupilsOf_6 fw_X12_166 (lt_nn (by decide)) rfl (by decide) rfl ?_
    refine aE_icmp_ge (tgt := 39) dX12_pupilsOf_9 (by decide) (fun h9 => absurd h9 (by rw [hn]; exact nI_ge (by omega) (by omega))) (fun h9 => ?_)
    refine aE_iload_n dX12_pupilsOf_12 rfl rfl ?_
    refine aE_iload_n dX12_pupilsOf_13 rfl rfl ?_
    refine aE_iload_n dX12_pupilsOf_14 rfl rfl ?_
    refine aE_cSi dX12_pupilsOf_15 lk_X12_206 ms_X12_has (m_has S k hS (by omega)) rfl rfl ⟨by decide, by decide⟩ (Nat.le_of_ble_eq_true rfl) ⟨rfl, rfl⟩ ⟨by decide, by decide⟩ ?_
    refine aE_if_eq (tgt := 30) dX12_pupilsOf_18 (by decide) (fun h18 => ?_) (fun h18 => ?_)
    · skip
      refine aE_iconst (v := 0) dX12_pupilsOf_30 rfl ?_
      refine aE_iadd dX12_pupilsOf_31 ?_
      first | refine aE_top (x' := sumB S (I 112) (k + 1)) (by rw [sumB_s, if_neg (fun q => by rw [if_pos q] at h18; exact absurd h18 (by decide))]) ?_ | refine aE_top (x' := sumB S (I 112) (k + 1)) (by rw [sumB_s, if_pos (Classical.byContradiction fun q => by rw [if_neg q] at h18; exact absurd rfl h18)]) ?_
      refine aE_istore_n dX12_pupilsOf_32 rfl (by decide) rfl (aE_loc (ls' := [_, _, _, _]) rfl ?_)
      refine aE_iinc dX12_pupilsOf_33 rfl (a_inc _) (by decide) rfl (aE_loc (ls' := [_, _, _, _]) rfl ?_)
      refine aE_goto (tgt := 4) dX12_pupilsOf_36 (by decide) ?_
      exact ih (k + 1) (by omega)
    · skip
      refine aE_aload_n dX12_pupilsOf_21 rfl rfl ?_
      refine aE_getf (v := .ref 112) dX12_pupilsOf_22 fw_X12_48 (lt_nn (by decide)) rfl rfl ?_
      refine aE_iload_n dX12_pupilsOf_25 rfl rfl ?_
      refine aE_ildM dX12_pupilsOf_26 (lt_nn (by decide)) rfl (by decide) rfl (by omega) ?_
      refine aE_goto (tgt := 31) dX12_pupilsOf_27 (by decide) ?_
      refine aE_iadd dX12_pupilsOf_31 ?_
      first | refine aE_top (x' := sumB S (I 112) (k + 1)) (by rw [sumB_s, if_neg (fun q => by rw [if_pos q] at h18; exact absurd h18 (by decide))]) ?_ | refine aE_top (x' := sumB S (I 112) (k + 1)) (by rw [sumB_s, if_pos (Classical.byContradiction fun q => by rw [if_neg q] at h18; exact absurd rfl h18)]) ?_
      refine aE_istore_n dX12_pupilsOf_32 rfl (by decide) rfl (aE_loc (ls' := [_, _, _, _]) rfl ?_)
      refine aE_iinc dX12_pupilsOf_33 rfl (a_inc _) (by decide) rfl (aE_loc (ls' := [_, _, _, _]) rfl ?_)
      refine aE_goto (tgt := 4) dX12_pupilsOf_36 (by decide) ?_
      exact ih (k + 1) (by omega)
theorem m_pupilsOf (S nst : Nat) (hS : S < 2 ^ 31) (hn : I 101 3 = nI nst) (h10 : nst ≤ 10) : aRuns mX12_pupilsOf (rK 1) [.ref 101, .int (nI S)] (nn pl) (MM I sp pl) (a_ri (sumB S (I 112) nst) (nn pl) (MM I sp pl)) := by
  refine aRuns_of pn_X12_pupilsOf (Nat.le_of_ble_eq_true rfl) (fun z => aE_loc (ls' := [_, _, _, _]) rfl ?_)
  refine aE_iconst (v := 0) dX12_pupilsOf_0 rfl ?_
  refine aE_istore_n dX12_pupilsOf_1 rfl (by decide) rfl (aE_loc (ls' := [_, _, _, _]) rfl ?_)
  refine aE_iconst (v := 0) dX12_pupilsOf_2 rfl ?_
  refine aE_istore_n dX12_pupilsOf_3 rfl (by decide) rfl (aE_loc (ls' := [_, _, _, _]) rfl ?_)
  exact l_mpupilsOf S nst hS hn h10 ⟨rfl, rfl, rfl⟩ nst 0 (by omega)
set_option maxRecDepth 20000 in
theorem m_mayTake (s : Nat) (h4 : s < 4) : aRuns mX12_mayTake (rK 0) [.ref 101, .int (nI s)] (nn pl) (MM I sp pl) (a_ri (if I 106 s = 3 then I 101 8 / 2 else I 101 8) (nn pl) (MM I sp pl)) := by
  refine aRuns_of pn_X12_mayTake (Nat.le_of_ble_eq_true rfl) (fun z => aE_loc (ls' := [_, _]) rfl ?_)
  refine aE_aload_n dX12_mayTake_0 rfl rfl ?_
  refine aE_getf (v := .ref 106) dX12_mayTake_1 fw_X12_30 (lt_nn (by decide)) rfl rfl ?_
  refine aE_iload_n dX12_mayTake_4 rfl rfl ?_
  refine aE_ildM dX12_mayTake_5 (lt_nn (by decide)) rfl (by decide) rfl h4 ?_
  refine aE_iconst (v := 3) dX12_mayTake_6 rfl ?_
  refine aE_icmp_ne (tgt := 19) dX12_mayTake_7 (by decide) (fun h7 => ?_) (fun h7 => ?_)
  · skip
    rw [if_neg h7]
    refine aE_aload_n dX12_mayTake_19 rfl rfl ?_
    refine aE_geti dX12_mayTake_20 fw_X12_13 (lt_nn (by decide)) rfl (by decide) rfl ?_
    refine aE_iret dX12_mayTake_23 rfl ⟨by decide, by decide⟩ ?_
    exact ⟨rfl, rfl, rfl⟩
  · skip
    rw [if_pos h7]
    refine aE_aload_n dX12_mayTake_10 rfl rfl ?_
    refine aE_geti dX12_mayTake_11 fw_X12_13 (lt_nn (by decide)) rfl (by decide) rfl ?_
    refine aE_iconst (v := 2) dX12_mayTake_14 rfl ?_
    refine aE_idiv dX12_mayTake_15 (by decide) ?_
    refine aE_goto (tgt := 23) dX12_mayTake_16 (by decide) ?_
    refine aE_iret dX12_mayTake_23 rfl ⟨by decide, by decide⟩ ?_
    exact ⟨rfl, rfl, rfl⟩

end MB1
