theorem byteM (w : Int64) (s : Int64) : ((w >>> s) &&& 255).toInt32 = (w >>> s).toInt32 &&& 255 := by
  generalize w >>> s = x
  apply Int32.toBitVec_inj.1
  apply BitVec.eq_of_getLsbD_eq
  intro i hi
  rw [Int32.toBitVec_and, BitVec.getLsbD_and, Int64.toBitVec_toInt32, Int64.toBitVec_toInt32, Int64.toBitVec_and]
  rw [BitVec.getLsbD_signExtend, BitVec.getLsbD_signExtend, BitVec.getLsbD_and, if_pos (show i < 64 by omega), if_pos (show i < 64 by omega)]
  simp only [hi, decide_true, Bool.true_and]
  congr 1
section MB3
variable {z : Nat × (Nat → Int32)} {n : Nat} {mem : aM} {I : Nat → Nat → Int32} {sp : Nat → Nat} {pl : Bool} {Q : Option Value → Nat → aM → Prop} {R : Room}
theorem l_mfeed (w : Int64) (tl m : Nat) (htl : I 101 5 = nI tl) (h60 : tl + m ≤ 60) (hQ : qi Q (lenI 117 101 5 I tl w m 101 5) (lenI 117 101 5 I tl w m) sp pl) : ∀ (d k : Nat), k + d = m → aE z mX12_feed (rK 1) Q 38 [some (.ref 101), some (.long w), none, some (.int (nI m)), some (.int (nI k))] [] (nn pl) (MM (lenI 117 101 5 I tl w k) sp pl) 0 0 := by
  intro d
  induction d with
  | zero =>
    intro k hk
    have hk : k = m := by omega
    subst hk
    refine aE_iload dX12_feed_38 rfl ?_
    refine aE_iload_n dX12_feed_40 rfl rfl ?_
    refine aE_icmp_ge (tgt := 81) dX12_feed_41 (by decide) (fun h41 => ?_) (fun h41 => absurd (Int32.le_refl _) h41)
    refine aE_aload_n dX12_feed_81 rfl rfl ?_
    refine aE_geti dX12_feed_82 fw_X12_277 (lt_nn (by decide)) rfl (by decide) rfl ?_
    refine aE_iret dX12_feed_85 rfl ⟨by decide, by decide⟩ ?_
    exact hQ
  | succ d ih =>
    intro k hk
    refine aE_iload dX12_feed_38 rfl ?_
    refine aE_iload_n dX12_feed_40 rfl rfl ?_
    refine aE_icmp_ge (tgt := 81) dX12_feed_41 (by decide) (fun h41 => absurd h41 (nI_ge (by omega) (by omega))) (fun h41 => ?_)
    refine aE_aload_n dX12_feed_44 rfl rfl ?_
    refine aE_getf (v := .ref 117) dX12_feed_45 fw_X12_63 (lt_nn (by decide)) rfl rfl ?_
    refine aE_aload_n dX12_feed_48 rfl rfl ?_
    refine aE_geti dX12_feed_49 fw_X12_277 (lt_nn (by decide)) rfl (by decide) rfl ?_
    refine aE_lload_n dX12_feed_52 rfl rfl ?_
    refine aE_bipush (v := 8) dX12_feed_53 (by decide) ?_
    refine aE_iload dX12_feed_55 rfl ?_
    refine aE_imul dX12_feed_57 ?_
    refine aE_lshr dX12_feed_58 ?_
    refine aE_ldc2 dX12_feed_59 ct_X12_280 ?_
    refine aE_land dX12_feed_62 ?_
    refine aE_l2i dX12_feed_63 ?_
    refine aE_top (x' := byteOf w k) (byteM _ _) ?_
    refine aE_istM dX12_feed_64 (lt_nn (by decide)) rfl (by decide) (lenI_c htl (by decide) k) (show tl + k < 60 by omega) ?_
    refine aE_aload_n dX12_feed_65 rfl rfl ?_
    refine aE_dup dX12_feed_66 rfl ?_
    refine aE_geti dX12_feed_67 fw_X12_277 (lt_nn (by decide)) rfl (by decide) rfl ?_
    refine aE_top (x' := nI (tl + k)) (lenI_c htl (by decide) k) ?_
    refine aE_iconst (v := 1) dX12_feed_70 rfl ?_
    refine aE_iadd dX12_feed_71 ?_
    refine aE_top (nI_1 (tl + k)) ?_
    refine aE_puti dX12_feed_72 fp_X12_277 (Or.inl rfl) (lt_nn (by decide)) rfl (fun _ => ⟨rfl, rfl⟩) (by decide) rfl ?_
    refine aE_iinc dX12_feed_75 rfl (a_inc _) (by decide) rfl (aE_loc (ls' := [_, _, _, _, _]) rfl ?_)
    refine aE_goto (tgt := 38) dX12_feed_78 (by decide) ?_
    exact ih (k + 1) (by omega)
set_option maxRecDepth 20000 in
theorem m_feed (w : Int64) (v : Int32) (tl : Nat) (htl : I 101 5 = nI tl) (htl60 : tl ≤ 60) (hB : wi v 1 8 = 0 → qi Q (-1000001) (fndM I) sp pl) (hF : ∀ m, m ≤ 8 → v = nI m → ¬ wi v 1 8 = 0 → 60 < tl + m → qi Q (-1000002) (fndM I) sp pl) (hO : ∀ m, m ≤ 8 → v = nI m → ¬ wi v 1 8 = 0 → tl + m ≤ 60 → qi Q (nI (tl + m)) (lenI 117 101 5 I tl w m) sp pl) : aRuns mX12_feed (rK 1) [.ref 101, .long w, .int v] (nn pl) (MM I sp pl) (Q) := by
  refine aRuns_of pn_X12_feed (Nat.le_of_ble_eq_true rfl) (fun z => aE_loc (ls' := [_, _, _, _, _]) rfl ?_)
  refine aE_iload_n dX12_feed_0 rfl rfl ?_
  refine aE_iconst (v := 1) dX12_feed_1 rfl ?_
  refine aE_bipush (v := 8) dX12_feed_2 (by decide) ?_
  refine aE_cSi dX12_feed_4 lk_X12_159 ms_X12_in (c_in _ _ _) rfl rfl ⟨by decide, by decide⟩ (Nat.le_of_ble_eq_true rfl) ⟨rfl, rfl⟩ ⟨by decide, by decide⟩ ?_
  refine aE_if_ne (tgt := 17) dX12_feed_7 (by decide) (fun h7 => ?_) (fun h7 => ?_)
  · skip
    obtain ⟨m, hm, rfl⟩ := wi_c (m := 8) (by decide) (M := 8) rfl (v := v) (fun q => h7 (by unfold wi at q ⊢; split at q <;> rename_i w9 <;> first | exact absurd q (by decide) | (rw [if_neg (fun w8 => w9 ⟨Int32.le_trans (by decide) w8.1, w8.2⟩)])))
    refine aE_aload_n dX12_feed_17 rfl rfl ?_
    refine aE_geti dX12_feed_18 fw_X12_277 (lt_nn (by decide)) rfl (by decide) rfl ?_
    refine aE_iload_n dX12_feed_21 rfl rfl ?_
    refine aE_iadd dX12_feed_22 ?_
    refine aE_top (show I 101 5 + nI m = nI (tl + m) by rw [htl, nI_add]) ?_
    refine aE_bipush (v := 60) dX12_feed_23 (by decide) ?_
    refine aE_icmp_le (tgt := 35) dX12_feed_25 (by decide) (fun h25 => ?_) (fun h25 => ?_)
    · skip
      have h60 : tl + m ≤ 60 := by
        rcases Nat.lt_or_ge 60 (tl + m) with q | q
        · exact absurd h25 (nI_ge (a := 60) q (by omega))
        · exact q
      refine aE_iconst (v := 0) dX12_feed_35 rfl ?_
      refine aE_istore dX12_feed_36 (by decide) rfl (aE_loc (ls' := [_, _, _, _, _]) rfl ?_)
      refine l_mfeed w tl m htl h60 ?_ m 0 (by omega)
      rw [lenI_c htl (by decide) m]
      exact hO m hm rfl h7 h60
    · skip
      refine aE_aload_n dX12_feed_28 rfl rfl ?_
      refine aE_ldc dX12_feed_29 ct_X12_176 ?_
      refine aE_cVi dX12_feed_31 lk_X12_177 mv_X12_finds (c_finds _) rfl (lt_nn (by decide)) rfl rfl ⟨by decide, by decide⟩ (Nat.le_of_ble_eq_true rfl) ⟨rfl, rfl⟩ ⟨by decide, by decide⟩ ?_
      refine aE_iret dX12_feed_34 rfl ⟨by decide, by decide⟩ ?_
      exact hF m hm rfl h7 (Nat.lt_of_not_le fun q => h25 (nI_le (b := 60) q (by decide)))
  · skip
    refine aE_aload_n dX12_feed_10 rfl rfl ?_
    refine aE_ldc dX12_feed_11 ct_X12_185 ?_
    refine aE_cVi dX12_feed_13 lk_X12_177 mv_X12_finds (c_finds _) rfl (lt_nn (by decide)) rfl rfl ⟨by decide, by decide⟩ (Nat.le_of_ble_eq_true rfl) ⟨rfl, rfl⟩ ⟨by decide, by decide⟩ ?_
    refine aE_iret dX12_feed_16 rfl ⟨by decide, by decide⟩ ?_
    exact hB h7

set_option maxRecDepth 20000 in
theorem m_letterOf (b : Int32)  : aRuns mX12_letterOf (rK 0) [.int b] n mem (a_ri (kOf b) n mem) := by
  refine aRuns_of pn_X12_letterOf (Nat.le_of_ble_eq_true rfl) (fun z => aE_loc (ls' := [_]) rfl ?_)
  refine aE_iload_n dX12_letterOf_0 rfl rfl ?_
  refine aE_bipush (v := 115) dX12_letterOf_1 (by decide) ?_
  refine aE_icmp_ne (tgt := 10) dX12_letterOf_3 (by decide) (fun h3 => ?_) (fun h3 => ?_)
  · skip
    refine aE_iload_n dX12_letterOf_10 rfl rfl ?_
    refine aE_bipush (v := 108) dX12_letterOf_11 (by decide) ?_
    refine aE_icmp_ne (tgt := 20) dX12_letterOf_13 (by decide) (fun h13 => ?_) (fun h13 => ?_)
    · skip
      refine aE_iload_n dX12_letterOf_20 rfl rfl ?_
      refine aE_bipush (v := 117) dX12_letterOf_21 (by decide) ?_
      refine aE_icmp_ne (tgt := 30) dX12_letterOf_23 (by decide) (fun h23 => ?_) (fun h23 => ?_)
      · skip
        refine aE_iload_n dX12_letterOf_30 rfl rfl ?_
        refine aE_bipush (v := 120) dX12_letterOf_31 (by decide) ?_
        refine aE_icmp_ne (tgt := 40) dX12_letterOf_33 (by decide) (fun h33 => ?_) (fun h33 => ?_)
        · skip
          have hv : (-1 : Int32) = kOf b := by unfold kOf; rw [if_neg h3, if_neg h13, if_neg h23, if_neg h33]
          refine aE_iconst (v := -1) dX12_letterOf_40 rfl ?_
          refine aE_iret dX12_letterOf_41 rfl ⟨by decide, by decide⟩ ?_
          exact a_rio hv rfl
        · skip
          have hv : (3 : Int32) = kOf b := by unfold kOf; rw [if_neg h3, if_neg h13, if_neg h23, if_pos h33]
          refine aE_iconst (v := 3) dX12_letterOf_36 rfl ?_
          refine aE_goto (tgt := 41) dX12_letterOf_37 (by decide) ?_
          refine aE_iret dX12_letterOf_41 rfl ⟨by decide, by decide⟩ ?_
          exact a_rio hv rfl
      · skip
        have hv : (2 : Int32) = kOf b := by unfold kOf; rw [if_neg h3, if_neg h13, if_pos h23]
        refine aE_iconst (v := 2) dX12_letterOf_26 rfl ?_
        refine aE_goto (tgt := 41) dX12_letterOf_27 (by decide) ?_
        refine aE_iret dX12_letterOf_41 rfl ⟨by decide, by decide⟩ ?_
        exact a_rio hv rfl
    · skip
      have hv : (1 : Int32) = kOf b := by unfold kOf; rw [if_neg h3, if_pos h13]
      refine aE_iconst (v := 1) dX12_letterOf_16 rfl ?_
      refine aE_goto (tgt := 41) dX12_letterOf_17 (by decide) ?_
      refine aE_iret dX12_letterOf_41 rfl ⟨by decide, by decide⟩ ?_
      exact a_rio hv rfl
  · skip
    have hv : (0 : Int32) = kOf b := by unfold kOf; rw [if_pos h3]
    refine aE_iconst (v := 0) dX12_letterOf_6 rfl ?_
    refine aE_goto (tgt := 41) dX12_letterOf_7 (by decide) ?_
    refine aE_iret dX12_letterOf_41 rfl ⟨by decide, by decide⟩ ?_
    exact a_rio hv rfl

/-- whether a byte can stand at a place: the model's way -/
def csM (tp : Nat → Int32) (p : Nat) : Int32 := if p % 5 = 0 then (if ¬ kOf (tp p) < 0 ∧ p < 40 then 1 else 0) else if p % 5 = 1 then wi (tp p) 48 54 else if p % 5 = 2 then (if tp p = 45 then 1 else 0) else if p % 5 = 3 then (if ¬ wi (tp p) 48 54 = 0 ∧ tp (p - 2) ≤ tp p then 1 else 0) else (if tp p = 59 then 1 else 0)
theorem csCM (tp : Nat → Int32) (p : Nat) (h : p % 5 = 3 → ¬ wi (tp (p - 2)) 48 54 = 0) : csC tp p = csM tp p := by
  unfold csC csM
  by_cases h0 : p % 5 = 0
  · rw [if_pos h0, if_pos h0]
    by_cases a : p < 40 ∧ ¬ kOf (tp p) < 0
    · rw [if_pos a, if_pos ⟨a.2, a.1⟩]
    · rw [if_neg a, if_neg (fun q => a ⟨q.2, q.1⟩)]
  rw [if_neg h0, if_neg h0]
  by_cases h1 : p % 5 = 1
  · rw [if_pos h1, if_pos h1]
  rw [if_neg h1, if_neg h1]
  by_cases h2 : p % 5 = 2
  · rw [if_pos h2, if_pos h2]
  rw [if_neg h2, if_neg h2]
  by_cases h3 : p % 5 = 3
  · rw [if_pos h3, if_pos h3]
    have hw := wi_1 (h h3)
    by_cases a : tp (p - 2) ≤ tp p ∧ tp p ≤ 54
    · have e : ¬ wi (tp p) 48 54 = 0 := by
        unfold wi; rw [if_pos ⟨Int32.le_trans hw.1 a.1, a.2⟩]; decide
      rw [if_pos ⟨e, a.1⟩]
      unfold wi; rw [if_pos a]
    · rw [if_neg (fun q => a ⟨q.2, (wi_1 q.1).2⟩)]
      unfold wi; rw [if_neg a]
  rw [if_neg h3, if_neg h3]
theorem m_mayStand (p : Nat) (hp : p < 60) : aRuns mX12_mayStand (rK 1) [.ref 101, .int (nI p)] (nn pl) (MM I sp pl) (a_ri (csM (I 117) p) (nn pl) (MM I sp pl)) := by
  refine aRuns_of pn_X12_mayStand (Nat.le_of_ble_eq_true rfl) (fun z => aE_loc (ls' := [_, _, _]) rfl ?_)
  refine aE_aload_n dX12_mayStand_0 rfl rfl ?_
  refine aE_getf (v := .ref 117) dX12_mayStand_1 fw_X12_63 (lt_nn (by decide)) rfl rfl ?_
  refine aE_iload_n dX12_mayStand_4 rfl rfl ?_
  refine aE_ildM dX12_mayStand_5 (lt_nn (by decide)) rfl (by decide) rfl hp ?_
  refine aE_istore_n dX12_mayStand_6 rfl (by decide) rfl (aE_loc (ls' := [_, _, _]) rfl ?_)
  refine aE_iload_n dX12_mayStand_7 rfl rfl ?_
  refine aE_iconst (v := 5) dX12_mayStand_8 rfl ?_
  refine aE_irem dX12_mayStand_9 (by decide) ?_
  refine aE_top (a_rem5 (by omega)) ?_
  rcases (show p % 5 = 0 ∨ p % 5 = 1 ∨ p % 5 = 2 ∨ p % 5 = 3 ∨ p % 5 = 4 by omega) with h5 | h5 | h5 | h5 | h5
  · rw [h5]
    refine aE_tableIn (off := 30) (tgt := 40) dX12_mayStand_10 (by decide) (by decide) rfl (by decide) ?_
    have e : csM (I 117) p = if ¬ kOf (I 117 p) < 0 ∧ p < 40 then 1 else 0 := by unfold csM; rw [if_pos h5]
    rw [e]
    refine aE_iload_n dX12_mayStand_40 rfl rfl ?_
    refine aE_cSi dX12_mayStand_41 lk_X12_282 ms_X12_letterOf (m_letterOf _) rfl rfl ⟨by decide, by decide⟩ (Nat.le_of_ble_eq_true rfl) ⟨rfl, rfl⟩ ⟨by decide, by decide⟩ ?_
    refine aE_if_lt (tgt := 57) dX12_mayStand_44 (by decide) (fun h44 => ?_) (fun h44 => ?_)
    · skip
      rw [if_neg (fun q => q.1 h44)]
      refine aE_iconst (v := 0) dX12_mayStand_57 rfl ?_
      refine aE_zret dX12_mayStand_58 rfl (by first | exact Or.inl rfl | exact Or.inr rfl | exact wi_or _ _ _ | assumption) ⟨by decide, by decide⟩ ?_
      exact ⟨rfl, rfl, rfl⟩
    · skip
      refine aE_iload_n dX12_mayStand_47 rfl rfl ?_
      refine aE_bipush (v := 40) dX12_mayStand_48 (by decide) ?_
      refine aE_icmp_ge (tgt := 57) dX12_mayStand_50 (by decide) (fun h50 => ?_) (fun h50 => ?_)
      · skip
        rw [if_neg (fun q => absurd h50 (nI_ge q.2 (by decide)))]
        refine aE_iconst (v := 0) dX12_mayStand_57 rfl ?_
        refine aE_zret dX12_mayStand_58 rfl (by first | exact Or.inl rfl | exact Or.inr rfl | exact wi_or _ _ _ | assumption) ⟨by decide, by decide⟩ ?_
        exact ⟨rfl, rfl, rfl⟩
      · skip
        rw [if_pos ⟨h44, Nat.lt_of_not_le fun q => h50 (nI_le q (by omega))⟩]
        refine aE_iconst (v := 1) dX12_mayStand_53 rfl ?_
        refine aE_goto (tgt := 58) dX12_mayStand_54 (by decide) ?_
        refine aE_zret dX12_mayStand_58 rfl (by first | exact Or.inl rfl | exact Or.inr rfl | exact wi_or _ _ _ | assumption) ⟨by decide, by decide⟩ ?_
        exact ⟨rfl, rfl, rfl⟩
  · rw [h5]
    refine aE_tableIn (off := 49) (tgt := 59) dX12_mayStand_10 (by decide) (by decide) rfl (by decide) ?_
    have e : csM (I 117) p = wi (I 117 p) 48 54 := by unfold csM; rw [if_neg (by omega), if_pos h5]
    rw [e]
    refine aE_iload_n dX12_mayStand_59 rfl rfl ?_
    refine aE_bipush (v := 48) dX12_mayStand_60 (by decide) ?_
    refine aE_bipush (v := 54) dX12_mayStand_62 (by decide) ?_
    refine aE_cSi dX12_mayStand_64 lk_X12_159 ms_X12_in (c_in _ _ _) rfl rfl ⟨by decide, by decide⟩ (Nat.le_of_ble_eq_true rfl) ⟨rfl, rfl⟩ ⟨by decide, by decide⟩ ?_
    refine aE_zret dX12_mayStand_67 rfl (by first | exact Or.inl rfl | exact Or.inr rfl | exact wi_or _ _ _ | assumption) ⟨by decide, by decide⟩ ?_
    exact ⟨rfl, rfl, rfl⟩
  · rw [h5]
    refine aE_tableIn (off := 58) (tgt := 68) dX12_mayStand_10 (by decide) (by decide) rfl (by decide) ?_
    have e : csM (I 117) p = if I 117 p = 45 then 1 else 0 := by unfold csM; rw [if_neg (by omega), if_neg (by omega), if_pos h5]
    rw [e]
    refine aE_iload_n dX12_mayStand_68 rfl rfl ?_
    refine aE_bipush (v := 45) dX12_mayStand_69 (by decide) ?_
    refine aE_icmp_ne (tgt := 78) dX12_mayStand_71 (by decide) (fun h71 => ?_) (fun h71 => ?_)
    · skip
      rw [if_neg h71]
      refine aE_iconst (v := 0) dX12_mayStand_78 rfl ?_
      refine aE_zret dX12_mayStand_79 rfl (by first | exact Or.inl rfl | exact Or.inr rfl | exact wi_or _ _ _ | assumption) ⟨by decide, by decide⟩ ?_
      exact ⟨rfl, rfl, rfl⟩
    · skip
      rw [if_pos h71]
      refine aE_iconst (v := 1) dX12_mayStand_74 rfl ?_
      refine aE_goto (tgt := 79) dX12_mayStand_75 (by decide) ?_
      refine aE_zret dX12_mayStand_79 rfl (by first | exact Or.inl rfl | exact Or.inr rfl | exact wi_or _ _ _ | assumption) ⟨by decide, by decide⟩ ?_
      exact ⟨rfl, rfl, rfl⟩
  · rw [h5]
    refine aE_tableIn (off := 70) (tgt := 80) dX12_mayStand_10 (by decide) (by decide) rfl (by decide) ?_
    have e : csM (I 117) p = if ¬ wi (I 117 p) 48 54 = 0 ∧ I 117 (p - 2) ≤ I 117 p then 1 else 0 := by unfold csM; rw [if_neg (by omega), if_neg (by omega), if_neg (by omega), if_pos h5]
    rw [e]
    refine aE_iload_n dX12_mayStand_80 rfl rfl ?_
    refine aE_bipush (v := 48) dX12_mayStand_81 (by decide) ?_
    refine aE_bipush (v := 54) dX12_mayStand_83 (by decide) ?_
    refine aE_cSi dX12_mayStand_85 lk_X12_159 ms_X12_in (c_in _ _ _) rfl rfl ⟨by decide, by decide⟩ (Nat.le_of_ble_eq_true rfl) ⟨rfl, rfl⟩ ⟨by decide, by decide⟩ ?_
    refine aE_if_eq (tgt := 107) dX12_mayStand_88 (by decide) (fun h88 => ?_) (fun h88 => ?_)
    · skip
      rw [if_neg (fun q => q.1 h88)]
      refine aE_iconst (v := 0) dX12_mayStand_107 rfl ?_
      refine aE_zret dX12_mayStand_108 rfl (by first | exact Or.inl rfl | exact Or.inr rfl | exact wi_or _ _ _ | assumption) ⟨by decide, by decide⟩ ?_
      exact ⟨rfl, rfl, rfl⟩
    · skip
      refine aE_iload_n dX12_mayStand_91 rfl rfl ?_
      refine aE_aload_n dX12_mayStand_92 rfl rfl ?_
      refine aE_getf (v := .ref 117) dX12_mayStand_93 fw_X12_63 (lt_nn (by decide)) rfl rfl ?_
      refine aE_iload_n dX12_mayStand_96 rfl rfl ?_
      refine aE_iconst (v := 2) dX12_mayStand_97 rfl ?_
      refine aE_isub dX12_mayStand_98 ?_
      refine aE_ildM dX12_mayStand_99 (lt_nn (by decide)) rfl (by decide) (pk_sub (a := p) (b := 2) (by omega)) (by omega) ?_
      refine aE_icmp_lt (tgt := 107) dX12_mayStand_100 (by decide) (fun h100 => ?_) (fun h100 => ?_)
      · skip
        rw [if_neg (fun q => Int32.not_lt.mpr q.2 h100)]
        refine aE_iconst (v := 0) dX12_mayStand_107 rfl ?_
        refine aE_zret dX12_mayStand_108 rfl (by first | exact Or.inl rfl | exact Or.inr rfl | exact wi_or _ _ _ | assumption) ⟨by decide, by decide⟩ ?_
        exact ⟨rfl, rfl, rfl⟩
      · skip
        rw [if_pos ⟨h88, Int32.not_lt.mp h100⟩]
        refine aE_iconst (v := 1) dX12_mayStand_103 rfl ?_
        refine aE_goto (tgt := 108) dX12_mayStand_104 (by decide) ?_
        refine aE_zret dX12_mayStand_108 rfl (by first | exact Or.inl rfl | exact Or.inr rfl | exact wi_or _ _ _ | assumption) ⟨by decide, by decide⟩ ?_
        exact ⟨rfl, rfl, rfl⟩
  · rw [h5]
    refine aE_tableOut (tgt := 109) dX12_mayStand_10 (by decide) (by decide) ?_
    have e : csM (I 117) p = if I 117 p = 59 then 1 else 0 := by unfold csM; rw [if_neg (by omega), if_neg (by omega), if_neg (by omega), if_neg (by omega)]
    rw [e]
    refine aE_iload_n dX12_mayStand_109 rfl rfl ?_
    refine aE_bipush (v := 59) dX12_mayStand_110 (by decide) ?_
    refine aE_icmp_ne (tgt := 119) dX12_mayStand_112 (by decide) (fun h112 => ?_) (fun h112 => ?_)
    · skip
      rw [if_neg h112]
      refine aE_iconst (v := 0) dX12_mayStand_119 rfl ?_
      refine aE_zret dX12_mayStand_120 rfl (by first | exact Or.inl rfl | exact Or.inr rfl | exact wi_or _ _ _ | assumption) ⟨by decide, by decide⟩ ?_
      exact ⟨rfl, rfl, rfl⟩
    · skip
      rw [if_pos h112]
      refine aE_iconst (v := 1) dX12_mayStand_115 rfl ?_
      refine aE_goto (tgt := 120) dX12_mayStand_116 (by decide) ?_
      refine aE_zret dX12_mayStand_120 rfl (by first | exact Or.inl rfl | exact Or.inr rfl | exact wi_or _ _ _ | assumption) ⟨by decide, by decide⟩ ?_
      exact ⟨rfl, rfl, rfl⟩
theorem l_mtext2 (m : Nat) (x : Int32) (h8 : m ≤ 8) (hQ : qi Q (nI m) (ano (adI 114 115 116 117 (iu I 101 4 (nI m)) m)) sp pl) : ∀ (d k : Nat), k + d = m → aE z mX12_text (rK 2) Q 66 [some (.ref 101), some (.int x), some (.int (nI k))] [] (nn pl) (MM (adI 114 115 116 117 (iu I 101 4 (nI m)) k) sp pl) 0 0 := by
  intro d
  induction d with
  | zero =>
    intro k hk
    have hk : k = m := by omega
    subst hk
    refine aE_iload_n dX12_text_66 rfl rfl ?_
    refine aE_aload_n dX12_text_67 rfl rfl ?_
    refine aE_geti dX12_text_68 fw_X12_289 (lt_nn (by decide)) rfl (by decide) rfl ?_
    refine aE_icmp_ge (tgt := 135) dX12_text_71 (by decide) (fun h71 => ?_) (fun h71 => absurd (by rw [(show adI 114 115 116 117 (iu I 101 4 (nI k)) k 101 4 = nI k from (adI_ne (by decide) k).trans iu_eq)]; exact Int32.le_refl _) h71)
    refine aE_aload_n dX12_text_135 rfl rfl ?_
    refine aE_cVv dX12_text_136 lk_X12_189 mv_X12_another (c_another ) rfl (lt_nn (by decide)) rfl rfl ⟨by decide, by decide⟩ (Nat.le_of_ble_eq_true rfl) ⟨rfl, rfl⟩ ⟨by decide, by decide⟩ ?_
    refine aE_aload_n dX12_text_139 rfl rfl ?_
    refine aE_geti dX12_text_140 fw_X12_289 (lt_nn (by decide)) rfl (by decide) rfl ?_
    refine aE_top (x' := nI k) ((adI_ne (by decide) k).trans iu_eq) ?_
    refine aE_iret dX12_text_143 rfl ⟨by decide, by decide⟩ ?_
    exact hQ
  | succ d ih =>
    intro k hk
    refine aE_iload_n dX12_text_66 rfl rfl ?_
    refine aE_aload_n dX12_text_67 rfl rfl ?_
    refine aE_geti dX12_text_68 fw_X12_289 (lt_nn (by decide)) rfl (by decide) rfl ?_
    refine aE_icmp_ge (tgt := 135) dX12_text_71 (by decide) (fun h71 => absurd h71 (by rw [(show adI 114 115 116 117 (iu I 101 4 (nI m)) k 101 4 = nI m from (adI_ne (by decide) k).trans iu_eq)]; exact nI_ge (by omega) (by omega))) (fun h71 => ?_)
    refine aE_aload_n dX12_text_74 rfl rfl ?_
    refine aE_getf (v := .ref 114) dX12_text_75 fw_X12_54 (lt_nn (by decide)) rfl rfl ?_
    refine aE_iload_n dX12_text_78 rfl rfl ?_
    refine aE_aload_n dX12_text_79 rfl rfl ?_
    refine aE_getf (v := .ref 117) dX12_text_80 fw_X12_63 (lt_nn (by decide)) rfl rfl ?_
    refine aE_iconst (v := 5) dX12_text_83 rfl ?_
    refine aE_iload_n dX12_text_84 rfl rfl ?_
    refine aE_imul dX12_text_85 ?_
    refine aE_top (x' := nI (5 * k)) (by rw [show (5 : Int32) = nI 5 from rfl, pk_mul]) ?_
    refine aE_ildM dX12_text_86 (lt_nn (by decide)) rfl (by decide) rfl (by omega) ?_
    refine aE_top (x' := (iu I 101 4 (nI m)) 117 (5 * k)) (by first | exact adI_ne (by decide) k | (rw [iu_ne (by omega)]; exact adI_ne (by decide) k) | (rw [iu_ne (by omega), iu_ne (by omega)]; exact adI_ne (by decide) k)) ?_
    refine aE_cSi dX12_text_87 lk_X12_282 ms_X12_letterOf (m_letterOf _) rfl rfl ⟨by decide, by decide⟩ (Nat.le_of_ble_eq_true rfl) ⟨rfl, rfl⟩ ⟨by decide, by decide⟩ ?_
    refine aE_istM dX12_text_90 (lt_nn (by decide)) rfl (by decide) rfl (by omega) ?_
    refine aE_aload_n dX12_text_91 rfl rfl ?_
    refine aE_getf (v := .ref 115) dX12_text_92 fw_X12_57 (lt_nn (by decide)) rfl rfl ?_
    refine aE_iload_n dX12_text_95 rfl rfl ?_
    refine aE_aload_n dX12_text_96 rfl rfl ?_
    refine aE_getf (v := .ref 117) dX12_text_97 fw_X12_63 (lt_nn (by decide)) rfl rfl ?_
    refine aE_iconst (v := 5) dX12_text_100 rfl ?_
    refine aE_iload_n dX12_text_101 rfl rfl ?_
    refine aE_imul dX12_text_102 ?_
    refine aE_top (x' := nI (5 * k)) (by rw [show (5 : Int32) = nI 5 from rfl, pk_mul]) ?_
    refine aE_iconst (v := 1) dX12_text_103 rfl ?_
    refine aE_iadd dX12_text_104 ?_
    refine aE_top (nI_1 (5 * k)) ?_
    refine aE_ildM dX12_text_105 (lt_nn (by decide)) rfl (by decide) rfl (by omega) ?_
    refine aE_top (x' := (iu I 101 4 (nI m)) 117 (5 * k + 1)) (by first | exact adI_ne (by decide) k | (rw [iu_ne (by omega)]; exact adI_ne (by decide) k) | (rw [iu_ne (by omega), iu_ne (by omega)]; exact adI_ne (by decide) k)) ?_
    refine aE_bipush (v := 48) dX12_text_106 (by decide) ?_
    refine aE_isub dX12_text_108 ?_
    refine aE_istM dX12_text_109 (lt_nn (by decide)) rfl (by decide) rfl (by omega) ?_
    refine aE_aload_n dX12_text_110 rfl rfl ?_
    refine aE_getf (v := .ref 116) dX12_text_111 fw_X12_60 (lt_nn (by decide)) rfl rfl ?_
    refine aE_iload_n dX12_text_114 rfl rfl ?_
    refine aE_aload_n dX12_text_115 rfl rfl ?_
    refine aE_getf (v := .ref 117) dX12_text_116 fw_X12_63 (lt_nn (by decide)) rfl rfl ?_
    refine aE_iconst (v := 5) dX12_text_119 rfl ?_
    refine aE_iload_n dX12_text_120 rfl rfl ?_
    refine aE_imul dX12_text_121 ?_
    refine aE_top (x' := nI (5 * k)) (by rw [show (5 : Int32) = nI 5 from rfl, pk_mul]) ?_
    refine aE_iconst (v := 3) dX12_text_122 rfl ?_
    refine aE_iadd dX12_text_123 ?_
    refine aE_top (x' := nI (5 * k + 3)) (nI_add (5 * k) 3) ?_
    refine aE_ildM dX12_text_124 (lt_nn (by decide)) rfl (by decide) rfl (by omega) ?_
    refine aE_top (x' := (iu I 101 4 (nI m)) 117 (5 * k + 3)) (by first | exact adI_ne (by decide) k | (rw [iu_ne (by omega)]; exact adI_ne (by decide) k) | (rw [iu_ne (by omega), iu_ne (by omega)]; exact adI_ne (by decide) k)) ?_
    refine aE_bipush (v := 48) dX12_text_125 (by decide) ?_
    refine aE_isub dX12_text_127 ?_
    refine aE_istM dX12_text_128 (lt_nn (by decide)) rfl (by decide) rfl (by omega) ?_
    refine aE_iinc dX12_text_129 rfl (a_inc _) (by decide) rfl (aE_loc (ls' := [_, _, _]) rfl ?_)
    refine aE_goto (tgt := 66) dX12_text_132 (by decide) ?_
    exact ih (k + 1) (by omega)
theorem l_mtext (tl : Nat) (h60 : tl ≤ 60) (hW : ∀ p, p < tl → csM (I 117) p = 0 → (∀ q, q < p → ¬ csM (I 117) q = 0) → qi Q (-1000100 - nI p) (fndM I) sp pl) (hX : (∀ q, q < tl → ¬ csM (I 117) q = 0) → ¬ tl % 5 = 0 → qi Q (-1000100 - nI tl) (fndM I) sp pl) (hO : (∀ q, q < tl → ¬ csM (I 117) q = 0) → tl % 5 = 0 → tl / 5 ≤ 8 → qi Q (nI (tl / 5)) (ano (adI 114 115 116 117 (iu I 101 4 (nI (tl / 5))) (tl / 5))) sp pl) : ∀ (d k : Nat), k + d = tl → (∀ q, q < k → ¬ csM (I 117) q = 0) → aE z mX12_text (rK 2) Q 12 [some (.ref 101), some (.int (nI tl)), some (.int (nI k))] [] (nn pl) (MM I sp pl) 0 0 := by
  intro d
  induction d with
  | zero =>
    intro k hk hall
    have hk : k = tl := by omega
    subst hk
    refine aE_iload_n dX12_text_12 rfl rfl ?_
    refine aE_iload_n dX12_text_13 rfl rfl ?_
    refine aE_icmp_ge (tgt := 41) dX12_text_14 (by decide) (fun h14 => ?_) (fun h14 => absurd (Int32.le_refl _) h14)
    refine aE_iload_n dX12_text_41 rfl rfl ?_
    refine aE_iconst (v := 5) dX12_text_42 rfl ?_
    refine aE_irem dX12_text_43 (by decide) ?_
    refine aE_top (a_rem5 (by omega)) ?_
    refine aE_if_eq (tgt := 57) dX12_text_44 (by decide) (fun h44 => ?_) (fun h44 => ?_)
    · skip
      have h5 : k % 5 = 0 := by
        rcases (show k % 5 = 0 ∨ k % 5 = 1 ∨ k % 5 = 2 ∨ k % 5 = 3 ∨ k % 5 = 4 by omega) with q | q | q | q | q <;> first | exact q | (rw [q] at h44; exact absurd h44 (by decide))
      have h8 : k / 5 ≤ 8 := by
        rcases Nat.lt_or_ge 40 k with q | q
        · refine absurd ?_ (hall 40 q)
          unfold csM; rw [if_pos (by decide), if_neg (by omega)]
        · omega
      refine aE_aload_n dX12_text_57 rfl rfl ?_
      refine aE_iload_n dX12_text_58 rfl rfl ?_
      refine aE_iconst (v := 5) dX12_text_59 rfl ?_
      refine aE_idiv dX12_text_60 (by decide) ?_
      refine aE_top (x' := nI (k / 5)) (pk_div (a := k) (d := 5) (by omega) (by decide) (by decide)) ?_
      refine aE_puti dX12_text_61 fp_X12_289 (Or.inl rfl) (lt_nn (by decide)) rfl (fun _ => ⟨rfl, rfl⟩) (by decide) rfl ?_
      refine aE_iconst (v := 0) dX12_text_64 rfl ?_
      refine aE_istore_n dX12_text_65 rfl (by decide) rfl (aE_loc (ls' := [_, _, _]) rfl ?_)
      exact l_mtext2 (k / 5) _ h8 (hO hall h5 h8) (k / 5) 0 (by omega)
    · skip
      refine aE_aload_n dX12_text_47 rfl rfl ?_
      refine aE_ldcw dX12_text_48 ct_X12_288 ?_
      refine aE_iload_n dX12_text_51 rfl rfl ?_
      refine aE_isub dX12_text_52 ?_
      refine aE_cVi dX12_text_53 lk_X12_177 mv_X12_finds (c_finds _) rfl (lt_nn (by decide)) rfl rfl ⟨by decide, by decide⟩ (Nat.le_of_ble_eq_true rfl) ⟨rfl, rfl⟩ ⟨by decide, by decide⟩ ?_
      refine aE_iret dX12_text_56 rfl ⟨by decide, by decide⟩ ?_
      exact hX hall (fun q => h44 (by rw [q]; rfl))
  | succ d ih =>
    intro k hk hall
    refine aE_iload_n dX12_text_12 rfl rfl ?_
    refine aE_iload_n dX12_text_13 rfl rfl ?_
    refine aE_icmp_ge (tgt := 41) dX12_text_14 (by decide) (fun h14 => absurd h14 (nI_ge (by omega) (by omega))) (fun h14 => ?_)
    refine aE_aload_n dX12_text_17 rfl rfl ?_
    refine aE_iload_n dX12_text_18 rfl rfl ?_
    refine aE_cVi dX12_text_19 lk_X12_285 mv_X12_mayStand (m_mayStand _ (by omega)) rfl (lt_nn (by decide)) rfl rfl ⟨by decide, by decide⟩ (Nat.le_of_ble_eq_true rfl) ⟨rfl, rfl⟩ ⟨by decide, by decide⟩ ?_
    refine aE_if_ne (tgt := 35) dX12_text_22 (by decide) (fun h22 => ?_) (fun h22 => ?_)
    · skip
      refine aE_iinc dX12_text_35 rfl (a_inc _) (by decide) rfl (aE_loc (ls' := [_, _, _]) rfl ?_)
      refine aE_goto (tgt := 12) dX12_text_38 (by decide) ?_
      exact ih (k + 1) (by omega) (fun q hq => by rcases Nat.lt_or_ge q k with w | w; exact hall q w; rw [show q = k by omega]; exact h22)
    · skip
      refine aE_aload_n dX12_text_25 rfl rfl ?_
      refine aE_ldcw dX12_text_26 ct_X12_288 ?_
      refine aE_iload_n dX12_text_29 rfl rfl ?_
      refine aE_isub dX12_text_30 ?_
      refine aE_cVi dX12_text_31 lk_X12_177 mv_X12_finds (c_finds _) rfl (lt_nn (by decide)) rfl rfl ⟨by decide, by decide⟩ (Nat.le_of_ble_eq_true rfl) ⟨rfl, rfl⟩ ⟨by decide, by decide⟩ ?_
      refine aE_iret dX12_text_34 rfl ⟨by decide, by decide⟩ ?_
      exact hW k (by omega) h22 hall
theorem m_text (tl : Nat) (htl : I 101 5 = nI tl) (h60 : tl ≤ 60) (hW : ∀ p, p < tl → csM (I 117) p = 0 → (∀ q, q < p → ¬ csM (I 117) q = 0) → qi Q (-1000100 - nI p) (fndM (iu I 101 5 0)) sp pl) (hX : (∀ q, q < tl → ¬ csM (I 117) q = 0) → ¬ tl % 5 = 0 → qi Q (-1000100 - nI tl) (fndM (iu I 101 5 0)) sp pl) (hO : (∀ q, q < tl → ¬ csM (I 117) q = 0) → tl % 5 = 0 → tl / 5 ≤ 8 → qi Q (nI (tl / 5)) (ano (adI 114 115 116 117 (iu (iu I 101 5 0) 101 4 (nI (tl / 5))) (tl / 5))) sp pl) : aRuns mX12_text (rK 2) [.ref 101] (nn pl) (MM I sp pl) Q := by
  refine aRuns_of pn_X12_text (Nat.le_of_ble_eq_true rfl) (fun z => aE_loc (ls' := [_, _, _]) rfl ?_)
  refine aE_aload_n dX12_text_0 rfl rfl ?_
  refine aE_geti dX12_text_1 fw_X12_277 (lt_nn (by decide)) rfl (by decide) rfl ?_
  refine aE_top htl ?_
  refine aE_istore_n dX12_text_4 rfl (by decide) rfl (aE_loc (ls' := [_, _, _]) rfl ?_)
  refine aE_aload_n dX12_text_5 rfl rfl ?_
  refine aE_iconst (v := 0) dX12_text_6 rfl ?_
  refine aE_puti dX12_text_7 fp_X12_277 (Or.inl rfl) (lt_nn (by decide)) rfl (fun _ => ⟨rfl, rfl⟩) (by decide) rfl ?_
  refine aE_iconst (v := 0) dX12_text_10 rfl ?_
  refine aE_istore_n dX12_text_11 rfl (by decide) rfl (aE_loc (ls' := [_, _, _]) rfl ?_)
  exact l_mtext (I := iu I 101 5 0) tl h60 hW hX hO tl 0 (by omega) (fun q hq => absurd hq (by omega))
theorem l_isAllowed (s nr : Nat) (b : Int32) (h4 : s < 4) (hr : I 101 4 = nI nr) (h8 : nr ≤ 8) (hQ : qi Q (permV (I 106 s) b (I 114) (I 115) (I 116) nr) I sp pl) : ∀ (d k : Nat), k + d = nr → permV (I 106 s) b (I 114) (I 115) (I 116) k = 1 → aE z mX12_isAllowed (rK 1) Q 2 [some (.ref 101), some (.int (nI s)), some (.int b), some (.int (nI k))] [] (nn pl) (MM I sp pl) 0 0 := by
  intro d
  induction d with
  | zero =>
    intro k hk2 hp
    have hk2 : k = nr := by omega
    subst hk2
    refine aE_iload_n dX12_isAllowed_2 rfl rfl ?_
    refine aE_aload_n dX12_isAllowed_3 rfl rfl ?_
    refine aE_geti dX12_isAllowed_4 fw_X12_289 (lt_nn (by decide)) rfl (by decide) rfl ?_
    refine aE_icmp_ge (tgt := 55) dX12_isAllowed_7 (by decide) (fun h7 => ?_) (fun h7 => absurd (by rw [hr]; exact Int32.le_refl _) h7)
    refine aE_iconst (v := 1) dX12_isAllowed_55 rfl ?_
    refine aE_zret dX12_isAllowed_56 rfl (by first | exact Or.inl rfl | exact Or.inr rfl | exact wi_or _ _ _ | assumption) ⟨by decide, by decide⟩ ?_
    rw [hp] at hQ; exact hQ
  | succ d ih =>
    intro k hk2 hp
    have hs : permV (I 106 s) b (I 114) (I 115) (I 116) (k + 1) = if isU (I 106 s) (I 114 k) = 0 then 1 else wi b (I 115 k) (I 116 k) := by
      show (if permV (I 106 s) b (I 114) (I 115) (I 116) k = 0 then 0 else _) = _
      rw [hp, if_neg (by decide)]
    refine aE_iload_n dX12_isAllowed_2 rfl rfl ?_
    refine aE_aload_n dX12_isAllowed_3 rfl rfl ?_
    refine aE_geti dX12_isAllowed_4 fw_X12_289 (lt_nn (by decide)) rfl (by decide) rfl ?_
    refine aE_icmp_ge (tgt := 55) dX12_isAllowed_7 (by decide) (fun h7 => absurd h7 (by rw [hr]; exact nI_ge (by omega) (by omega))) (fun h7 => ?_)
    refine aE_aload_n dX12_isAllowed_10 rfl rfl ?_
    refine aE_getf (v := .ref 106) dX12_isAllowed_11 fw_X12_30 (lt_nn (by decide)) rfl rfl ?_
    refine aE_iload_n dX12_isAllowed_14 rfl rfl ?_
    refine aE_ildM dX12_isAllowed_15 (lt_nn (by decide)) rfl (by decide) rfl h4 ?_
    refine aE_aload_n dX12_isAllowed_16 rfl rfl ?_
    refine aE_getf (v := .ref 114) dX12_isAllowed_17 fw_X12_54 (lt_nn (by decide)) rfl rfl ?_
    refine aE_iload_n dX12_isAllowed_20 rfl rfl ?_
    refine aE_ildM dX12_isAllowed_21 (lt_nn (by decide)) rfl (by decide) rfl (by omega) ?_
    refine aE_cSi dX12_isAllowed_22 lk_X12_201 ms_X12_isOf (m_isOf _ _) rfl rfl ⟨by decide, by decide⟩ (Nat.le_of_ble_eq_true rfl) ⟨rfl, rfl⟩ ⟨by decide, by decide⟩ ?_
    refine aE_if_eq (tgt := 49) dX12_isAllowed_25 (by decide) (fun h25 => ?_) (fun h25 => ?_)
    · skip
      refine aE_iinc dX12_isAllowed_49 rfl (a_inc _) (by decide) rfl (aE_loc (ls' := [_, _, _, _]) rfl ?_)
      refine aE_goto (tgt := 2) dX12_isAllowed_52 (by decide) ?_
      first | exact ih (k + 1) (by omega) (by rw [hs, if_pos h25]) | exact ih (k + 1) (by omega) (by rw [hs, if_neg h25]; exact (wi_or _ _ _).resolve_left h44)
    · skip
      refine aE_iload_n dX12_isAllowed_28 rfl rfl ?_
      refine aE_aload_n dX12_isAllowed_29 rfl rfl ?_
      refine aE_getf (v := .ref 115) dX12_isAllowed_30 fw_X12_57 (lt_nn (by decide)) rfl rfl ?_
      refine aE_iload_n dX12_isAllowed_33 rfl rfl ?_
      refine aE_ildM dX12_isAllowed_34 (lt_nn (by decide)) rfl (by decide) rfl (by omega) ?_
      refine aE_aload_n dX12_isAllowed_35 rfl rfl ?_
      refine aE_getf (v := .ref 116) dX12_isAllowed_36 fw_X12_60 (lt_nn (by decide)) rfl rfl ?_
      refine aE_iload_n dX12_isAllowed_39 rfl rfl ?_
      refine aE_ildM dX12_isAllowed_40 (lt_nn (by decide)) rfl (by decide) rfl (by omega) ?_
      refine aE_cSi dX12_isAllowed_41 lk_X12_159 ms_X12_in (c_in _ _ _) rfl rfl ⟨by decide, by decide⟩ (Nat.le_of_ble_eq_true rfl) ⟨rfl, rfl⟩ ⟨by decide, by decide⟩ ?_
      refine aE_if_ne (tgt := 49) dX12_isAllowed_44 (by decide) (fun h44 => ?_) (fun h44 => ?_)
      · skip
        refine aE_iinc dX12_isAllowed_49 rfl (a_inc _) (by decide) rfl (aE_loc (ls' := [_, _, _, _]) rfl ?_)
        refine aE_goto (tgt := 2) dX12_isAllowed_52 (by decide) ?_
        first | exact ih (k + 1) (by omega) (by rw [hs, if_pos h25]) | exact ih (k + 1) (by omega) (by rw [hs, if_neg h25]; exact (wi_or _ _ _).resolve_left h44)
      · skip
        refine aE_iconst (v := 0) dX12_isAllowed_47 rfl ?_
        refine aE_zret dX12_isAllowed_48 rfl (by first | exact Or.inl rfl | exact Or.inr rfl | exact wi_or _ _ _ | assumption) ⟨by decide, by decide⟩ ?_
        have e : permV (I 106 s) b (I 114) (I 115) (I 116) nr = 0 := by
          rw [show nr = (k + 1) + d by omega]
          exact permV_0 d (by rw [hs, if_neg h25, h44])
        rw [e] at hQ
        exact hQ
theorem m_isAllowed (s nr : Nat) (b : Int32) (h4 : s < 4) (hr : I 101 4 = nI nr) (h8 : nr ≤ 8) : aRuns mX12_isAllowed (rK 1) [.ref 101, .int (nI s), .int b] (nn pl) (MM I sp pl) (a_ri (permV (I 106 s) b (I 114) (I 115) (I 116) nr) (nn pl) (MM I sp pl)) := by
  refine aRuns_of pn_X12_isAllowed (Nat.le_of_ble_eq_true rfl) (fun z => aE_loc (ls' := [_, _, _, _]) rfl ?_)
  refine aE_iconst (v := 0) dX12_isAllowed_0 rfl ?_
  refine aE_istore_n dX12_isAllowed_1 rfl (by decide) rfl (aE_loc (ls' := [_, _, _, _]) rfl ?_)
  exact l_isAllowed s nr b h4 hr h8 ⟨rfl, rfl, rfl⟩ nr 0 (by omega) rfl
set_option maxRecDepth 20000 in
theorem m_allowed (v b : Int32) (ns nr : Nat) (hns : I 101 2 = nI ns) (hs4 : ns ≤ 4) (hr : I 101 4 = nI nr) (h8 : nr ≤ 8) (hB : (wi v 0 (I 101 2 - 1) = 0 ∨ wi b 0 6 = 0) → qi Q (-1000001) (fndM I) sp pl) (hO : ∀ s, s < ns → v = nI s → ¬ wi b 0 6 = 0 → qi Q (permV (I 106 s) b (I 114) (I 115) (I 116) nr) I sp pl) : aRuns mX12_allowed (rK 2) [.ref 101, .int v, .int b] (nn pl) (MM I sp pl) (Q) := by
  refine aRuns_of pn_X12_allowed (Nat.le_of_ble_eq_true rfl) (fun z => aE_loc (ls' := [_, _, _]) rfl ?_)
  refine aE_aload_n dX12_allowed_0 rfl rfl ?_
  refine aE_iload_n dX12_allowed_1 rfl rfl ?_
  refine aE_cVi dX12_allowed_2 lk_X12_198 mv_X12_isSchool (c_isSchool _) rfl (lt_nn (by decide)) rfl rfl ⟨by decide, by decide⟩ (Nat.le_of_ble_eq_true rfl) ⟨rfl, rfl⟩ ⟨by decide, by decide⟩ ?_
  refine aE_if_eq (tgt := 18) dX12_allowed_5 (by decide) (fun h5 => ?_) (fun h5 => ?_)
  · skip
    refine aE_aload_n dX12_allowed_18 rfl rfl ?_
    refine aE_ldc dX12_allowed_19 ct_X12_185 ?_
    refine aE_cVi dX12_allowed_21 lk_X12_177 mv_X12_finds (c_finds _) rfl (lt_nn (by decide)) rfl rfl ⟨by decide, by decide⟩ (Nat.le_of_ble_eq_true rfl) ⟨rfl, rfl⟩ ⟨by decide, by decide⟩ ?_
    refine aE_iret dX12_allowed_24 rfl ⟨by decide, by decide⟩ ?_
    refine hB ?_
    first | exact Or.inl ‹_› | exact Or.inr ‹_›
  · skip
    refine aE_iload_n dX12_allowed_8 rfl rfl ?_
    refine aE_iconst (v := 0) dX12_allowed_9 rfl ?_
    refine aE_bipush (v := 6) dX12_allowed_10 (by decide) ?_
    refine aE_cSi dX12_allowed_12 lk_X12_159 ms_X12_in (c_in _ _ _) rfl rfl ⟨by decide, by decide⟩ (Nat.le_of_ble_eq_true rfl) ⟨rfl, rfl⟩ ⟨by decide, by decide⟩ ?_
    refine aE_if_ne (tgt := 25) dX12_allowed_15 (by decide) (fun h15 => ?_) (fun h15 => ?_)
    · skip
      obtain ⟨s, hs, rfl⟩ := wi_ix (by omega) (hns ▸ h5)
      have h4 : s < 4 := by omega
      refine aE_aload_n dX12_allowed_25 rfl rfl ?_
      refine aE_iload_n dX12_allowed_26 rfl rfl ?_
      refine aE_iload_n dX12_allowed_27 rfl rfl ?_
      refine aE_cVi dX12_allowed_28 lk_X12_292 mv_X12_isAllowed (m_isAllowed s nr b h4 hr h8) rfl (lt_nn (by decide)) rfl rfl ⟨by decide, by decide⟩ (Nat.le_of_ble_eq_true rfl) ⟨rfl, rfl⟩ ⟨by decide, by decide⟩ ?_
      refine aE_if_eq (tgt := 38) dX12_allowed_31 (by decide) (fun h31 => ?_) (fun h31 => ?_)
      · skip
        have hv : (0 : Int32) = permV (I 106 s) b (I 114) (I 115) (I 116) nr := h31.symm
        refine aE_iconst (v := 0) dX12_allowed_38 rfl ?_
        refine aE_iret dX12_allowed_39 rfl ⟨by decide, by decide⟩ ?_
        rw [hv]; exact hO s hs rfl h15
      · skip
        have hv : (1 : Int32) = permV (I 106 s) b (I 114) (I 115) (I 116) nr := ((permV_or _ _ _ _ _ _).resolve_left h31).symm
        refine aE_iconst (v := 1) dX12_allowed_34 rfl ?_
        refine aE_goto (tgt := 39) dX12_allowed_35 (by decide) ?_
        refine aE_iret dX12_allowed_39 rfl ⟨by decide, by decide⟩ ?_
        rw [hv]; exact hO s hs rfl h15
    · skip
      refine aE_aload_n dX12_allowed_18 rfl rfl ?_
      refine aE_ldc dX12_allowed_19 ct_X12_185 ?_
      refine aE_cVi dX12_allowed_21 lk_X12_177 mv_X12_finds (c_finds _) rfl (lt_nn (by decide)) rfl rfl ⟨by decide, by decide⟩ (Nat.le_of_ble_eq_true rfl) ⟨rfl, rfl⟩ ⟨by decide, by decide⟩ ?_
      refine aE_iret dX12_allowed_24 rfl ⟨by decide, by decide⟩ ?_
      refine hB ?_
      first | exact Or.inl ‹_› | exact Or.inr ‹_›

def ataI (I : Nat → Nat → Int32) : Nat → Nat → Nat → Int32
  | 0 => I
  | k + 1 => iu (ataI I k) 132 k (I 108 k)
theorem ataI_ne {I : Nat → Nat → Int32} {q i : Nat} (h : q ≠ 132) : ∀ k, ataI I k q i = I q i
  | 0 => rfl
  | k + 1 => by simp only [ataI]; rw [iu_ne (Or.inl h)]; exact ataI_ne h k
theorem ataI_at {I : Nat → Nat → Int32} : ∀ k i, i < k → ataI I k 132 i = I 108 i
  | 0, i, h => absurd h (by omega)
  | k + 1, i, h => by
    simp only [ataI]
    by_cases e : i = k
    · subst e; exact iu_eq
    · rw [iu_ne (Or.inr e)]; exact ataI_at k i (by omega)
theorem l_ata (hQ : Q none (nn pl) (MM (ataI I 4) sp pl)) : ∀ (d k : Nat), k + d = 4 → aE z mX12_asTheyAre (rK 0) Q 2 [some (.ref 101), some (.int (nI k))] [] (nn pl) (MM (ataI I k) sp pl) 0 0 := by
  intro d
  induction d with
  | zero =>
    intro k hk
    have hk : k = 4 := by omega
    subst hk
    refine aE_iload_n dX12_asTheyAre_2 rfl rfl ?_
    refine aE_iconst (v := 4) dX12_asTheyAre_3 rfl ?_
    refine aE_icmp_ge (tgt := 25) dX12_asTheyAre_4 (by decide) (fun h4 => ?_) (fun h4 => absurd (by decide) h4)
    refine aE_vret dX12_asTheyAre_25 rfl ⟨by decide, by decide⟩ ?_
    exact hQ
  | succ d ih =>
    intro k hk
    refine aE_iload_n dX12_asTheyAre_2 rfl rfl ?_
    refine aE_iconst (v := 4) dX12_asTheyAre_3 rfl ?_
    refine aE_icmp_ge (tgt := 25) dX12_asTheyAre_4 (by decide) (fun h4 => absurd h4 (nI_ge (b := 4) (by omega) (by omega))) (fun h4 => ?_)
    refine aE_aload_n dX12_asTheyAre_7 rfl rfl ?_
    refine aE_getf (v := .ref 132) dX12_asTheyAre_8 fw_X12_108 (lt_nn (by decide)) rfl rfl ?_
    refine aE_iload_n dX12_asTheyAre_11 rfl rfl ?_
    refine aE_aload_n dX12_asTheyAre_12 rfl rfl ?_
    refine aE_getf (v := .ref 108) dX12_asTheyAre_13 fw_X12_36 (lt_nn (by decide)) rfl rfl ?_
    refine aE_iload_n dX12_asTheyAre_16 rfl rfl ?_
    refine aE_ildM dX12_asTheyAre_17 (lt_nn (by decide)) rfl (by decide) rfl (by omega) ?_
    refine aE_top (x' := I 108 k) (ataI_ne (by decide) k) ?_
    refine aE_istM dX12_asTheyAre_18 (lt_nn (by decide)) rfl (by decide) rfl (by omega) ?_
    refine aE_iinc dX12_asTheyAre_19 rfl (a_inc _) (by decide) rfl (aE_loc (ls' := [_, _]) rfl ?_)
    refine aE_goto (tgt := 2) dX12_asTheyAre_22 (by decide) ?_
    exact ih (k + 1) (by omega)
theorem m_ata : aRuns mX12_asTheyAre (rK 0) [.ref 101] (nn pl) (MM I sp pl) (a_rv (nn pl) (MM (ataI I 4) sp pl)) := by
  refine aRuns_of pn_X12_asTheyAre (Nat.le_of_ble_eq_true rfl) (fun z => aE_loc (ls' := [_, _]) rfl ?_)
  refine aE_iconst (v := 0) dX12_asTheyAre_0 rfl ?_
  refine aE_istore_n dX12_asTheyAre_1 rfl (by decide) rfl (aE_loc (ls' := [_, _]) rfl ?_)
  exact l_ata ⟨rfl, rfl, rfl⟩ 4 0 (by omega)
theorem l_mcostOf (ns nst : Nat) (hns : I 101 2 = nI ns) (hs4 : ns ≤ 4) (hn : I 101 3 = nI nst) (h10 : nst ≤ 10) (hQ : qi Q (cSum (fun s => cOne (sumB (setOf (I 110) (nI s) nst) (I 112) nst) (I 132 s) (I 109 s)) ns) I sp pl) : ∀ (d k : Nat) (acc x : Int32), k + d = ns → acc = cSum (fun s => cOne (sumB (setOf (I 110) (nI s) nst) (I 112) nst) (I 132 s) (I 109 s)) k → ∀ ls3, aE z mX12_costOf (rK 2) Q 4 [some (.ref 101), some (.int acc), some (.int (nI k)), ls3] [] (nn pl) (MM I sp pl) 0 0 := by
  intro d
  induction d with
  | zero =>
    intro k acc x hk hacc ls3
    have hk : k = ns := by omega
    subst hk
    refine aE_iload_n dX12_costOf_4 rfl rfl ?_
    refine aE_aload_n dX12_costOf_5 rfl rfl ?_
    refine aE_geti dX12_costOf_6 fw_X12_163 (lt_nn (by decide)) rfl (by decide) rfl ?_
    refine aE_icmp_ge (tgt := 58) dX12_costOf_9 (by decide) (fun h9 => ?_) (fun h9 => absurd (by rw [hns]; exact Int32.le_refl _) h9)
    refine aE_iload_n dX12_costOf_58 rfl rfl ?_
    refine aE_iret dX12_costOf_59 rfl ⟨by decide, by decide⟩ ?_
    rw [hacc]; exact hQ
  | succ d ih =>
    intro k acc x hk hacc ls3
    refine aE_iload_n dX12_costOf_4 rfl rfl ?_
    refine aE_aload_n dX12_costOf_5 rfl rfl ?_
    refine aE_geti dX12_costOf_6 fw_X12_163 (lt_nn (by decide)) rfl (by decide) rfl ?_
    refine aE_icmp_ge (tgt := 58) dX12_costOf_9 (by decide) (fun h9 => absurd h9 (by rw [hns]; exact nI_ge (by omega) (by omega))) (fun h9 => ?_)
    refine aE_aload_n dX12_costOf_12 rfl rfl ?_
    refine aE_getf (v := .ref 132) dX12_costOf_13 fw_X12_108 (lt_nn (by decide)) rfl rfl ?_
    refine aE_iload_n dX12_costOf_16 rfl rfl ?_
    refine aE_ildM dX12_costOf_17 (lt_nn (by decide)) rfl (by decide) rfl (by omega) ?_
    refine aE_aload_n dX12_costOf_18 rfl rfl ?_
    refine aE_getf (v := .ref 109) dX12_costOf_19 fw_X12_39 (lt_nn (by decide)) rfl rfl ?_
    refine aE_iload_n dX12_costOf_22 rfl rfl ?_
    refine aE_ildM dX12_costOf_23 (lt_nn (by decide)) rfl (by decide) rfl (by omega) ?_
    refine aE_isub dX12_costOf_24 ?_
    refine aE_istore_n dX12_costOf_25 rfl (by decide) rfl (aE_loc (ls' := [_, _, _, _]) rfl ?_)
    refine aE_iload_n dX12_costOf_26 rfl rfl ?_
    refine aE_bipush (v := 20) dX12_costOf_27 (by decide) ?_
    refine aE_aload_n dX12_costOf_29 rfl rfl ?_
    refine aE_aload_n dX12_costOf_30 rfl rfl ?_
    refine aE_iload_n dX12_costOf_31 rfl rfl ?_
    refine aE_cVi dX12_costOf_32 lk_X12_209 mv_X12_stopsOf (m_stopsOf (nI k) nst hn h10) rfl (lt_nn (by decide)) rfl rfl ⟨by decide, by decide⟩ (Nat.le_of_ble_eq_true rfl) ⟨rfl, rfl⟩ ⟨by decide, by decide⟩ ?_
    refine aE_cVi dX12_costOf_35 lk_X12_215 mv_X12_pupilsOf (m_pupilsOf _ nst (Nat.lt_of_lt_of_le (setOf_lt _ _ _) (Nat.le_trans (pow10' h10) (by decide))) hn h10) rfl (lt_nn (by decide)) rfl rfl ⟨by decide, by decide⟩ (Nat.le_of_ble_eq_true rfl) ⟨rfl, rfl⟩ ⟨by decide, by decide⟩ ?_
    refine aE_imul dX12_costOf_38 ?_
    refine aE_iload_n dX12_costOf_39 rfl rfl ?_
    refine aE_if_ge (tgt := 48) dX12_costOf_40 (by decide) (fun h40 => ?_) (fun h40 => ?_)
    · skip
      refine aE_iload_n dX12_costOf_48 rfl rfl ?_
      refine aE_imul dX12_costOf_49 ?_
      refine aE_iadd dX12_costOf_50 ?_
      refine aE_istore_n dX12_costOf_51 rfl (by decide) rfl (aE_loc (ls' := [_, _, _, _]) rfl ?_)
      refine aE_iinc dX12_costOf_52 rfl (a_inc _) (by decide) rfl (aE_loc (ls' := [_, _, _, _]) rfl ?_)
      refine aE_goto (tgt := 4) dX12_costOf_55 (by decide) ?_
      first | exact ih (k + 1) _ 0 (by omega) (by rw [hacc]; show _ = cSum _ k + cOne _ _ _; unfold cOne; rw [if_pos h40]) _ | exact ih (k + 1) _ 0 (by omega) (by rw [hacc]; show _ = cSum _ k + cOne _ _ _; unfold cOne; rw [if_neg h40, Int32.zero_sub]) _
    · skip
      refine aE_iload_n dX12_costOf_43 rfl rfl ?_
      refine aE_ineg dX12_costOf_44 ?_
      refine aE_goto (tgt := 49) dX12_costOf_45 (by decide) ?_
      refine aE_imul dX12_costOf_49 ?_
      refine aE_iadd dX12_costOf_50 ?_
      refine aE_istore_n dX12_costOf_51 rfl (by decide) rfl (aE_loc (ls' := [_, _, _, _]) rfl ?_)
      refine aE_iinc dX12_costOf_52 rfl (a_inc _) (by decide) rfl (aE_loc (ls' := [_, _, _, _]) rfl ?_)
      refine aE_goto (tgt := 4) dX12_costOf_55 (by decide) ?_
      first | exact ih (k + 1) _ 0 (by omega) (by rw [hacc]; show _ = cSum _ k + cOne _ _ _; unfold cOne; rw [if_pos h40]) _ | exact ih (k + 1) _ 0 (by omega) (by rw [hacc]; show _ = cSum _ k + cOne _ _ _; unfold cOne; rw [if_neg h40, Int32.zero_sub]) _
theorem m_costOf (ns nst : Nat) (hns : I 101 2 = nI ns) (hs4 : ns ≤ 4) (hn : I 101 3 = nI nst) (h10 : nst ≤ 10) : aRuns mX12_costOf (rK 2) [.ref 101] (nn pl) (MM I sp pl) (a_ri (cSum (fun s => cOne (sumB (setOf (I 110) (nI s) nst) (I 112) nst) (I 132 s) (I 109 s)) ns) (nn pl) (MM I sp pl)) := by
  refine aRuns_of pn_X12_costOf (Nat.le_of_ble_eq_true rfl) (fun z => aE_loc (ls' := [_, _, _, _]) rfl ?_)
  refine aE_iconst (v := 0) dX12_costOf_0 rfl ?_
  refine aE_istore_n dX12_costOf_1 rfl (by decide) rfl (aE_loc (ls' := [_, _, _, _]) rfl ?_)
  refine aE_iconst (v := 0) dX12_costOf_2 rfl ?_
  refine aE_istore_n dX12_costOf_3 rfl (by decide) rfl (aE_loc (ls' := [_, _, _, _]) rfl ?_)
  exact l_mcostOf ns nst hns hs4 hn h10 ⟨rfl, rfl, rfl⟩ ns 0 0 0 (by omega) rfl none
theorem cSum_congr {f g : Nat → Int32} : ∀ n, (∀ s, s < n → f s = g s) → cSum f n = cSum g n
  | 0, _ => rfl
  | n + 1, h => by
    show cSum f n + f n = cSum g n + g n
    rw [cSum_congr n (fun s hs => h s (by omega)), h n (by omega)]
set_option maxRecDepth 20000 in
theorem m_cost (ns nst : Nat) (hns : I 101 2 = nI ns) (hs4 : ns ≤ 4) (hn : I 101 3 = nI nst) (h10 : nst ≤ 10) : aRuns mX12_cost (rK 3) [.ref 101] (nn pl) (MM I sp pl) (a_ri (cSum (fun s => cOne (sumB (setOf (I 110) (nI s) nst) (I 112) nst) (I 108 s) (I 109 s)) ns) (nn pl) (MM (ataI I 4) sp pl)) := by
  refine aRuns_of pn_X12_cost (Nat.le_of_ble_eq_true rfl) (fun z => aE_loc (ls' := [_]) rfl ?_)
  refine aE_aload_n dX12_cost_0 rfl rfl ?_
  refine aE_cVv dX12_cost_1 lk_X12_262 mv_X12_asTheyAre (m_ata) rfl (lt_nn (by decide)) rfl rfl ⟨by decide, by decide⟩ (Nat.le_of_ble_eq_true rfl) ⟨rfl, rfl⟩ ⟨by decide, by decide⟩ ?_
  refine aE_aload_n dX12_cost_4 rfl rfl ?_
  refine aE_cVi dX12_cost_5 lk_X12_295 mv_X12_costOf (m_costOf (I := ataI I 4) ns nst ((ataI_ne (by decide) 4).trans hns) hs4 ((ataI_ne (by decide) 4).trans hn) h10) rfl (lt_nn (by decide)) rfl rfl ⟨by decide, by decide⟩ (Nat.le_of_ble_eq_true rfl) ⟨rfl, rfl⟩ ⟨by decide, by decide⟩ ?_
  refine aE_iret dX12_cost_8 rfl ⟨by decide, by decide⟩ ?_
  refine a_rio (cSum_congr ns (fun s hs => ?_)) rfl
  have e1 : ataI I 4 110 = I 110 := funext fun i => ataI_ne (by decide) 4
  have e2 : ataI I 4 112 = I 112 := funext fun i => ataI_ne (by decide) 4
  rw [e1, e2, ataI_at 4 s (by omega), ataI_ne (by decide) 4]

end MB3
