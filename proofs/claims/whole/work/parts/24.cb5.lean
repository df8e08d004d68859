/-- byte i of a word -/
def byteOf (w : Int64) (i : Nat) : Int32 := (w >>> ((8 * nI i).toInt64 &&& 63)).toInt32 &&& 255
def lenI (a b c : Nat) (I : Nat → Nat → Int32) (tl : Nat) (w : Int64) : Nat → Nat → Nat → Int32
  | 0 => I
  | k + 1 => iu (iu (lenI a b c I tl w k) a (tl + k) (byteOf w k)) b c (nI (tl + k + 1))
theorem lenI_c {a b c : Nat} {I : Nat → Nat → Int32} {tl : Nat} {w : Int64} (h : I b c = nI tl) (_hab : a ≠ b) : ∀ k, lenI a b c I tl w k b c = nI (tl + k)
  | 0 => h
  | k + 1 => by simp only [lenI, iu_eq]; rfl
section CB5
variable {z : Nat × (Nat → Int32)} {n : Nat} {mem : aM} {I : Nat → Nat → Int32} {sp : Nat → Nat} {pl : Bool} {Q : Option Value → Nat → aM → Prop} {R : Room}
theorem l_lengthen (w : Int64) (tl m : Nat) (htl : I 75 0 = nI tl) (h60 : tl + m ≤ 60) (hQ : qi Q (lenI 76 75 0 I tl w m 75 0) (lenI 76 75 0 I tl w m) sp pl) : ∀ (d k : Nat), k + d = m → aE z mX6_lengthen (rK 0) Q 3 [some (.ref 75), some (.long w), none, some (.int (nI m)), some (.int (nI k))] [] (nn pl) (MM (lenI 76 75 0 I tl w k) sp pl) 0 0 := by
  intro d
  induction d with
  | zero =>
    intro k hk
    have hk : k = m := by omega
    subst hk
    refine aE_iload dX6_lengthen_3 rfl ?_
    refine aE_iload_n dX6_lengthen_5 rfl rfl ?_
    refine aE_icmp_ge (tgt := 46) dX6_lengthen_6 (by decide) (fun h6 => ?_) (fun h6 => absurd (Int32.le_refl _) h6)
    refine aE_aload_n dX6_lengthen_46 rfl rfl ?_
    refine aE_geti dX6_lengthen_47 fw_X6_24 (lt_nn (by decide)) rfl (by decide) rfl ?_
    refine aE_iret dX6_lengthen_50 rfl ⟨by decide, by decide⟩ ?_
    exact hQ
  | succ d ih =>
    intro k hk
    refine aE_iload dX6_lengthen_3 rfl ?_
    refine aE_iload_n dX6_lengthen_5 rfl rfl ?_
    refine aE_icmp_ge (tgt := 46) dX6_lengthen_6 (by decide) (fun h6 => absurd h6 (nI_ge (by omega) (by omega))) (fun h6 => ?_)
    refine aE_aload_n dX6_lengthen_9 rfl rfl ?_
    refine aE_getf (v := .ref 76) dX6_lengthen_10 fw_X6_9 (lt_nn (by decide)) rfl rfl ?_
    refine aE_aload_n dX6_lengthen_13 rfl rfl ?_
    refine aE_geti dX6_lengthen_14 fw_X6_24 (lt_nn (by decide)) rfl (by decide) rfl ?_
    refine aE_lload_n dX6_lengthen_17 rfl rfl ?_
    refine aE_bipush (v := 8) dX6_lengthen_18 (by decide) ?_
    refine aE_iload dX6_lengthen_20 rfl ?_
    refine aE_imul dX6_lengthen_22 ?_
    refine aE_lshr dX6_lengthen_23 ?_
    refine aE_l2i dX6_lengthen_24 ?_
    refine aE_sipush (v := 255) dX6_lengthen_25 (by decide) ?_
    refine aE_iand dX6_lengthen_28 ?_
    refine aE_top (x' := byteOf w k) rfl ?_
    refine aE_istM dX6_lengthen_29 (lt_nn (by decide)) rfl (by decide) (lenI_c htl (by decide) k) (show tl + k < 60 by omega) ?_
    refine aE_aload_n dX6_lengthen_30 rfl rfl ?_
    refine aE_dup dX6_lengthen_31 rfl ?_
    refine aE_geti dX6_lengthen_32 fw_X6_24 (lt_nn (by decide)) rfl (by decide) rfl ?_
    refine aE_top (x' := nI (tl + k)) (lenI_c htl (by decide) k) ?_
    refine aE_iconst (v := 1) dX6_lengthen_35 rfl ?_
    refine aE_iadd dX6_lengthen_36 ?_
    refine aE_top (nI_1 (tl + k)) ?_
    refine aE_puti dX6_lengthen_37 fp_X6_24 (Or.inl rfl) (lt_nn (by decide)) rfl (fun _ => ⟨rfl, rfl⟩) (by decide) rfl ?_
    refine aE_iinc dX6_lengthen_40 rfl (a_inc _) (by decide) rfl (aE_loc (ls' := [_, _, _, _, _]) rfl ?_)
    refine aE_goto (tgt := 3) dX6_lengthen_43 (by decide) ?_
    exact ih (k + 1) (by omega)
theorem c_lengthen (w : Int64) (tl m : Nat) (htl : I 75 0 = nI tl) (h60 : tl + m ≤ 60) : aRuns mX6_lengthen (rK 0) [.ref 75, .long w, .int (nI m)] (nn pl) (MM I sp pl) (a_ri (nI (tl + m)) (nn pl) (MM (lenI 76 75 0 I tl w m) sp pl)) := by
  refine aRuns_of pn_X6_lengthen (Nat.le_of_ble_eq_true rfl) (fun z => aE_loc (ls' := [_, _, _, _, _]) rfl ?_)
  refine aE_iconst (v := 0) dX6_lengthen_0 rfl ?_
  refine aE_istore dX6_lengthen_1 (by decide) rfl (aE_loc (ls' := [_, _, _, _, _]) rfl ?_)
  exact l_lengthen w tl m htl h60 (a_rio (lenI_c htl (by decide) m) rfl) m 0 (by omega)
set_option maxRecDepth 20000 in
theorem c_feed (w : Int64) (v : Int32) (tl : Nat) (htl : I 75 0 = nI tl) (htl60 : tl ≤ 60) (hB : wi v 1 8 = 0 → qi Q (-1000001) (fnd I) sp pl) (hF : ∀ m, m ≤ 8 → v = nI m → ¬ wi v 1 8 = 0 → 60 < tl + m → qi Q (-1000002) (fnd I) sp pl) (hO : ∀ m, m ≤ 8 → v = nI m → ¬ wi v 1 8 = 0 → tl + m ≤ 60 → qi Q (nI (tl + m)) (lenI 76 75 0 I tl w m) sp pl) : aRuns mX11_feed (rK 1) [.ref 0, .long w, .int v] (nn pl) (MM I sp pl) (Q) := by
  refine aRuns_of pn_X11_feed (Nat.le_of_ble_eq_true rfl) (fun z => aE_loc (ls' := [_, _, _, _]) rfl ?_)
  refine aE_iload_n dX11_feed_0 rfl rfl ?_
  refine aE_iconst (v := 1) dX11_feed_1 rfl ?_
  refine aE_bipush (v := 8) dX11_feed_2 (by decide) ?_
  refine aE_cSi dX11_feed_4 lk_X11_74 ms_X11_within (c_within _ _ _) rfl rfl ⟨by decide, by decide⟩ (Nat.le_of_ble_eq_true rfl) ⟨rfl, rfl⟩ ⟨by decide, by decide⟩ ?_
  refine aE_if_ne (tgt := 17) dX11_feed_7 (by decide) (fun h7 => ?_) (fun h7 => ?_)
  · skip
    obtain ⟨m, hm, rfl⟩ := wi_c (m := 8) (by decide) (M := 8) rfl (v := v) (fun q => h7 (by unfold wi at q ⊢; split at q <;> rename_i w9 <;> first | exact absurd q (by decide) | (rw [if_neg (fun w8 => w9 ⟨Int32.le_trans (by decide) w8.1, w8.2⟩)])))
    refine aE_aload_n dX11_feed_17 rfl rfl ?_
    refine aE_getf (v := .ref 75) dX11_feed_18 fw_X11_26 (lt_nn (by decide)) rfl rfl ?_
    refine aE_geti dX11_feed_21 fw_X11_239 (lt_nn (by decide)) rfl (by decide) rfl ?_
    refine aE_iload_n dX11_feed_24 rfl rfl ?_
    refine aE_iadd dX11_feed_25 ?_
    refine aE_top (show I 75 0 + nI m = nI (tl + m) by rw [htl, nI_add]) ?_
    refine aE_bipush (v := 60) dX11_feed_26 (by decide) ?_
    refine aE_icmp_le (tgt := 38) dX11_feed_28 (by decide) (fun h28 => ?_) (fun h28 => ?_)
    · skip
      refine aE_aload_n dX11_feed_38 rfl rfl ?_
      refine aE_getf (v := .ref 75) dX11_feed_39 fw_X11_26 (lt_nn (by decide)) rfl rfl ?_
      refine aE_lload_n dX11_feed_42 rfl rfl ?_
      refine aE_iload_n dX11_feed_43 rfl rfl ?_
      have h60 : tl + m ≤ 60 := by
        rcases Nat.lt_or_ge 60 (tl + m) with q | q
        · exact absurd h28 (nI_ge (a := 60) q (by omega))
        · exact q
      refine aE_cVi dX11_feed_44 lk_X11_242 mv_X6_lengthen (c_lengthen w tl m htl h60) rfl (lt_nn (by decide)) rfl rfl ⟨by decide, by decide⟩ (Nat.le_of_ble_eq_true rfl) ⟨rfl, rfl⟩ ⟨by decide, by decide⟩ ?_
      refine aE_iret dX11_feed_47 rfl ⟨by decide, by decide⟩ ?_
      exact hO m hm rfl h7 h60
    · skip
      refine aE_aload_n dX11_feed_31 rfl rfl ?_
      refine aE_ldc dX11_feed_32 ct_X11_61 ?_
      refine aE_cVi dX11_feed_34 lk_X11_62 mv_X11_found (c_found _) rfl (lt_nn (by decide)) rfl rfl ⟨by decide, by decide⟩ (Nat.le_of_ble_eq_true rfl) ⟨rfl, rfl⟩ ⟨by decide, by decide⟩ ?_
      refine aE_iret dX11_feed_37 rfl ⟨by decide, by decide⟩ ?_
      exact hF m hm rfl h7 (Nat.lt_of_not_le fun q => h28 (nI_le (b := 60) q (by decide)))
  · skip
    refine aE_aload_n dX11_feed_10 rfl rfl ?_
    refine aE_ldc dX11_feed_11 ct_X11_78 ?_
    refine aE_cVi dX11_feed_13 lk_X11_62 mv_X11_found (c_found _) rfl (lt_nn (by decide)) rfl rfl ⟨by decide, by decide⟩ (Nat.le_of_ble_eq_true rfl) ⟨rfl, rfl⟩ ⟨by decide, by decide⟩ ?_
    refine aE_iret dX11_feed_16 rfl ⟨by decide, by decide⟩ ?_
    exact hB h7

/-- the kind of a letter; -1: none -/
def kOf (b : Int32) : Int32 := if b = 115 then 0 else if b = 108 then 1 else if b = 117 then 2 else if b = 120 then 3 else -1
theorem c_kindOf (b : Int32) : aRuns mX6_kindOf (rK 0) [.int b] n mem (a_ri (kOf b) n mem) := by
  refine aRuns_of pn_X6_kindOf (Nat.le_of_ble_eq_true rfl) (fun z => aE_loc (ls' := [_]) rfl ?_)
  refine aE_iload_n dX6_kindOf_0 rfl rfl ?_
  by_cases h1 : b = 115
  · subst h1
    refine aE_lookup (off := 43) (tgt := 44) dX6_kindOf_1 (by decide) (by decide) (by decide) ?_
    refine aE_iconst (v := 0) dX6_kindOf_44 rfl ?_
    exact aE_iret dX6_kindOf_45 rfl ⟨by decide, by decide⟩ ⟨rfl, rfl, rfl⟩
  by_cases h2 : b = 108
  · subst h2
    refine aE_lookup (off := 45) (tgt := 46) dX6_kindOf_1 (by decide) (by decide) (by decide) ?_
    refine aE_iconst (v := 1) dX6_kindOf_46 rfl ?_
    exact aE_iret dX6_kindOf_47 rfl ⟨by decide, by decide⟩ ⟨rfl, rfl, rfl⟩
  by_cases h3 : b = 117
  · subst h3
    refine aE_lookup (off := 47) (tgt := 48) dX6_kindOf_1 (by decide) (by decide) (by decide) ?_
    refine aE_iconst (v := 2) dX6_kindOf_48 rfl ?_
    exact aE_iret dX6_kindOf_49 rfl ⟨by decide, by decide⟩ ⟨rfl, rfl, rfl⟩
  by_cases h4 : b = 120
  · subst h4
    refine aE_lookup (off := 49) (tgt := 50) dX6_kindOf_1 (by decide) (by decide) (by decide) ?_
    refine aE_iconst (v := 3) dX6_kindOf_50 rfl ?_
    exact aE_iret dX6_kindOf_51 rfl ⟨by decide, by decide⟩ ⟨rfl, rfl, rfl⟩
  have n1 : ∀ c : Int32, ¬ b = c → ¬ c.toInt = b.toInt := fun c h q => h (Int32.toInt_inj.mp q.symm)
  refine aE_lookup (off := 51) (tgt := 52) dX6_kindOf_1 (by decide) (by
    have e1 := n1 _ h1; have e2 := n1 _ h2; have e3 := n1 _ h3; have e4 := n1 _ h4
    have f1 : ¬ (115 : Int) = b.toInt := e1
    have f2 : ¬ (108 : Int) = b.toInt := e2
    have f3 : ¬ (117 : Int) = b.toInt := e3
    have f4 : ¬ (120 : Int) = b.toInt := e4
    simp [Op.lookupswitch.offset, f1, f2, f3, f4, Ne.symm f1, Ne.symm f2, Ne.symm f3, Ne.symm f4]) (by decide) ?_
  refine aE_iconst (v := -1) dX6_kindOf_52 rfl ?_
  exact aE_iret dX6_kindOf_53 rfl ⟨by decide, by decide⟩ (a_rio (by unfold kOf; rw [if_neg h1, if_neg h2, if_neg h3, if_neg h4]) rfl)
/-- whether a byte can stand at a place: the class's way -/
def csC (tp : Nat → Int32) (p : Nat) : Int32 := if p % 5 = 0 then (if p < 40 ∧ ¬ kOf (tp p) < 0 then 1 else 0) else if p % 5 = 1 then wi (tp p) 48 54 else if p % 5 = 2 then (if tp p = 45 then 1 else 0) else if p % 5 = 3 then wi (tp p) (tp (p - 2)) 54 else (if tp p = 59 then 1 else 0)
theorem csC_or (tp : Nat → Int32) (p : Nat) : csC tp p = 0 ∨ csC tp p = 1 := by
  unfold csC
  repeat' split
  all_goals first | exact Or.inl rfl | exact Or.inr rfl | exact wi_or _ _ _
theorem a_rem5 {p : Nat} (h : p < 1000) : nI p - nI p / 5 * 5 = nI (p % 5) := pk_rem (a := p) (d := 5) (by omega) (by decide) (by decide)
theorem c_canStand (p : Nat) (hp : p < 60) : aRuns mX6_canStand (rK 1) [.ref 75, .int (nI p)] (nn pl) (MM I sp pl) (a_ri (csC (I 76) p) (nn pl) (MM I sp pl)) := by
  refine aRuns_of pn_X6_canStand (Nat.le_of_ble_eq_true rfl) (fun z => aE_loc (ls' := [_, _]) rfl ?_)
  refine aE_iload_n dX6_canStand_0 rfl rfl ?_
  refine aE_iconst (v := 5) dX6_canStand_1 rfl ?_
  refine aE_irem dX6_canStand_2 (by decide) ?_
  refine aE_top (a_rem5 (by omega)) ?_
  rcases (show p % 5 = 0 ∨ p % 5 = 1 ∨ p % 5 = 2 ∨ p % 5 = 3 ∨ p % 5 = 4 by omega) with h5 | h5 | h5 | h5 | h5
  · rw [h5]
    refine aE_tableIn (off := 29) (tgt := 32) dX6_canStand_3 (by decide) (by decide) rfl (by decide) ?_
    have e : csC (I 76) p = if p < 40 ∧ ¬ kOf (I 76 p) < 0 then 1 else 0 := by unfold csC; rw [if_pos h5]
    rw [e]
    refine aE_iload_n dX6_canStand_32 rfl rfl ?_
    refine aE_bipush (v := 40) dX6_canStand_33 (by decide) ?_
    refine aE_icmp_ge (tgt := 54) dX6_canStand_35 (by decide) (fun h35 => ?_) (fun h35 => ?_)
    · skip
      rw [if_neg (fun q => absurd h35 (nI_ge q.1 (by decide)))]
      refine aE_iconst (v := 0) dX6_canStand_54 rfl ?_
      refine aE_zret dX6_canStand_55 rfl (by first | exact Or.inl rfl | exact Or.inr rfl | exact wi_or _ _ _ | assumption) ⟨by decide, by decide⟩ ?_
      exact ⟨rfl, rfl, rfl⟩
    · skip
      refine aE_aload_n dX6_canStand_38 rfl rfl ?_
      refine aE_getf (v := .ref 76) dX6_canStand_39 fw_X6_9 (lt_nn (by decide)) rfl rfl ?_
      refine aE_iload_n dX6_canStand_42 rfl rfl ?_
      refine aE_ildM dX6_canStand_43 (lt_nn (by decide)) rfl (by decide) rfl hp ?_
      refine aE_cSi dX6_canStand_44 lk_X6_32 ms_X6_kindOf (c_kindOf _) rfl rfl ⟨by decide, by decide⟩ (Nat.le_of_ble_eq_true rfl) ⟨rfl, rfl⟩ ⟨by decide, by decide⟩ ?_
      refine aE_if_lt (tgt := 54) dX6_canStand_47 (by decide) (fun h47 => ?_) (fun h47 => ?_)
      · skip
        rw [if_neg (fun q => q.2 h47)]
        refine aE_iconst (v := 0) dX6_canStand_54 rfl ?_
        refine aE_zret dX6_canStand_55 rfl (by first | exact Or.inl rfl | exact Or.inr rfl | exact wi_or _ _ _ | assumption) ⟨by decide, by decide⟩ ?_
        exact ⟨rfl, rfl, rfl⟩
      · skip
        rw [if_pos ⟨Nat.lt_of_not_le fun q => h35 (nI_le q (by omega)), h47⟩]
        refine aE_iconst (v := 1) dX6_canStand_50 rfl ?_
        refine aE_goto (tgt := 55) dX6_canStand_51 (by decide) ?_
        refine aE_zret dX6_canStand_55 rfl (by first | exact Or.inl rfl | exact Or.inr rfl | exact wi_or _ _ _ | assumption) ⟨by decide, by decide⟩ ?_
        exact ⟨rfl, rfl, rfl⟩
  · rw [h5]
    refine aE_tableIn (off := 53) (tgt := 56) dX6_canStand_3 (by decide) (by decide) rfl (by decide) ?_
    have e : csC (I 76) p = wi (I 76 p) 48 54 := by unfold csC; rw [if_neg (by omega), if_pos h5]
    rw [e]
    refine aE_aload_n dX6_canStand_56 rfl rfl ?_
    refine aE_getf (v := .ref 76) dX6_canStand_57 fw_X6_9 (lt_nn (by decide)) rfl rfl ?_
    refine aE_iload_n dX6_canStand_60 rfl rfl ?_
    refine aE_ildM dX6_canStand_61 (lt_nn (by decide)) rfl (by decide) rfl hp ?_
    refine aE_bipush (v := 48) dX6_canStand_62 (by decide) ?_
    refine aE_bipush (v := 54) dX6_canStand_64 (by decide) ?_
    refine aE_cSNi dX6_canStand_66 ln_X6_36 ms_X11_within (c_within _ _ _) rfl rfl ⟨by decide, by decide⟩ (Nat.le_of_ble_eq_true rfl) ⟨rfl, rfl⟩ ⟨by decide, by decide⟩ ?_
    refine aE_zret dX6_canStand_69 rfl (by first | exact Or.inl rfl | exact Or.inr rfl | exact wi_or _ _ _ | assumption) ⟨by decide, by decide⟩ ?_
    exact ⟨rfl, rfl, rfl⟩
  · rw [h5]
    refine aE_tableIn (off := 67) (tgt := 70) dX6_canStand_3 (by decide) (by decide) rfl (by decide) ?_
    have e : csC (I 76) p = if I 76 p = 45 then 1 else 0 := by unfold csC; rw [if_neg (by omega), if_neg (by omega), if_pos h5]
    rw [e]
    refine aE_aload_n dX6_canStand_70 rfl rfl ?_
    refine aE_getf (v := .ref 76) dX6_canStand_71 fw_X6_9 (lt_nn (by decide)) rfl rfl ?_
    refine aE_iload_n dX6_canStand_74 rfl rfl ?_
    refine aE_ildM dX6_canStand_75 (lt_nn (by decide)) rfl (by decide) rfl hp ?_
    refine aE_bipush (v := 45) dX6_canStand_76 (by decide) ?_
    refine aE_icmp_ne (tgt := 85) dX6_canStand_78 (by decide) (fun h78 => ?_) (fun h78 => ?_)
    · skip
      rw [if_neg h78]
      refine aE_iconst (v := 0) dX6_canStand_85 rfl ?_
      refine aE_zret dX6_canStand_86 rfl (by first | exact Or.inl rfl | exact Or.inr rfl | exact wi_or _ _ _ | assumption) ⟨by decide, by decide⟩ ?_
      exact ⟨rfl, rfl, rfl⟩
    · skip
      rw [if_pos h78]
      refine aE_iconst (v := 1) dX6_canStand_81 rfl ?_
      refine aE_goto (tgt := 86) dX6_canStand_82 (by decide) ?_
      refine aE_zret dX6_canStand_86 rfl (by first | exact Or.inl rfl | exact Or.inr rfl | exact wi_or _ _ _ | assumption) ⟨by decide, by decide⟩ ?_
      exact ⟨rfl, rfl, rfl⟩
  · rw [h5]
    refine aE_tableIn (off := 84) (tgt := 87) dX6_canStand_3 (by decide) (by decide) rfl (by decide) ?_
    have e : csC (I 76) p = wi (I 76 p) (I 76 (p - 2)) 54 := by unfold csC; rw [if_neg (by omega), if_neg (by omega), if_neg (by omega), if_pos h5]
    rw [e]
    refine aE_aload_n dX6_canStand_87 rfl rfl ?_
    refine aE_getf (v := .ref 76) dX6_canStand_88 fw_X6_9 (lt_nn (by decide)) rfl rfl ?_
    refine aE_iload_n dX6_canStand_91 rfl rfl ?_
    refine aE_ildM dX6_canStand_92 (lt_nn (by decide)) rfl (by decide) rfl hp ?_
    refine aE_aload_n dX6_canStand_93 rfl rfl ?_
    refine aE_getf (v := .ref 76) dX6_canStand_94 fw_X6_9 (lt_nn (by decide)) rfl rfl ?_
    refine aE_iload_n dX6_canStand_97 rfl rfl ?_
    refine aE_iconst (v := 2) dX6_canStand_98 rfl ?_
    refine aE_isub dX6_canStand_99 ?_
    refine aE_ildM dX6_canStand_100 (lt_nn (by decide)) rfl (by decide) (pk_sub (a := p) (b := 2) (by omega)) (by omega) ?_
    refine aE_bipush (v := 54) dX6_canStand_101 (by decide) ?_
    refine aE_cSNi dX6_canStand_103 ln_X6_36 ms_X11_within (c_within _ _ _) rfl rfl ⟨by decide, by decide⟩ (Nat.le_of_ble_eq_true rfl) ⟨rfl, rfl⟩ ⟨by decide, by decide⟩ ?_
    refine aE_zret dX6_canStand_106 rfl (by first | exact Or.inl rfl | exact Or.inr rfl | exact wi_or _ _ _ | assumption) ⟨by decide, by decide⟩ ?_
    exact ⟨rfl, rfl, rfl⟩
  · rw [h5]
    refine aE_tableOut (tgt := 107) dX6_canStand_3 (by decide) (by decide) ?_
    have e : csC (I 76) p = if I 76 p = 59 then 1 else 0 := by unfold csC; rw [if_neg (by omega), if_neg (by omega), if_neg (by omega), if_neg (by omega)]
    rw [e]
    refine aE_aload_n dX6_canStand_107 rfl rfl ?_
    refine aE_getf (v := .ref 76) dX6_canStand_108 fw_X6_9 (lt_nn (by decide)) rfl rfl ?_
    refine aE_iload_n dX6_canStand_111 rfl rfl ?_
    refine aE_ildM dX6_canStand_112 (lt_nn (by decide)) rfl (by decide) rfl hp ?_
    refine aE_bipush (v := 59) dX6_canStand_113 (by decide) ?_
    refine aE_icmp_ne (tgt := 122) dX6_canStand_115 (by decide) (fun h115 => ?_) (fun h115 => ?_)
    · skip
      rw [if_neg h115]
      refine aE_iconst (v := 0) dX6_canStand_122 rfl ?_
      refine aE_zret dX6_canStand_123 rfl (by first | exact Or.inl rfl | exact Or.inr rfl | exact wi_or _ _ _ | assumption) ⟨by decide, by decide⟩ ?_
      exact ⟨rfl, rfl, rfl⟩
    · skip
      rw [if_pos h115]
      refine aE_iconst (v := 1) dX6_canStand_118 rfl ?_
      refine aE_goto (tgt := 123) dX6_canStand_119 (by decide) ?_
      refine aE_zret dX6_canStand_123 rfl (by first | exact Or.inl rfl | exact Or.inr rfl | exact wi_or _ _ _ | assumption) ⟨by decide, by decide⟩ ?_
      exact ⟨rfl, rfl, rfl⟩
theorem l_firstWrong (tl : Nat) (htl : I 75 0 = nI tl) (h60 : tl ≤ 60) (hW : ∀ p, p < tl → csC (I 76) p = 0 → (∀ q, q < p → ¬ csC (I 76) q = 0) → qi Q (nI p) I sp pl) (hN : (∀ q, q < tl → ¬ csC (I 76) q = 0) → tl % 5 = 0 → qi Q (-1) I sp pl) (hX : (∀ q, q < tl → ¬ csC (I 76) q = 0) → ¬ tl % 5 = 0 → qi Q (nI tl) I sp pl) : ∀ (d k : Nat), k + d = tl → (∀ q, q < k → ¬ csC (I 76) q = 0) → aE z mX6_firstWrong (rK 2) Q 2 [some (.ref 75), some (.int (nI k))] [] (nn pl) (MM I sp pl) 0 0 := by
  intro d
  induction d with
  | zero =>
    intro k hk hall
    have hk : k = tl := by omega
    subst hk
    refine aE_iload_n dX6_firstWrong_2 rfl rfl ?_
    refine aE_aload_n dX6_firstWrong_3 rfl rfl ?_
    refine aE_geti dX6_firstWrong_4 fw_X6_24 (lt_nn (by decide)) rfl (by decide) rfl ?_
    refine aE_icmp_ge (tgt := 26) dX6_firstWrong_7 (by decide) (fun h7 => ?_) (fun h7 => absurd (by rw [htl]; exact Int32.le_refl _) h7)
    refine aE_aload_n dX6_firstWrong_26 rfl rfl ?_
    refine aE_geti dX6_firstWrong_27 fw_X6_24 (lt_nn (by decide)) rfl (by decide) rfl ?_
    refine aE_iconst (v := 5) dX6_firstWrong_30 rfl ?_
    refine aE_irem dX6_firstWrong_31 (by decide) ?_
    refine aE_top (show I 75 0 - I 75 0 / 5 * 5 = nI (k % 5) by rw [htl]; exact a_rem5 (by omega)) ?_
    refine aE_if_ne (tgt := 39) dX6_firstWrong_32 (by decide) (fun h32 => ?_) (fun h32 => ?_)
    · skip
      refine aE_aload_n dX6_firstWrong_39 rfl rfl ?_
      refine aE_geti dX6_firstWrong_40 fw_X6_24 (lt_nn (by decide)) rfl (by decide) rfl ?_
      refine aE_iret dX6_firstWrong_43 rfl ⟨by decide, by decide⟩ ?_
      first | exact hX hall (fun q => h32 (by rw [q]; rfl)) | (rw [htl]; exact hX hall (fun q => h32 (by rw [q]; rfl))) | exact hN hall (by rcases (show k % 5 = 0 ∨ k % 5 = 1 ∨ k % 5 = 2 ∨ k % 5 = 3 ∨ k % 5 = 4 by omega) with q | q | q | q | q <;> first | exact q | (rw [q] at h32; exact absurd h32 (by decide)))
    · skip
      refine aE_iconst (v := -1) dX6_firstWrong_35 rfl ?_
      refine aE_goto (tgt := 43) dX6_firstWrong_36 (by decide) ?_
      refine aE_iret dX6_firstWrong_43 rfl ⟨by decide, by decide⟩ ?_
      first | exact hX hall (fun q => h32 (by rw [q]; rfl)) | (rw [htl]; exact hX hall (fun q => h32 (by rw [q]; rfl))) | exact hN hall (by rcases (show k % 5 = 0 ∨ k % 5 = 1 ∨ k % 5 = 2 ∨ k % 5 = 3 ∨ k % 5 = 4 by omega) with q | q | q | q | q <;> first | exact q | (rw [q] at h32; exact absurd h32 (by decide)))
  | succ d ih =>
    intro k hk hall
    refine aE_iload_n dX6_firstWrong_2 rfl rfl ?_
    refine aE_aload_n dX6_firstWrong_3 rfl rfl ?_
    refine aE_geti dX6_firstWrong_4 fw_X6_24 (lt_nn (by decide)) rfl (by decide) rfl ?_
    refine aE_icmp_ge (tgt := 26) dX6_firstWrong_7 (by decide) (fun h7 => absurd h7 (by rw [htl]; exact nI_ge (by omega) (by omega))) (fun h7 => ?_)
    refine aE_aload_n dX6_firstWrong_10 rfl rfl ?_
    refine aE_iload_n dX6_firstWrong_11 rfl rfl ?_
    refine aE_cVi dX6_firstWrong_12 lk_X6_28 mv_X6_canStand (c_canStand _ (by omega)) rfl (lt_nn (by decide)) rfl rfl ⟨by decide, by decide⟩ (Nat.le_of_ble_eq_true rfl) ⟨rfl, rfl⟩ ⟨by decide, by decide⟩ ?_
    refine aE_if_ne (tgt := 20) dX6_firstWrong_15 (by decide) (fun h15 => ?_) (fun h15 => ?_)
    · skip
      refine aE_iinc dX6_firstWrong_20 rfl (a_inc _) (by decide) rfl (aE_loc (ls' := [_, _]) rfl ?_)
      refine aE_goto (tgt := 2) dX6_firstWrong_23 (by decide) ?_
      exact ih (k + 1) (by omega) (fun q hq => by rcases Nat.lt_or_ge q k with w | w; exact hall q w; rw [show q = k by omega]; exact h15)
    · skip
      refine aE_iload_n dX6_firstWrong_18 rfl rfl ?_
      refine aE_iret dX6_firstWrong_19 rfl ⟨by decide, by decide⟩ ?_
      exact hW k (by omega) h15 hall
theorem c_firstWrong (tl : Nat) (htl : I 75 0 = nI tl) (h60 : tl ≤ 60) (hW : ∀ p, p < tl → csC (I 76) p = 0 → (∀ q, q < p → ¬ csC (I 76) q = 0) → qi Q (nI p) I sp pl) (hN : (∀ q, q < tl → ¬ csC (I 76) q = 0) → tl % 5 = 0 → qi Q (-1) I sp pl) (hX : (∀ q, q < tl → ¬ csC (I 76) q = 0) → ¬ tl % 5 = 0 → qi Q (nI tl) I sp pl) : aRuns mX6_firstWrong (rK 2) [.ref 75] (nn pl) (MM I sp pl) Q := by
  refine aRuns_of pn_X6_firstWrong (Nat.le_of_ble_eq_true rfl) (fun z => aE_loc (ls' := [_, _]) rfl ?_)
  refine aE_iconst (v := 0) dX6_firstWrong_0 rfl ?_
  refine aE_istore_n dX6_firstWrong_1 rfl (by decide) rfl (aE_loc (ls' := [_, _]) rfl ?_)
  exact l_firstWrong tl htl h60 hW hN hX tl 0 (by omega) (fun q hq => absurd hq (by omega))
/-- the rules read from the tape, k of them: rows rk, lo, hi -/
def adI (a b c tp : Nat) (I : Nat → Nat → Int32) : Nat → Nat → Nat → Int32
  | 0 => I
  | k + 1 => iu (iu (iu (adI a b c tp I k) a k (kOf (I tp (5 * k)))) b k (I tp (5 * k + 1) - 48)) c k (I tp (5 * k + 3) - 48)
theorem adI_ne {a b c tp q i : Nat} {I : Nat → Nat → Int32} (h : q ≠ a ∧ q ≠ b ∧ q ≠ c) : ∀ k, adI a b c tp I k q i = I q i
  | 0 => rfl
  | k + 1 => by
    simp only [adI]
    rw [iu_ne (Or.inl h.2.2), iu_ne (Or.inl h.2.1), iu_ne (Or.inl h.1)]
    exact adI_ne h k
theorem l_adopt (m : Nat) (hm : I 75 1 = nI m) (h8 : m ≤ 8) (hQ : Q none (nn pl) (MM (adI 77 78 79 76 I m) sp pl)) : ∀ (d k : Nat), k + d = m → aE z mX6_adopt (rK 1) Q 12 [some (.ref 75), some (.int (nI k))] [] (nn pl) (MM (adI 77 78 79 76 I k) sp pl) 0 0 := by
  intro d
  induction d with
  | zero =>
    intro k hk
    have hk : k = m := by omega
    subst hk
    refine aE_iload_n dX6_adopt_12 rfl rfl ?_
    refine aE_aload_n dX6_adopt_13 rfl rfl ?_
    refine aE_geti dX6_adopt_14 fw_X6_40 (lt_nn (by decide)) rfl (by decide) rfl ?_
    refine aE_icmp_ge (tgt := 81) dX6_adopt_17 (by decide) (fun h17 => ?_) (fun h17 => absurd (by rw [show adI 77 78 79 76 I k 75 1 = nI k from (adI_ne (by decide) k).trans hm]; exact Int32.le_refl _) h17)
    refine aE_vret dX6_adopt_81 rfl ⟨by decide, by decide⟩ ?_
    exact hQ
  | succ d ih =>
    intro k hk
    refine aE_iload_n dX6_adopt_12 rfl rfl ?_
    refine aE_aload_n dX6_adopt_13 rfl rfl ?_
    refine aE_geti dX6_adopt_14 fw_X6_40 (lt_nn (by decide)) rfl (by decide) rfl ?_
    refine aE_icmp_ge (tgt := 81) dX6_adopt_17 (by decide) (fun h17 => absurd h17 (by rw [show adI 77 78 79 76 I k 75 1 = nI m from (adI_ne (by decide) k).trans hm]; exact nI_ge (by omega) (by omega))) (fun h17 => ?_)
    refine aE_aload_n dX6_adopt_20 rfl rfl ?_
    refine aE_getf (v := .ref 77) dX6_adopt_21 fw_X6_15 (lt_nn (by decide)) rfl rfl ?_
    refine aE_iload_n dX6_adopt_24 rfl rfl ?_
    refine aE_aload_n dX6_adopt_25 rfl rfl ?_
    refine aE_getf (v := .ref 76) dX6_adopt_26 fw_X6_9 (lt_nn (by decide)) rfl rfl ?_
    refine aE_iload_n dX6_adopt_29 rfl rfl ?_
    refine aE_iconst (v := 5) dX6_adopt_30 rfl ?_
    refine aE_imul dX6_adopt_31 ?_
    refine aE_top (x' := nI (5 * k)) (by rw [show (5 : Int32) = nI 5 from rfl, pk_mul, Nat.mul_comm]) ?_
    refine aE_ildM dX6_adopt_32 (lt_nn (by decide)) rfl (by decide) rfl (by omega) ?_
    refine aE_top (x' := I 76 (5 * k)) (adI_ne (by decide) k) ?_
    refine aE_cSi dX6_adopt_33 lk_X6_32 ms_X6_kindOf (c_kindOf _) rfl rfl ⟨by decide, by decide⟩ (Nat.le_of_ble_eq_true rfl) ⟨rfl, rfl⟩ ⟨by decide, by decide⟩ ?_
    refine aE_istM dX6_adopt_36 (lt_nn (by decide)) rfl (by decide) rfl (by omega) ?_
    refine aE_aload_n dX6_adopt_37 rfl rfl ?_
    refine aE_getf (v := .ref 78) dX6_adopt_38 fw_X6_18 (lt_nn (by decide)) rfl rfl ?_
    refine aE_iload_n dX6_adopt_41 rfl rfl ?_
    refine aE_aload_n dX6_adopt_42 rfl rfl ?_
    refine aE_getf (v := .ref 76) dX6_adopt_43 fw_X6_9 (lt_nn (by decide)) rfl rfl ?_
    refine aE_iload_n dX6_adopt_46 rfl rfl ?_
    refine aE_iconst (v := 5) dX6_adopt_47 rfl ?_
    refine aE_imul dX6_adopt_48 ?_
    refine aE_top (x' := nI (5 * k)) (by rw [show (5 : Int32) = nI 5 from rfl, pk_mul, Nat.mul_comm]) ?_
    refine aE_iconst (v := 1) dX6_adopt_49 rfl ?_
    refine aE_iadd dX6_adopt_50 ?_
    refine aE_top (nI_1 (5 * k)) ?_
    refine aE_ildM dX6_adopt_51 (lt_nn (by decide)) rfl (by decide) rfl (by omega) ?_
    refine aE_top (x' := I 76 (5 * k + 1)) (by rw [iu_ne (by omega)]; exact adI_ne (by decide) k) ?_
    refine aE_bipush (v := 48) dX6_adopt_52 (by decide) ?_
    refine aE_isub dX6_adopt_54 ?_
    refine aE_istM dX6_adopt_55 (lt_nn (by decide)) rfl (by decide) rfl (by omega) ?_
    refine aE_aload_n dX6_adopt_56 rfl rfl ?_
    refine aE_getf (v := .ref 79) dX6_adopt_57 fw_X6_21 (lt_nn (by decide)) rfl rfl ?_
    refine aE_iload_n dX6_adopt_60 rfl rfl ?_
    refine aE_aload_n dX6_adopt_61 rfl rfl ?_
    refine aE_getf (v := .ref 76) dX6_adopt_62 fw_X6_9 (lt_nn (by decide)) rfl rfl ?_
    refine aE_iload_n dX6_adopt_65 rfl rfl ?_
    refine aE_iconst (v := 5) dX6_adopt_66 rfl ?_
    refine aE_imul dX6_adopt_67 ?_
    refine aE_top (x' := nI (5 * k)) (by rw [show (5 : Int32) = nI 5 from rfl, pk_mul, Nat.mul_comm]) ?_
    refine aE_iconst (v := 3) dX6_adopt_68 rfl ?_
    refine aE_iadd dX6_adopt_69 ?_
    refine aE_top (x' := nI (5 * k + 3)) (nI_add (5 * k) 3) ?_
    refine aE_ildM dX6_adopt_70 (lt_nn (by decide)) rfl (by decide) rfl (by omega) ?_
    refine aE_top (x' := I 76 (5 * k + 3)) (by rw [iu_ne (by omega), iu_ne (by omega)]; exact adI_ne (by decide) k) ?_
    refine aE_bipush (v := 48) dX6_adopt_71 (by decide) ?_
    refine aE_isub dX6_adopt_73 ?_
    refine aE_istM dX6_adopt_74 (lt_nn (by decide)) rfl (by decide) rfl (by omega) ?_
    refine aE_iinc dX6_adopt_75 rfl (a_inc _) (by decide) rfl (aE_loc (ls' := [_, _]) rfl ?_)
    refine aE_goto (tgt := 12) dX6_adopt_78 (by decide) ?_
    exact ih (k + 1) (by omega)
theorem c_adopt (tl m : Nat) (htl : I 75 0 = nI tl) (hm : tl / 5 = m) (h8 : m ≤ 8) (h60 : tl ≤ 60) : aRuns mX6_adopt (rK 1) [.ref 75] (nn pl) (MM I sp pl) (a_rv (nn pl) (MM (adI 77 78 79 76 (iu I 75 1 (nI m)) m) sp pl)) := by
  refine aRuns_of pn_X6_adopt (Nat.le_of_ble_eq_true rfl) (fun z => aE_loc (ls' := [_, _]) rfl ?_)
  refine aE_aload_n dX6_adopt_0 rfl rfl ?_
  refine aE_aload_n dX6_adopt_1 rfl rfl ?_
  refine aE_geti dX6_adopt_2 fw_X6_24 (lt_nn (by decide)) rfl (by decide) rfl ?_
  refine aE_iconst (v := 5) dX6_adopt_5 rfl ?_
  refine aE_idiv dX6_adopt_6 (by decide) ?_
  refine aE_top (x' := nI m) (by rw [htl, ← hm]; exact pk_div (a := tl) (d := 5) (by omega) (by decide) (by decide)) ?_
  refine aE_puti dX6_adopt_7 fp_X6_40 (Or.inl rfl) (lt_nn (by decide)) rfl (fun _ => ⟨rfl, rfl⟩) (by decide) rfl ?_
  refine aE_iconst (v := 0) dX6_adopt_10 rfl ?_
  refine aE_istore_n dX6_adopt_11 rfl (by decide) rfl (aE_loc (ls' := [_, _]) rfl ?_)
  exact l_adopt (I := iu I 75 1 (nI m)) m rfl h8 ⟨rfl, rfl, rfl⟩ m 0 (by omega)
end CB5
