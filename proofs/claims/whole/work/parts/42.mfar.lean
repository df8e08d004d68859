/-- the first n of the model's distances -/
def pfk (I : Nat → Nat → Int32) (n : Nat) (T : tT) : Nat → Nat → Int32 := fun q i => if q = 121 ∧ i < n then T (i / 8) (i % 8) else I q i
theorem pfk_0 {I : Nat → Nat → Int32} {T : tT} : pfk I 0 T = I := by
  funext q i; unfold pfk; rw [if_neg (by omega)]
theorem pfk_o {I : Nat → Nat → Int32} {n q i : Nat} {T : tT} (h : q ≠ 121) : pfk I n T q i = I q i := by
  unfold pfk; rw [if_neg (fun w => h w.1)]
theorem pfk_s {I : Nat → Nat → Int32} {a b : Nat} {T : tT} (hb : b < 8) : iu (pfk I (8 * a + b) T) 121 (8 * a + b) (T a b) = pfk I (8 * a + (b + 1)) T := by
  funext q i
  unfold iu pfk
  by_cases h : q = 121 ∧ i = 8 * a + b
  · obtain ⟨rfl, rfl⟩ := h
    rw [if_pos ⟨rfl, rfl⟩, if_pos (by omega), show (8 * a + b) / 8 = a by omega, show (8 * a + b) % 8 = b by omega]
  · rw [if_neg h]
    by_cases h2 : q = 121 ∧ i < 8 * a + b
    · rw [if_pos h2, if_pos (by omega)]
    · rw [if_neg h2, if_neg (by omega)]
theorem pfk_at {I : Nat → Nat → Int32} {a b : Nat} {T : tT} (ha : a < 8) (hb : b < 8) : pfk I 64 T 121 (8 * a + b) = T a b := by
  unfold pfk; rw [if_pos (by omega), show (8 * a + b) / 8 = a by omega, show (8 * a + b) % 8 = b by omega]
theorem pfk_set {I : Nat → Nat → Int32} {a b : Nat} {T : tT} {x : Int32} (ha : a < 8) (hb : b < 8) : iu (pfk I 64 T) 121 (8 * a + b) x = pfk I 64 (tset T a b x) := by
  funext q i
  unfold iu pfk tset
  by_cases h : q = 121 ∧ i = 8 * a + b
  · obtain ⟨rfl, rfl⟩ := h
    rw [if_pos ⟨rfl, rfl⟩, if_pos (by omega), if_pos (by omega)]
  · rw [if_neg h]
    by_cases h2 : q = 121 ∧ i < 64
    · rw [if_pos h2, if_pos h2, if_neg (by omega)]
    · rw [if_neg h2, if_neg h2]
section MFAR
variable {z : Nat × (Nat → Int32)} {n : Nat} {mem : aM} {I : Nat → Nat → Int32} {sp : Nat → Nat} {pl : Bool} {Q : Option Value → Nat → aM → Prop} {R : Room}
theorem l_ff2 {l4 l5 : Option Value} (snow : Int32) (a : Nat) (ha : a < 8) (k0 : aE z mX12_findFars (rK 0) Q 44 [some (.ref 101), some (.int snow), some (.int (nI a)), some (.int (nI 8)), l4, l5] [] (nn pl) (MM (pfk I (8 * a + 8) T0) sp pl) 0 0) : ∀ (d b : Nat), b + d = 8 → aE z mX12_findFars (rK 0) Q 10 [some (.ref 101), some (.int snow), some (.int (nI a)), some (.int (nI b)), l4, l5] [] (nn pl) (MM (pfk I (8 * a + b) T0) sp pl) 0 0 := by
  intro d
  induction d with
  | zero =>
    intro b hb
    have hb : b = 8 := by omega
    subst hb
    refine aE_iload_n dX12_findFars_10 rfl rfl ?_
    refine aE_bipush (v := 8) dX12_findFars_11 (by decide) ?_
    refine aE_icmp_ge (tgt := 44) dX12_findFars_13 (by decide) (fun h13 => ?_) (fun h13 => absurd (by decide) h13)
    exact k0
  | succ d ih =>
    intro b hb
    refine aE_iload_n dX12_findFars_10 rfl rfl ?_
    refine aE_bipush (v := 8) dX12_findFars_11 (by decide) ?_
    refine aE_icmp_ge (tgt := 44) dX12_findFars_13 (by decide) (fun h13 => absurd h13 (nI_ge (b := 8) (by omega) (by omega))) (fun h13 => ?_)
    refine aE_aload_n dX12_findFars_16 rfl rfl ?_
    refine aE_getf (v := .ref 121) dX12_findFars_17 fw_X12_75 (lt_nn (by decide)) rfl rfl ?_
    refine aE_bipush (v := 8) dX12_findFars_20 (by decide) ?_
    refine aE_iload_n dX12_findFars_22 rfl rfl ?_
    refine aE_imul dX12_findFars_23 ?_
    refine aE_top (x' := nI (8 * a)) (by rw [show (8 : Int32) = nI 8 from rfl, pk_mul]) ?_
    refine aE_iload_n dX12_findFars_24 rfl rfl ?_
    refine aE_iadd dX12_findFars_25 ?_
    refine aE_top (nI_add (8 * a) b) ?_
    refine aE_iload_n dX12_findFars_26 rfl rfl ?_
    refine aE_iload_n dX12_findFars_27 rfl rfl ?_
    refine aE_icmp_ne (tgt := 35) dX12_findFars_28 (by decide) (fun h28 => ?_) (fun h28 => ?_)
    · skip
      refine aE_ldc dX12_findFars_35 ct_X12_192 ?_
      first | refine aE_top (x' := T0 a b) (by unfold T0; rw [if_neg (fun q => h28 (by rw [q]))]) ?_ | refine aE_top (x' := T0 a b) (by unfold T0; rw [if_pos ((nI_eq (by omega) (by omega)).mp h28)]) ?_
      refine aE_istM dX12_findFars_37 (lt_nn (by decide)) rfl (by decide) rfl (by omega) ?_
      refine aE_I (pfk_s (by omega)) ?_
      refine aE_iinc dX12_findFars_38 rfl (a_inc _) (by decide) rfl (aE_loc (ls' := [_, _, _, _, _, _]) rfl ?_)
      refine aE_goto (tgt := 10) dX12_findFars_41 (by decide) ?_
      exact ih (b + 1) (by omega)
    · skip
      refine aE_iconst (v := 0) dX12_findFars_31 rfl ?_
      refine aE_goto (tgt := 37) dX12_findFars_32 (by decide) ?_
      first | refine aE_top (x' := T0 a b) (by unfold T0; rw [if_neg (fun q => h28 (by rw [q]))]) ?_ | refine aE_top (x' := T0 a b) (by unfold T0; rw [if_pos ((nI_eq (by omega) (by omega)).mp h28)]) ?_
      refine aE_istM dX12_findFars_37 (lt_nn (by decide)) rfl (by decide) rfl (by omega) ?_
      refine aE_I (pfk_s (by omega)) ?_
      refine aE_iinc dX12_findFars_38 rfl (a_inc _) (by decide) rfl (aE_loc (ls' := [_, _, _, _, _, _]) rfl ?_)
      refine aE_goto (tgt := 10) dX12_findFars_41 (by decide) ?_
      exact ih (b + 1) (by omega)
theorem l_ff1 {l4 l5 : Option Value} (snow : Int32) (k0 : ∀ l3, aE z mX12_findFars (rK 0) Q 50 [some (.ref 101), some (.int snow), some (.int (nI 8)), l3, l4, l5] [] (nn pl) (MM (pfk I 64 T0) sp pl) 0 0) : ∀ (d a : Nat), a + d = 8 → ∀ l3, aE z mX12_findFars (rK 0) Q 2 [some (.ref 101), some (.int snow), some (.int (nI a)), l3, l4, l5] [] (nn pl) (MM (pfk I (8 * a) T0) sp pl) 0 0 := by
  intro d
  induction d with
  | zero =>
    intro a ha l3
    have ha : a = 8 := by omega
    subst ha
    refine aE_iload_n dX12_findFars_2 rfl rfl ?_
    refine aE_bipush (v := 8) dX12_findFars_3 (by decide) ?_
    refine aE_icmp_ge (tgt := 50) dX12_findFars_5 (by decide) (fun h5 => ?_) (fun h5 => absurd (by decide) h5)
    exact k0 l3
  | succ d ih =>
    intro a ha l3
    refine aE_iload_n dX12_findFars_2 rfl rfl ?_
    refine aE_bipush (v := 8) dX12_findFars_3 (by decide) ?_
    refine aE_icmp_ge (tgt := 50) dX12_findFars_5 (by decide) (fun h5 => absurd h5 (nI_ge (b := 8) (by omega) (by omega))) (fun h5 => ?_)
    refine aE_iconst (v := 0) dX12_findFars_8 rfl ?_
    refine aE_istore_n dX12_findFars_9 rfl (by decide) rfl (aE_loc (ls' := [_, _, _, _, _, _]) rfl ?_)
    refine l_ff2 snow a (by omega) ?_ 8 0 (by omega)
    refine aE_iinc dX12_findFars_44 rfl (a_inc _) (by decide) rfl (aE_loc (ls' := [_, _, _, _, _, _]) rfl ?_)
    refine aE_goto (tgt := 2) dX12_findFars_47 (by decide) ?_
    exact ih (a + 1) (by omega) _
theorem l_ff3 (snow : Int32) (ns nc : Nat) (fr to : Nat → Nat) (hns : I 101 1 = nI ns) (h14 : ns ≤ 14) (h8 : nc ≤ 8) (hst : ∀ s, s < ns → fr s < nc ∧ to s < nc ∧ I 102 s = nI (fr s) ∧ I 103 s = nI (to s)) (k0 : ∀ l3 l4 l5, aE z mX12_findFars (rK 0) Q 181 [some (.ref 101), some (.int snow), some (.int (nI ns)), l3, l4, l5] [] (nn pl) (MM (pfk I 64 (stM fr to (I 104) (I 105) snow ns)) sp pl) 0 0) : ∀ (d k : Nat), k + d = ns → ∀ l3 l4 l5, aE z mX12_findFars (rK 0) Q 52 [some (.ref 101), some (.int snow), some (.int (nI k)), l3, l4, l5] [] (nn pl) (MM (pfk I 64 (stM fr to (I 104) (I 105) snow k)) sp pl) 0 0 := by
  intro d
  induction d with
  | zero =>
    intro k hk l3 l4 l5
    have hk : k = ns := by omega
    subst hk
    refine aE_iload_n dX12_findFars_52 rfl rfl ?_
    refine aE_aload_n dX12_findFars_53 rfl rfl ?_
    refine aE_geti dX12_findFars_54 fw_X12_186 (lt_nn (by decide)) rfl (by decide) rfl ?_
    refine aE_icmp_ge (tgt := 181) dX12_findFars_57 (by decide) (fun h57 => ?_) (fun h57 => absurd (by rw [show pfk I 64 (stM fr to (I 104) (I 105) snow k) 101 1 = nI k from (pfk_o (by decide)).trans hns]; exact Int32.le_refl _) h57)
    exact k0 l3 l4 l5
  | succ d ih =>
    intro k hk l3 l4 l5
    obtain ⟨hf, ht, hk3, hk4⟩ := hst k (by omega)
    have hf8 : fr k < 8 := by omega
    have ht8 : to k < 8 := by omega
    obtain ⟨T, hT⟩ : ∃ T, stM fr to (I 104) (I 105) snow k = T := ⟨_, rfl⟩
    rw [hT]
    refine aE_iload_n dX12_findFars_52 rfl rfl ?_
    refine aE_aload_n dX12_findFars_53 rfl rfl ?_
    refine aE_geti dX12_findFars_54 fw_X12_186 (lt_nn (by decide)) rfl (by decide) rfl ?_
    refine aE_icmp_ge (tgt := 181) dX12_findFars_57 (by decide) (fun h57 => absurd h57 (by rw [show pfk I 64 T 101 1 = nI ns from (pfk_o (by decide)).trans hns]; exact nI_ge (by omega) (by omega))) (fun h57 => ?_)
    refine aE_aload_n dX12_findFars_60 rfl rfl ?_
    refine aE_getf (v := .ref 105) dX12_findFars_61 fw_X12_26 (lt_nn (by decide)) rfl rfl ?_
    refine aE_iload_n dX12_findFars_64 rfl rfl ?_
    refine aE_zldM dX12_findFars_65 (lt_nn (by decide)) rfl (by decide) rfl (by omega) ?_
    refine aE_top (x' := I 105 k) (pfk_o (by decide)) ?_
    refine aE_if_eq (tgt := 72) dX12_findFars_66 (by decide) (fun h66 => ?_) (fun h66 => ?_)
    · skip
      refine aE_aload_n dX12_findFars_72 rfl rfl ?_
      refine aE_getf (v := .ref 104) dX12_findFars_73 fw_X12_23 (lt_nn (by decide)) rfl rfl ?_
      refine aE_iload_n dX12_findFars_76 rfl rfl ?_
      refine aE_ildM dX12_findFars_77 (lt_nn (by decide)) rfl (by decide) rfl (by omega) ?_
      refine aE_top (x' := I 104 k) (pfk_o (by decide)) ?_
      refine aE_iload_n dX12_findFars_78 rfl rfl ?_
      refine aE_iadd dX12_findFars_79 ?_
      refine aE_istore_n dX12_findFars_80 rfl (by decide) rfl (aE_loc (ls' := [_, _, _, _, _, _]) rfl ?_)
      refine aE_bipush (v := 8) dX12_findFars_81 (by decide) ?_
      refine aE_aload_n dX12_findFars_83 rfl rfl ?_
      refine aE_getf (v := .ref 102) dX12_findFars_84 fw_X12_16 (lt_nn (by decide)) rfl rfl ?_
      refine aE_iload_n dX12_findFars_87 rfl rfl ?_
      refine aE_ildM dX12_findFars_88 (lt_nn (by decide)) rfl (by decide) rfl (by omega) ?_
      refine aE_top (x' := nI (fr k)) ((pfk_o (by decide)).trans hk3) ?_
      refine aE_imul dX12_findFars_89 ?_
      refine aE_top (x' := nI (8 * fr k)) (by rw [show (8 : Int32) = nI 8 from rfl, pk_mul]) ?_
      refine aE_aload_n dX12_findFars_90 rfl rfl ?_
      refine aE_getf (v := .ref 103) dX12_findFars_91 fw_X12_20 (lt_nn (by decide)) rfl rfl ?_
      refine aE_iload_n dX12_findFars_94 rfl rfl ?_
      refine aE_ildM dX12_findFars_95 (lt_nn (by decide)) rfl (by decide) rfl (by omega) ?_
      refine aE_top (x' := nI (to k)) ((pfk_o (by decide)).trans hk4) ?_
      refine aE_iadd dX12_findFars_96 ?_
      refine aE_top (nI_add (8 * fr k) (to k)) ?_
      refine aE_istore dX12_findFars_97 (by decide) rfl (aE_loc (ls' := [_, _, _, _, _, _]) rfl ?_)
      refine aE_bipush (v := 8) dX12_findFars_99 (by decide) ?_
      refine aE_aload_n dX12_findFars_101 rfl rfl ?_
      refine aE_getf (v := .ref 103) dX12_findFars_102 fw_X12_20 (lt_nn (by decide)) rfl rfl ?_
      refine aE_iload_n dX12_findFars_105 rfl rfl ?_
      refine aE_ildM dX12_findFars_106 (lt_nn (by decide)) rfl (by decide) rfl (by omega) ?_
      refine aE_top (x' := nI (to k)) ((pfk_o (by decide)).trans hk4) ?_
      refine aE_imul dX12_findFars_107 ?_
      refine aE_top (x' := nI (8 * to k)) (by rw [show (8 : Int32) = nI 8 from rfl, pk_mul]) ?_
      refine aE_aload_n dX12_findFars_108 rfl rfl ?_
      refine aE_getf (v := .ref 102) dX12_findFars_109 fw_X12_16 (lt_nn (by decide)) rfl rfl ?_
      refine aE_iload_n dX12_findFars_112 rfl rfl ?_
      refine aE_ildM dX12_findFars_113 (lt_nn (by decide)) rfl (by decide) rfl (by omega) ?_
      refine aE_top (x' := nI (fr k)) ((pfk_o (by decide)).trans hk3) ?_
      refine aE_iadd dX12_findFars_114 ?_
      refine aE_top (nI_add (8 * to k) (fr k)) ?_
      refine aE_istore dX12_findFars_115 (by decide) rfl (aE_loc (ls' := [_, _, _, _, _, _]) rfl ?_)
      refine aE_aload_n dX12_findFars_117 rfl rfl ?_
      refine aE_getf (v := .ref 121) dX12_findFars_118 fw_X12_75 (lt_nn (by decide)) rfl rfl ?_
      refine aE_iload dX12_findFars_121 rfl ?_
      refine aE_iload_n dX12_findFars_123 rfl rfl ?_
      refine aE_aload_n dX12_findFars_124 rfl rfl ?_
      refine aE_getf (v := .ref 121) dX12_findFars_125 fw_X12_75 (lt_nn (by decide)) rfl rfl ?_
      refine aE_iload dX12_findFars_128 rfl ?_
      refine aE_ildM dX12_findFars_130 (lt_nn (by decide)) rfl (by decide) rfl (by omega) ?_
      refine aE_top (x' := T (fr k) (to k)) (pfk_at hf8 ht8) ?_
      refine aE_icmp_ge (tgt := 138) dX12_findFars_131 (by decide) (fun h131 => ?_) (fun h131 => ?_)
      · skip
        refine aE_aload_n dX12_findFars_138 rfl rfl ?_
        refine aE_getf (v := .ref 121) dX12_findFars_139 fw_X12_75 (lt_nn (by decide)) rfl rfl ?_
        refine aE_iload dX12_findFars_142 rfl ?_
        refine aE_ildM dX12_findFars_144 (lt_nn (by decide)) rfl (by decide) rfl (by omega) ?_
        refine aE_top (x' := T (fr k) (to k)) (pfk_at hf8 ht8) ?_
        refine aE_top (x' := mn (I 104 k + snow) (T (fr k) (to k))) (by unfold mn; first | rw [if_neg (Int32.not_lt.mpr h131)] | rw [if_pos (Int32.not_le.mp h131)]) ?_
        refine aE_istM dX12_findFars_145 (lt_nn (by decide)) rfl (by decide) rfl (by omega) ?_
        refine aE_I (pfk_set hf8 ht8) ?_
        obtain ⟨T1, hT1⟩ : ∃ T1, tset T (fr k) (to k) (mn (I 104 k + snow) (T (fr k) (to k))) = T1 := ⟨_, rfl⟩
        rw [hT1]
        refine aE_aload_n dX12_findFars_146 rfl rfl ?_
        refine aE_getf (v := .ref 121) dX12_findFars_147 fw_X12_75 (lt_nn (by decide)) rfl rfl ?_
        refine aE_iload dX12_findFars_150 rfl ?_
        refine aE_iload_n dX12_findFars_152 rfl rfl ?_
        refine aE_aload_n dX12_findFars_153 rfl rfl ?_
        refine aE_getf (v := .ref 121) dX12_findFars_154 fw_X12_75 (lt_nn (by decide)) rfl rfl ?_
        refine aE_iload dX12_findFars_157 rfl ?_
        refine aE_ildM dX12_findFars_159 (lt_nn (by decide)) rfl (by decide) rfl (by omega) ?_
        refine aE_top (x' := T1 (to k) (fr k)) (pfk_at ht8 hf8) ?_
        refine aE_icmp_ge (tgt := 167) dX12_findFars_160 (by decide) (fun h160 => ?_) (fun h160 => ?_)
        · skip
          refine aE_aload_n dX12_findFars_167 rfl rfl ?_
          refine aE_getf (v := .ref 121) dX12_findFars_168 fw_X12_75 (lt_nn (by decide)) rfl rfl ?_
          refine aE_iload dX12_findFars_171 rfl ?_
          refine aE_ildM dX12_findFars_173 (lt_nn (by decide)) rfl (by decide) rfl (by omega) ?_
          refine aE_top (x' := T1 (to k) (fr k)) (pfk_at ht8 hf8) ?_
          refine aE_top (x' := mn (I 104 k + snow) (T1 (to k) (fr k))) (by unfold mn; first | rw [if_neg (Int32.not_lt.mpr h160)] | rw [if_pos (Int32.not_le.mp h160)]) ?_
          refine aE_istM dX12_findFars_174 (lt_nn (by decide)) rfl (by decide) rfl (by omega) ?_
          refine aE_I (pfk_set ht8 hf8) ?_
          refine aE_I (I' := pfk I 64 (stM fr to (I 104) (I 105) snow (k + 1))) (by simp only [stM]; rw [if_pos h66, hT, ← hT1]; rfl) ?_
          refine aE_iinc dX12_findFars_175 rfl (a_inc _) (by decide) rfl (aE_loc (ls' := [_, _, _, _, _, _]) rfl ?_)
          refine aE_goto (tgt := 52) dX12_findFars_178 (by decide) ?_
          first
            | exact ih (k + 1) (by omega) _ _ _
            | (refine aE_I (I' := pfk I 64 (stM fr to (I 104) (I 105) snow (k + 1))) (by simp only [stM]; rw [if_neg h66, hT]) ?_; exact ih (k + 1) (by omega) _ _ _)
        · skip
          refine aE_iload_n dX12_findFars_163 rfl rfl ?_
          refine aE_goto (tgt := 174) dX12_findFars_164 (by decide) ?_
          refine aE_top (x' := mn (I 104 k + snow) (T1 (to k) (fr k))) (by unfold mn; first | rw [if_neg (Int32.not_lt.mpr h160)] | rw [if_pos (Int32.not_le.mp h160)]) ?_
          refine aE_istM dX12_findFars_174 (lt_nn (by decide)) rfl (by decide) rfl (by omega) ?_
          refine aE_I (pfk_set ht8 hf8) ?_
          refine aE_I (I' := pfk I 64 (stM fr to (I 104) (I 105) snow (k + 1))) (by simp only [stM]; rw [if_pos h66, hT, ← hT1]; rfl) ?_
          refine aE_iinc dX12_findFars_175 rfl (a_inc _) (by decide) rfl (aE_loc (ls' := [_, _, _, _, _, _]) rfl ?_)
          refine aE_goto (tgt := 52) dX12_findFars_178 (by decide) ?_
          first
            | exact ih (k + 1) (by omega) _ _ _
            | (refine aE_I (I' := pfk I 64 (stM fr to (I 104) (I 105) snow (k + 1))) (by simp only [stM]; rw [if_neg h66, hT]) ?_; exact ih (k + 1) (by omega) _ _ _)
      · skip
        refine aE_iload_n dX12_findFars_134 rfl rfl ?_
        refine aE_goto (tgt := 145) dX12_findFars_135 (by decide) ?_
        refine aE_top (x' := mn (I 104 k + snow) (T (fr k) (to k))) (by unfold mn; first | rw [if_neg (Int32.not_lt.mpr h131)] | rw [if_pos (Int32.not_le.mp h131)]) ?_
        refine aE_istM dX12_findFars_145 (lt_nn (by decide)) rfl (by decide) rfl (by omega) ?_
        refine aE_I (pfk_set hf8 ht8) ?_
        obtain ⟨T1, hT1⟩ : ∃ T1, tset T (fr k) (to k) (mn (I 104 k + snow) (T (fr k) (to k))) = T1 := ⟨_, rfl⟩
        rw [hT1]
        refine aE_aload_n dX12_findFars_146 rfl rfl ?_
        refine aE_getf (v := .ref 121) dX12_findFars_147 fw_X12_75 (lt_nn (by decide)) rfl rfl ?_
        refine aE_iload dX12_findFars_150 rfl ?_
        refine aE_iload_n dX12_findFars_152 rfl rfl ?_
        refine aE_aload_n dX12_findFars_153 rfl rfl ?_
        refine aE_getf (v := .ref 121) dX12_findFars_154 fw_X12_75 (lt_nn (by decide)) rfl rfl ?_
        refine aE_iload dX12_findFars_157 rfl ?_
        refine aE_ildM dX12_findFars_159 (lt_nn (by decide)) rfl (by decide) rfl (by omega) ?_
        refine aE_top (x' := T1 (to k) (fr k)) (pfk_at ht8 hf8) ?_
        refine aE_icmp_ge (tgt := 167) dX12_findFars_160 (by decide) (fun h160 => ?_) (fun h160 => ?_)
        · skip
          refine aE_aload_n dX12_findFars_167 rfl rfl ?_
          refine aE_getf (v := .ref 121) dX12_findFars_168 fw_X12_75 (lt_nn (by decide)) rfl rfl ?_
          refine aE_iload dX12_findFars_171 rfl ?_
          refine aE_ildM dX12_findFars_173 (lt_nn (by decide)) rfl (by decide) rfl (by omega) ?_
          refine aE_top (x' := T1 (to k) (fr k)) (pfk_at ht8 hf8) ?_
          refine aE_top (x' := mn (I 104 k + snow) (T1 (to k) (fr k))) (by unfold mn; first | rw [if_neg (Int32.not_lt.mpr h160)] | rw [if_pos (Int32.not_le.mp h160)]) ?_
          refine aE_istM dX12_findFars_174 (lt_nn (by decide)) rfl (by decide) rfl (by omega) ?_
          refine aE_I (pfk_set ht8 hf8) ?_
          refine aE_I (I' := pfk I 64 (stM fr to (I 104) (I 105) snow (k + 1))) (by simp only [stM]; rw [if_pos h66, hT, ← hT1]; rfl) ?_
          refine aE_iinc dX12_findFars_175 rfl (a_inc _) (by decide) rfl (aE_loc (ls' := [_, _, _, _, _, _]) rfl ?_)
          refine aE_goto (tgt := 52) dX12_findFars_178 (by decide) ?_
          first
            | exact ih (k + 1) (by omega) _ _ _
            | (refine aE_I (I' := pfk I 64 (stM fr to (I 104) (I 105) snow (k + 1))) (by simp only [stM]; rw [if_neg h66, hT]) ?_; exact ih (k + 1) (by omega) _ _ _)
        · skip
          refine aE_iload_n dX12_findFars_163 rfl rfl ?_
          refine aE_goto (tgt := 174) dX12_findFars_164 (by decide) ?_
          refine aE_top (x' := mn (I 104 k + snow) (T1 (to k) (fr k))) (by unfold mn; first | rw [if_neg (Int32.not_lt.mpr h160)] | rw [if_pos (Int32.not_le.mp h160)]) ?_
          refine aE_istM dX12_findFars_174 (lt_nn (by decide)) rfl (by decide) rfl (by omega) ?_
          refine aE_I (pfk_set ht8 hf8) ?_
          refine aE_I (I' := pfk I 64 (stM fr to (I 104) (I 105) snow (k + 1))) (by simp only [stM]; rw [if_pos h66, hT, ← hT1]; rfl) ?_
          refine aE_iinc dX12_findFars_175 rfl (a_inc _) (by decide) rfl (aE_loc (ls' := [_, _, _, _, _, _]) rfl ?_)
          refine aE_goto (tgt := 52) dX12_findFars_178 (by decide) ?_
          first
            | exact ih (k + 1) (by omega) _ _ _
            | (refine aE_I (I' := pfk I 64 (stM fr to (I 104) (I 105) snow (k + 1))) (by simp only [stM]; rw [if_neg h66, hT]) ?_; exact ih (k + 1) (by omega) _ _ _)
    · skip
      refine aE_goto (tgt := 175) dX12_findFars_69 (by decide) ?_
      refine aE_iinc dX12_findFars_175 rfl (a_inc _) (by decide) rfl (aE_loc (ls' := [_, _, _, _, _, _]) rfl ?_)
      refine aE_goto (tgt := 52) dX12_findFars_178 (by decide) ?_
      first
        | exact ih (k + 1) (by omega) _ _ _
        | (refine aE_I (I' := pfk I 64 (stM fr to (I 104) (I 105) snow (k + 1))) (by simp only [stM]; rw [if_neg h66, hT]) ?_; exact ih (k + 1) (by omega) _ _ _)
theorem l_ff6 (snow : Int32) (m a : Nat) (T : tT) (hm : m < 8) (ha : a < 8) (k0 : ∀ l5, aE z mX12_findFars (rK 0) Q 270 [some (.ref 101), some (.int snow), some (.int (nI m)), some (.int (nI a)), some (.int (nI 8)), l5] [] (nn pl) (MM (pfk I 64 (fwB T m a 8)) sp pl) 0 0) : ∀ (d k : Nat), k + d = 8 → ∀ l5, aE z mX12_findFars (rK 0) Q 200 [some (.ref 101), some (.int snow), some (.int (nI m)), some (.int (nI a)), some (.int (nI k)), l5] [] (nn pl) (MM (pfk I 64 (fwB T m a k)) sp pl) 0 0 := by
  intro d
  induction d with
  | zero =>
    intro k hk l5
    have hk : k = 8 := by omega
    subst hk
    refine aE_iload dX12_findFars_200 rfl ?_
    refine aE_bipush (v := 8) dX12_findFars_202 (by decide) ?_
    refine aE_icmp_ge (tgt := 270) dX12_findFars_204 (by decide) (fun h204 => ?_) (fun h204 => absurd (by decide) h204)
    exact k0 l5
  | succ d ih =>
    intro k hk l5
    refine aE_iload dX12_findFars_200 rfl ?_
    refine aE_bipush (v := 8) dX12_findFars_202 (by decide) ?_
    refine aE_icmp_ge (tgt := 270) dX12_findFars_204 (by decide) (fun h204 => absurd h204 (nI_ge (b := 8) (by omega) (by omega))) (fun h204 => ?_)
    refine aE_aload_n dX12_findFars_207 rfl rfl ?_
    refine aE_getf (v := .ref 121) dX12_findFars_208 fw_X12_75 (lt_nn (by decide)) rfl rfl ?_
    refine aE_bipush (v := 8) dX12_findFars_211 (by decide) ?_
    refine aE_iload_n dX12_findFars_213 rfl rfl ?_
    refine aE_imul dX12_findFars_214 ?_
    refine aE_top (x' := nI (8 * a)) (by rw [show (8 : Int32) = nI 8 from rfl, pk_mul]) ?_
    refine aE_iload_n dX12_findFars_215 rfl rfl ?_
    refine aE_iadd dX12_findFars_216 ?_
    refine aE_top (nI_add (8 * a) m) ?_
    refine aE_ildM dX12_findFars_217 (lt_nn (by decide)) rfl (by decide) rfl (by omega) ?_
    refine aE_top (x' := (fwB T m a k) a m) (pfk_at (by omega) (by omega)) ?_
    refine aE_aload_n dX12_findFars_218 rfl rfl ?_
    refine aE_getf (v := .ref 121) dX12_findFars_219 fw_X12_75 (lt_nn (by decide)) rfl rfl ?_
    refine aE_bipush (v := 8) dX12_findFars_222 (by decide) ?_
    refine aE_iload_n dX12_findFars_224 rfl rfl ?_
    refine aE_imul dX12_findFars_225 ?_
    refine aE_top (x' := nI (8 * m)) (by rw [show (8 : Int32) = nI 8 from rfl, pk_mul]) ?_
    refine aE_iload dX12_findFars_226 rfl ?_
    refine aE_iadd dX12_findFars_228 ?_
    refine aE_top (nI_add (8 * m) k) ?_
    refine aE_ildM dX12_findFars_229 (lt_nn (by decide)) rfl (by decide) rfl (by omega) ?_
    refine aE_top (x' := (fwB T m a k) m k) (pfk_at (by omega) (by omega)) ?_
    refine aE_iadd dX12_findFars_230 ?_
    refine aE_istore dX12_findFars_231 (by decide) rfl (aE_loc (ls' := [_, _, _, _, _, _]) rfl ?_)
    refine aE_iload dX12_findFars_233 rfl ?_
    refine aE_aload_n dX12_findFars_235 rfl rfl ?_
    refine aE_getf (v := .ref 121) dX12_findFars_236 fw_X12_75 (lt_nn (by decide)) rfl rfl ?_
    refine aE_bipush (v := 8) dX12_findFars_239 (by decide) ?_
    refine aE_iload_n dX12_findFars_241 rfl rfl ?_
    refine aE_imul dX12_findFars_242 ?_
    refine aE_top (x' := nI (8 * a)) (by rw [show (8 : Int32) = nI 8 from rfl, pk_mul]) ?_
    refine aE_iload dX12_findFars_243 rfl ?_
    refine aE_iadd dX12_findFars_245 ?_
    refine aE_top (nI_add (8 * a) k) ?_
    refine aE_ildM dX12_findFars_246 (lt_nn (by decide)) rfl (by decide) rfl (by omega) ?_
    refine aE_top (x' := (fwB T m a k) a k) (pfk_at (by omega) (by omega)) ?_
    refine aE_icmp_ge (tgt := 264) dX12_findFars_247 (by decide) (fun h247 => ?_) (fun h247 => ?_)
    · skip
      refine aE_I (I' := pfk I 64 (fwB T m a (k + 1))) (by
        simp only [fwB, mn]
        first
          | rw [if_pos (Int32.not_le.mp h247)]
          | rw [if_neg (Int32.not_lt.mpr h247), tset_same]) ?_
      refine aE_iinc dX12_findFars_264 rfl (a_inc _) (by decide) rfl (aE_loc (ls' := [_, _, _, _, _, _]) rfl ?_)
      refine aE_goto (tgt := 200) dX12_findFars_267 (by decide) ?_
      exact ih (k + 1) (by omega) _
    · skip
      refine aE_aload_n dX12_findFars_250 rfl rfl ?_
      refine aE_getf (v := .ref 121) dX12_findFars_251 fw_X12_75 (lt_nn (by decide)) rfl rfl ?_
      refine aE_bipush (v := 8) dX12_findFars_254 (by decide) ?_
      refine aE_iload_n dX12_findFars_256 rfl rfl ?_
      refine aE_imul dX12_findFars_257 ?_
      refine aE_top (x' := nI (8 * a)) (by rw [show (8 : Int32) = nI 8 from rfl, pk_mul]) ?_
      refine aE_iload dX12_findFars_258 rfl ?_
      refine aE_iadd dX12_findFars_260 ?_
      refine aE_top (nI_add (8 * a) k) ?_
      refine aE_iload dX12_findFars_261 rfl ?_
      refine aE_istM dX12_findFars_263 (lt_nn (by decide)) rfl (by decide) rfl (by omega) ?_
      refine aE_I (pfk_set (by omega) (by omega)) ?_
      refine aE_I (I' := pfk I 64 (fwB T m a (k + 1))) (by
        simp only [fwB, mn]
        first
          | rw [if_pos (Int32.not_le.mp h247)]
          | rw [if_neg (Int32.not_lt.mpr h247), tset_same]) ?_
      refine aE_iinc dX12_findFars_264 rfl (a_inc _) (by decide) rfl (aE_loc (ls' := [_, _, _, _, _, _]) rfl ?_)
      refine aE_goto (tgt := 200) dX12_findFars_267 (by decide) ?_
      exact ih (k + 1) (by omega) _
theorem l_ff5 (snow : Int32) (m : Nat) (T : tT) (hm : m < 8) (k0 : ∀ l4 l5, aE z mX12_findFars (rK 0) Q 276 [some (.ref 101), some (.int snow), some (.int (nI m)), some (.int (nI 8)), l4, l5] [] (nn pl) (MM (pfk I 64 (fwA T m 8 8)) sp pl) 0 0) : ∀ (d a : Nat), a + d = 8 → ∀ l4 l5, aE z mX12_findFars (rK 0) Q 191 [some (.ref 101), some (.int snow), some (.int (nI m)), some (.int (nI a)), l4, l5] [] (nn pl) (MM (pfk I 64 (fwA T m 8 a)) sp pl) 0 0 := by
  intro d
  induction d with
  | zero =>
    intro a ha l4 l5
    have ha : a = 8 := by omega
    subst ha
    refine aE_iload_n dX12_findFars_191 rfl rfl ?_
    refine aE_bipush (v := 8) dX12_findFars_192 (by decide) ?_
    refine aE_icmp_ge (tgt := 276) dX12_findFars_194 (by decide) (fun h194 => ?_) (fun h194 => absurd (by decide) h194)
    exact k0 l4 l5
  | succ d ih =>
    intro a ha l4 l5
    refine aE_iload_n dX12_findFars_191 rfl rfl ?_
    refine aE_bipush (v := 8) dX12_findFars_192 (by decide) ?_
    refine aE_icmp_ge (tgt := 276) dX12_findFars_194 (by decide) (fun h194 => absurd h194 (nI_ge (b := 8) (by omega) (by omega))) (fun h194 => ?_)
    refine aE_iconst (v := 0) dX12_findFars_197 rfl ?_
    refine aE_istore dX12_findFars_198 (by decide) rfl (aE_loc (ls' := [_, _, _, _, _, _]) rfl ?_)
    refine l_ff6 snow m a (fwA T m 8 a) hm (by omega) (fun l5 => ?_) 8 0 (by omega) _
    refine aE_iinc dX12_findFars_270 rfl (a_inc _) (by decide) rfl (aE_loc (ls' := [_, _, _, _, _, _]) rfl ?_)
    refine aE_goto (tgt := 191) dX12_findFars_273 (by decide) ?_
    exact ih (a + 1) (by omega) _ _
theorem l_ff4 (snow : Int32) (T : tT) (hQ : Q none (nn pl) (MM (pfk I 64 (fwM T 8 8)) sp pl)) : ∀ (d m : Nat), m + d = 8 → ∀ l3 l4 l5, aE z mX12_findFars (rK 0) Q 183 [some (.ref 101), some (.int snow), some (.int (nI m)), l3, l4, l5] [] (nn pl) (MM (pfk I 64 (fwM T 8 m)) sp pl) 0 0 := by
  intro d
  induction d with
  | zero =>
    intro m hm l3 l4 l5
    have hm : m = 8 := by omega
    subst hm
    refine aE_iload_n dX12_findFars_183 rfl rfl ?_
    refine aE_bipush (v := 8) dX12_findFars_184 (by decide) ?_
    refine aE_icmp_ge (tgt := 282) dX12_findFars_186 (by decide) (fun h186 => ?_) (fun h186 => absurd (by decide) h186)
    refine aE_vret dX12_findFars_282 rfl ⟨by decide, by decide⟩ ?_
    exact hQ
  | succ d ih =>
    intro m hm l3 l4 l5
    refine aE_iload_n dX12_findFars_183 rfl rfl ?_
    refine aE_bipush (v := 8) dX12_findFars_184 (by decide) ?_
    refine aE_icmp_ge (tgt := 282) dX12_findFars_186 (by decide) (fun h186 => absurd h186 (nI_ge (b := 8) (by omega) (by omega))) (fun h186 => ?_)
    refine aE_iconst (v := 0) dX12_findFars_189 rfl ?_
    refine aE_istore_n dX12_findFars_190 rfl (by decide) rfl (aE_loc (ls' := [_, _, _, _, _, _]) rfl ?_)
    refine l_ff5 snow m (fwM T 8 m) (by omega) (fun l4 l5 => ?_) 8 0 (by omega) _ _
    refine aE_iinc dX12_findFars_276 rfl (a_inc _) (by decide) rfl (aE_loc (ls' := [_, _, _, _, _, _]) rfl ?_)
    refine aE_goto (tgt := 183) dX12_findFars_279 (by decide) ?_
    exact ih (m + 1) (by omega) _ _ _
theorem m_findFars (snow : Int32) (ns nc : Nat) (fr to : Nat → Nat) (hns : I 101 1 = nI ns) (h14 : ns ≤ 14) (h8 : nc ≤ 8) (hst : ∀ s, s < ns → fr s < nc ∧ to s < nc ∧ I 102 s = nI (fr s) ∧ I 103 s = nI (to s)) : aRuns mX12_findFars (rK 0) [.ref 101, .int snow] (nn pl) (MM I sp pl) (a_rv (nn pl) (MM (pfk I 64 (dTab fr to (I 104) (I 105) snow ns)) sp pl)) := by
  refine aRuns_of pn_X12_findFars (Nat.le_of_ble_eq_true rfl) (fun z => aE_loc (ls' := [_, _, _, _, _, _]) rfl ?_)
  refine aE_iconst (v := 0) dX12_findFars_0 rfl ?_
  refine aE_istore_n dX12_findFars_1 rfl (by decide) rfl (aE_loc (ls' := [_, _, _, _, _, _]) rfl ?_)
  refine aE_I (I' := pfk I (8 * 0) T0) pfk_0.symm ?_
  refine l_ff1 snow (fun l3 => ?_) 8 0 (by omega) _
  refine aE_iconst (v := 0) dX12_findFars_50 rfl ?_
  refine aE_istore_n dX12_findFars_51 rfl (by decide) rfl (aE_loc (ls' := [_, _, _, _, _, _]) rfl ?_)
  refine l_ff3 snow ns nc fr to hns h14 h8 hst (fun l3 l4 l5 => ?_) ns 0 (by omega) _ _ _
  refine aE_iconst (v := 0) dX12_findFars_181 rfl ?_
  refine aE_istore_n dX12_findFars_182 rfl (by decide) rfl (aE_loc (ls' := [_, _, _, _, _, _]) rfl ?_)
  exact l_ff4 snow (stM fr to (I 104) (I 105) snow ns) ⟨rfl, rfl, rfl⟩ 8 0 (by omega) _ _ _
set_option maxRecDepth 20000 in
theorem m_far (a b : Int32) (ns nc : Nat) (fr to : Nat → Nat) (hnc : I 101 0 = nI nc) (hns : I 101 1 = nI ns) (h14 : ns ≤ 14) (h8 : nc ≤ 8) (hst : ∀ s, s < ns → fr s < nc ∧ to s < nc ∧ I 102 s = nI (fr s) ∧ I 103 s = nI (to s)) (hB : (wi a 0 (I 101 0 - 1) = 0 ∨ wi b 0 (I 101 0 - 1) = 0) → qi Q (-1000001) (fndM I) sp pl) (hN : ∀ x y, x < nc → y < nc → a = nI x → b = nI y → ¬ dTab fr to (I 104) (I 105) 0 ns x y < 1000000 → qi Q (-1000004) (fndM (pfk I 64 (dTab fr to (I 104) (I 105) 0 ns))) sp pl) (hO : ∀ x y, x < nc → y < nc → a = nI x → b = nI y → dTab fr to (I 104) (I 105) 0 ns x y < 1000000 → qi Q (dTab fr to (I 104) (I 105) 0 ns x y) (pfk I 64 (dTab fr to (I 104) (I 105) 0 ns)) sp pl) : aRuns mX12_far (rK 2) [.ref 101, .int a, .int b] (nn pl) (MM I sp pl) (Q) := by
  refine aRuns_of pn_X12_far (Nat.le_of_ble_eq_true rfl) (fun z => aE_loc (ls' := [_, _, _, _]) rfl ?_)
  refine aE_aload_n dX12_far_0 rfl rfl ?_
  refine aE_iload_n dX12_far_1 rfl rfl ?_
  refine aE_cVi dX12_far_2 lk_X12_181 mv_X12_isCorner (c_isCorner _) rfl (lt_nn (by decide)) rfl rfl ⟨by decide, by decide⟩ (Nat.le_of_ble_eq_true rfl) ⟨rfl, rfl⟩ ⟨by decide, by decide⟩ ?_
  refine aE_if_eq (tgt := 16) dX12_far_5 (by decide) (fun h5 => ?_) (fun h5 => ?_)
  · skip
    refine aE_aload_n dX12_far_16 rfl rfl ?_
    refine aE_ldc dX12_far_17 ct_X12_185 ?_
    refine aE_cVi dX12_far_19 lk_X12_177 mv_X12_finds (c_finds _) rfl (lt_nn (by decide)) rfl rfl ⟨by decide, by decide⟩ (Nat.le_of_ble_eq_true rfl) ⟨rfl, rfl⟩ ⟨by decide, by decide⟩ ?_
    refine aE_iret dX12_far_22 rfl ⟨by decide, by decide⟩ ?_
    refine hB ?_
    first | exact Or.inl ‹_› | exact Or.inr ‹_›
  · skip
    refine aE_aload_n dX12_far_8 rfl rfl ?_
    refine aE_iload_n dX12_far_9 rfl rfl ?_
    refine aE_cVi dX12_far_10 lk_X12_181 mv_X12_isCorner (c_isCorner _) rfl (lt_nn (by decide)) rfl rfl ⟨by decide, by decide⟩ (Nat.le_of_ble_eq_true rfl) ⟨rfl, rfl⟩ ⟨by decide, by decide⟩ ?_
    refine aE_if_ne (tgt := 23) dX12_far_13 (by decide) (fun h13 => ?_) (fun h13 => ?_)
    · skip
      obtain ⟨x, hx, rfl⟩ := wi_ix (by omega) (hnc ▸ h5)
      obtain ⟨y, hy, rfl⟩ := wi_ix (by omega) (hnc ▸ h13)
      refine aE_aload_n dX12_far_23 rfl rfl ?_
      refine aE_iconst (v := 0) dX12_far_24 rfl ?_
      refine aE_cVv dX12_far_25 lk_X12_193 mv_X12_findFars (m_findFars 0 ns nc fr to hns h14 h8 hst) rfl (lt_nn (by decide)) rfl rfl ⟨by decide, by decide⟩ (Nat.le_of_ble_eq_true rfl) ⟨rfl, rfl⟩ ⟨by decide, by decide⟩ ?_
      refine aE_aload_n dX12_far_28 rfl rfl ?_
      refine aE_getf (v := .ref 121) dX12_far_29 fw_X12_75 (lt_nn (by decide)) rfl rfl ?_
      refine aE_bipush (v := 8) dX12_far_32 (by decide) ?_
      refine aE_iload_n dX12_far_34 rfl rfl ?_
      refine aE_imul dX12_far_35 ?_
      refine aE_top (x' := nI (8 * x)) (by rw [show (8 : Int32) = nI 8 from rfl, pk_mul]) ?_
      refine aE_iload_n dX12_far_36 rfl rfl ?_
      refine aE_iadd dX12_far_37 ?_
      refine aE_top (nI_add (8 * x) y) ?_
      refine aE_ildM dX12_far_38 (lt_nn (by decide)) rfl (by decide) rfl (by omega) ?_
      refine aE_top (x' := dTab fr to (I 104) (I 105) 0 ns x y) (pfk_at (by omega) (by omega)) ?_
      refine aE_istore_n dX12_far_39 rfl (by decide) rfl (aE_loc (ls' := [_, _, _, _]) rfl ?_)
      refine aE_iload_n dX12_far_40 rfl rfl ?_
      refine aE_ldc dX12_far_41 ct_X12_192 ?_
      refine aE_icmp_lt (tgt := 55) dX12_far_43 (by decide) (fun h43 => ?_) (fun h43 => ?_)
      · skip
        refine aE_iload_n dX12_far_55 rfl rfl ?_
        refine aE_iret dX12_far_56 rfl ⟨by decide, by decide⟩ ?_
        first | exact hN x y hx hy rfl rfl h43 | exact hO x y hx hy rfl rfl h43
      · skip
        refine aE_aload_n dX12_far_46 rfl rfl ?_
        refine aE_ldc dX12_far_47 ct_X12_197 ?_
        refine aE_cVi dX12_far_49 lk_X12_177 mv_X12_finds (c_finds _) rfl (lt_nn (by decide)) rfl rfl ⟨by decide, by decide⟩ (Nat.le_of_ble_eq_true rfl) ⟨rfl, rfl⟩ ⟨by decide, by decide⟩ ?_
        refine aE_goto (tgt := 56) dX12_far_52 (by decide) ?_
        refine aE_iret dX12_far_56 rfl ⟨by decide, by decide⟩ ?_
        first | exact hN x y hx hy rfl rfl h43 | exact hO x y hx hy rfl rfl h43
    · skip
      refine aE_aload_n dX12_far_16 rfl rfl ?_
      refine aE_ldc dX12_far_17 ct_X12_185 ?_
      refine aE_cVi dX12_far_19 lk_X12_177 mv_X12_finds (c_finds _) rfl (lt_nn (by decide)) rfl rfl ⟨by decide, by decide⟩ (Nat.le_of_ble_eq_true rfl) ⟨rfl, rfl⟩ ⟨by decide, by decide⟩ ?_
      refine aE_iret dX12_far_22 rfl ⟨by decide, by decide⟩ ?_
      refine hB ?_
      first | exact Or.inl ‹_› | exact Or.inr ‹_›

end MFAR
