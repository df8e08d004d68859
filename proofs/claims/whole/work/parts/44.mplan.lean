/-- the model's stops and distances -/
def mdH (I : Nat → Nat → Int32) (nst : Nat) (sa : Nat → Nat) (D : tT) : Prop := I 101 3 = nI nst ∧ nst ≤ 10 ∧ (∀ k, k < nst → sa k < 8 ∧ I 111 k = nI (sa k)) ∧ ∀ a b, a < 8 → b < 8 → I 121 (8 * a + b) = D a b
/-- since I0 only the lengths of S have been written -/
def frL (I0 : Nat → Nat → Int32) (S : Nat) (I : Nat → Nat → Int32) : Prop := (∀ q i, q ≠ 122 → q ≠ 123 → I q i = I0 q i) ∧ (∀ i, ¬ (10 * S ≤ i ∧ i < 10 * S + 10) → I 122 i = I0 122 i) ∧ ∀ i, i ≠ S → I 123 i = I0 123 i
theorem frL_rf (I0 : Nat → Nat → Int32) (S : Nat) : frL I0 S I0 := ⟨fun _ _ _ _ => rfl, fun _ _ => rfl, fun _ _ => rfl⟩
theorem frL_122 {I0 I : Nat → Nat → Int32} {S f : Nat} {v : Int32} (h : frL I0 S I) (hf : f < 10) : frL I0 S (iu I 122 (10 * S + f) v) :=
  ⟨fun q i h1 h2 => (iu_ne (Or.inl h1)).trans (h.1 q i h1 h2), fun i hi => (iu_ne (by omega)).trans (h.2.1 i hi), fun i hi => (iu_ne (by omega)).trans (h.2.2 i hi)⟩
theorem frL_123 {I0 I : Nat → Nat → Int32} {S : Nat} {v : Int32} (h : frL I0 S I) : frL I0 S (iu I 123 S v) :=
  ⟨fun q i h1 h2 => (iu_ne (Or.inl h2)).trans (h.1 q i h1 h2), fun i hi => (iu_ne (by omega)).trans (h.2.1 i hi), fun i hi => (iu_ne (by omega)).trans (h.2.2 i hi)⟩
theorem mdH_fr {I0 I : Nat → Nat → Int32} {nst : Nat} {sa : Nat → Nat} {D : tT} (h : mdH I0 nst sa D) (hq : ∀ q i, (q = 101 ∧ i = 3) ∨ q = 111 ∨ q = 121 → I q i = I0 q i) : mdH I nst sa D :=
  ⟨(hq 101 3 (by omega)).trans h.1, h.2.1, fun k hk => ⟨(h.2.2.1 k hk).1, (hq 111 k (by omega)).trans (h.2.2.1 k hk).2⟩, fun a b ha hb => (hq 121 _ (by omega)).trans (h.2.2.2 a b ha hb)⟩
theorem tb_of {S k : Nat} (h : ¬ (if S.testBit k = true then (1 : Int32) else 0) = 0) : S.testBit k = true := by
  by_cases q : S.testBit k = true
  · exact q
  · rw [if_neg q] at h; exact absurd rfl h
theorem tb_no {S k : Nat} (h : (if S.testBit k = true then (1 : Int32) else 0) = 0) : ¬ S.testBit k = true := by
  intro q; rw [if_pos q] at h; exact absurd h (by decide)
section MPL
variable {z : Nat × (Nat → Int32)} {n : Nat} {mem : aM} {I : Nat → Nat → Int32} {sp : Nat → Nat} {pl : Bool} {Q : Option Value → Nat → aM → Prop} {R : Room}
theorem l_len2 (nst sc S k R hc : Nat) (sa : Nat → Nat) (D : tT) (hmd : mdH I nst sa D) (hk : k < nst) (hR : R < 1024) (htab : ∀ g, g < nst → R.testBit g = true → I 122 (10 * R + g) = fB nst (fun f g => D (sa f) (sa g)) (fun f => D (sa f) hc) R g) (k0 : ∀ l7, aE z mX12_lengths (rK 1) Q 156 [some (.ref 101), some (.int (nI sc)), some (.int (nI S)), some (.int (nI k)), some (.int (nI R)), some (.int (minF R (fun g => D (sa k) (sa g) + fB nst (fun f g => D (sa f) (sa g)) (fun f => D (sa f) hc) R g) (if R = 0 then D (sa k) hc else 1000000) nst)), some (.int (nI nst)), l7] [] (nn pl) (MM I sp pl) 0 0) : ∀ (d g : Nat), g + d = nst → ∀ l7, aE z mX12_lengths (rK 1) Q 74 [some (.ref 101), some (.int (nI sc)), some (.int (nI S)), some (.int (nI k)), some (.int (nI R)), some (.int (minF R (fun g => D (sa k) (sa g) + fB nst (fun f g => D (sa f) (sa g)) (fun f => D (sa f) hc) R g) (if R = 0 then D (sa k) hc else 1000000) g)), some (.int (nI g)), l7] [] (nn pl) (MM I sp pl) 0 0 := by
  have h10 := hmd.2.1
  intro d
  induction d with
  | zero =>
    intro g hg l7
    have hg : g = nst := by omega
    subst hg
    refine aE_iload dX12_lengths_74 rfl ?_
    refine aE_aload_n dX12_lengths_76 rfl rfl ?_
    refine aE_geti dX12_lengths_77 fw_X12_166 (lt_nn (by decide)) rfl (by decide) rfl ?_
    refine aE_icmp_ge (tgt := 156) dX12_lengths_80 (by decide) (fun h80 => ?_) (fun h80 => absurd (by rw [hmd.1]; exact Int32.le_refl _) h80)
    exact k0 l7
  | succ d ih =>
    intro g hg l7
    refine aE_iload dX12_lengths_74 rfl ?_
    refine aE_aload_n dX12_lengths_76 rfl rfl ?_
    refine aE_geti dX12_lengths_77 fw_X12_166 (lt_nn (by decide)) rfl (by decide) rfl ?_
    refine aE_icmp_ge (tgt := 156) dX12_lengths_80 (by decide) (fun h80 => absurd h80 (by rw [hmd.1]; exact nI_ge (by omega) (by omega))) (fun h80 => ?_)
    refine aE_iload dX12_lengths_83 rfl ?_
    refine aE_iload dX12_lengths_85 rfl ?_
    refine aE_cSi dX12_lengths_87 lk_X12_206 ms_X12_has (m_has R g (by omega) (by omega)) rfl rfl ⟨by decide, by decide⟩ (Nat.le_of_ble_eq_true rfl) ⟨rfl, rfl⟩ ⟨by decide, by decide⟩ ?_
    refine aE_if_ne (tgt := 96) dX12_lengths_90 (by decide) (fun h90 => ?_) (fun h90 => ?_)
    · skip
      have hb := tb_of h90
      have hk8 := (hmd.2.2.1 k hk).1
      have hg8 := (hmd.2.2.1 g (by omega)).1
      refine aE_aload_n dX12_lengths_96 rfl rfl ?_
      refine aE_getf (v := .ref 121) dX12_lengths_97 fw_X12_75 (lt_nn (by decide)) rfl rfl ?_
      refine aE_bipush (v := 8) dX12_lengths_100 (by decide) ?_
      refine aE_aload_n dX12_lengths_102 rfl rfl ?_
      refine aE_getf (v := .ref 111) dX12_lengths_103 fw_X12_45 (lt_nn (by decide)) rfl rfl ?_
      refine aE_iload_n dX12_lengths_106 rfl rfl ?_
      refine aE_ildM dX12_lengths_107 (lt_nn (by decide)) rfl (by decide) rfl (by omega) ?_
      refine aE_top (x' := nI (sa k)) (hmd.2.2.1 k hk).2 ?_
      refine aE_imul dX12_lengths_108 ?_
      refine aE_top (x' := nI (8 * sa k)) (by rw [show (8 : Int32) = nI 8 from rfl, pk_mul]) ?_
      refine aE_aload_n dX12_lengths_109 rfl rfl ?_
      refine aE_getf (v := .ref 111) dX12_lengths_110 fw_X12_45 (lt_nn (by decide)) rfl rfl ?_
      refine aE_iload dX12_lengths_113 rfl ?_
      refine aE_ildM dX12_lengths_115 (lt_nn (by decide)) rfl (by decide) rfl (by omega) ?_
      refine aE_top (x' := nI (sa g)) (hmd.2.2.1 g (by omega)).2 ?_
      refine aE_iadd dX12_lengths_116 ?_
      refine aE_top (nI_add (8 * sa k) (sa g)) ?_
      refine aE_ildM dX12_lengths_117 (lt_nn (by decide)) rfl (by decide) rfl (by omega) ?_
      refine aE_top (x' := D (sa k) (sa g)) (hmd.2.2.2 _ _ hk8 hg8) ?_
      refine aE_aload_n dX12_lengths_118 rfl rfl ?_
      refine aE_getf (v := .ref 122) dX12_lengths_119 fw_X12_78 (lt_nn (by decide)) rfl rfl ?_
      refine aE_bipush (v := 10) dX12_lengths_122 (by decide) ?_
      refine aE_iload dX12_lengths_124 rfl ?_
      refine aE_imul dX12_lengths_126 ?_
      refine aE_top (x' := nI (10 * R)) (by rw [show (10 : Int32) = nI 10 from rfl, pk_mul]) ?_
      refine aE_iload dX12_lengths_127 rfl ?_
      refine aE_iadd dX12_lengths_129 ?_
      refine aE_top (nI_add (10 * R) g) ?_
      refine aE_ildM dX12_lengths_130 (lt_nn (by decide)) rfl (by decide) rfl (by omega) ?_
      refine aE_top (x' := fB nst (fun f g => D (sa f) (sa g)) (fun f => D (sa f) hc) R g) (htab g (by omega) hb) ?_
      refine aE_iadd dX12_lengths_131 ?_
      refine aE_istore dX12_lengths_132 (by decide) rfl (aE_loc (ls' := [_, _, _, _, _, _, _, _]) rfl ?_)
      refine aE_iload dX12_lengths_134 rfl ?_
      refine aE_iload dX12_lengths_136 rfl ?_
      refine aE_icmp_ge (tgt := 146) dX12_lengths_138 (by decide) (fun h138 => ?_) (fun h138 => ?_)
      · skip
        refine aE_iload dX12_lengths_146 rfl ?_
        refine aE_top (x' := minF R (fun g => D (sa k) (sa g) + fB nst (fun f g => D (sa f) (sa g)) (fun f => D (sa f) hc) R g) (if R = 0 then D (sa k) hc else 1000000) (g + 1)) (by rw [minF_s, if_pos hb]; unfold mn; first | rw [if_neg (Int32.not_lt.mpr h138)] | rw [if_pos (Int32.not_le.mp h138)]) ?_
        refine aE_istore dX12_lengths_148 (by decide) rfl (aE_loc (ls' := [_, _, _, _, _, _, _, _]) rfl ?_)
        refine aE_iinc dX12_lengths_150 rfl (a_inc _) (by decide) rfl (aE_loc (ls' := [_, _, _, _, _, _, _, _]) rfl ?_)
        refine aE_goto (tgt := 74) dX12_lengths_153 (by decide) ?_
        first
          | exact ih (g + 1) (by omega) _
          | (refine aE_loc (ls' := [some (.ref 101), some (.int (nI sc)), some (.int (nI S)), some (.int (nI k)), some (.int (nI R)), some (.int (minF R (fun g => D (sa k) (sa g) + fB nst (fun f g => D (sa f) (sa g)) (fun f => D (sa f) hc) R g) (if R = 0 then D (sa k) hc else 1000000) (g + 1))), some (.int (nI (g + 1))), _]) (by rw [minF_s, if_neg (tb_no (by first | exact h90 | exact Classical.not_not.mp h90))]) ?_; exact ih (g + 1) (by omega) _)
      · skip
        refine aE_iload dX12_lengths_141 rfl ?_
        refine aE_goto (tgt := 148) dX12_lengths_143 (by decide) ?_
        refine aE_top (x' := minF R (fun g => D (sa k) (sa g) + fB nst (fun f g => D (sa f) (sa g)) (fun f => D (sa f) hc) R g) (if R = 0 then D (sa k) hc else 1000000) (g + 1)) (by rw [minF_s, if_pos hb]; unfold mn; first | rw [if_neg (Int32.not_lt.mpr h138)] | rw [if_pos (Int32.not_le.mp h138)]) ?_
        refine aE_istore dX12_lengths_148 (by decide) rfl (aE_loc (ls' := [_, _, _, _, _, _, _, _]) rfl ?_)
        refine aE_iinc dX12_lengths_150 rfl (a_inc _) (by decide) rfl (aE_loc (ls' := [_, _, _, _, _, _, _, _]) rfl ?_)
        refine aE_goto (tgt := 74) dX12_lengths_153 (by decide) ?_
        first
          | exact ih (g + 1) (by omega) _
          | (refine aE_loc (ls' := [some (.ref 101), some (.int (nI sc)), some (.int (nI S)), some (.int (nI k)), some (.int (nI R)), some (.int (minF R (fun g => D (sa k) (sa g) + fB nst (fun f g => D (sa f) (sa g)) (fun f => D (sa f) hc) R g) (if R = 0 then D (sa k) hc else 1000000) (g + 1))), some (.int (nI (g + 1))), _]) (by rw [minF_s, if_neg (tb_no (by first | exact h90 | exact Classical.not_not.mp h90))]) ?_; exact ih (g + 1) (by omega) _)
    · skip
      refine aE_goto (tgt := 150) dX12_lengths_93 (by decide) ?_
      refine aE_iinc dX12_lengths_150 rfl (a_inc _) (by decide) rfl (aE_loc (ls' := [_, _, _, _, _, _, _, _]) rfl ?_)
      refine aE_goto (tgt := 74) dX12_lengths_153 (by decide) ?_
      first
        | exact ih (g + 1) (by omega) _
        | (refine aE_loc (ls' := [some (.ref 101), some (.int (nI sc)), some (.int (nI S)), some (.int (nI k)), some (.int (nI R)), some (.int (minF R (fun g => D (sa k) (sa g) + fB nst (fun f g => D (sa f) (sa g)) (fun f => D (sa f) hc) R g) (if R = 0 then D (sa k) hc else 1000000) (g + 1))), some (.int (nI (g + 1))), _]) (by rw [minF_s, if_neg (tb_no (by first | exact h90 | exact Classical.not_not.mp h90))]) ?_; exact ih (g + 1) (by omega) _)
theorem bdiff_sub (a b : Nat) : bdiff (bdiff a b) a = 0 := by
  apply Nat.eq_of_testBit_eq
  intro i
  rw [bdiff_tb, bdiff_tb]
  cases a.testBit i <;> simp
theorem l_len1 (I0 : Nat → Nat → Int32) (nst sc S hc : Nat) (sa : Nat → Nat) (D : tT) (hmd0 : mdH I0 nst sa D) (hS : S < 1024) (hsc : sc < 4) (hhc : hc < 8) (hat : I0 107 sc = nI hc) (htab : ∀ R, R < S → bdiff R S = 0 → ∀ g, g < nst → R.testBit g = true → I0 122 (10 * R + g) = fB nst (fun f g => D (sa f) (sa g)) (fun f => D (sa f) hc) R g) (hQ : ∀ I, frL I0 S I → (∀ f, f < nst → S.testBit f = true → I 122 (10 * S + f) = fB nst (fun f g => D (sa f) (sa g)) (fun f => D (sa f) hc) S f) → I 123 S = leB nst (fun f g => D (sa f) (sa g)) (fun f => D (sa f) hc) S → Q none (nn pl) (MM I sp pl)) : ∀ (d k : Nat), k + d = nst → ∀ (I : Nat → Nat → Int32) (l4 l5 l6 l7 : Option Value), frL I0 S I → (∀ f, f < k → S.testBit f = true → I 122 (10 * S + f) = fB nst (fun f g => D (sa f) (sa g)) (fun f => D (sa f) hc) S f) → I 123 S = minF S (fB nst (fun f g => D (sa f) (sa g)) (fun f => D (sa f) hc) S) 1000000 k → aE z mX12_lengths (rK 1) Q 10 [some (.ref 101), some (.int (nI sc)), some (.int (nI S)), some (.int (nI k)), l4, l5, l6, l7] [] (nn pl) (MM I sp pl) 0 0 := by
  have h10 := hmd0.2.1
  intro d
  induction d with
  | zero =>
    intro k hk0 I l4 l5 l6 l7 hfr hfs hle
    have hmd := mdH_fr hmd0 (I := I) (fun q i hq => hfr.1 q i (by omega) (by omega))
    have hk0 : k = nst := by omega
    subst hk0
    refine aE_iload_n dX12_lengths_10 rfl rfl ?_
    refine aE_aload_n dX12_lengths_11 rfl rfl ?_
    refine aE_geti dX12_lengths_12 fw_X12_166 (lt_nn (by decide)) rfl (by decide) rfl ?_
    refine aE_icmp_ge (tgt := 221) dX12_lengths_15 (by decide) (fun h15 => ?_) (fun h15 => absurd (by rw [hmd.1]; exact Int32.le_refl _) h15)
    refine aE_vret dX12_lengths_221 rfl ⟨by decide, by decide⟩ ?_
    exact hQ I hfr hfs hle
  | succ d ih =>
    intro k hk0 I l4 l5 l6 l7 hfr hfs hle
    have hmd := mdH_fr hmd0 (I := I) (fun q i hq => hfr.1 q i (by omega) (by omega))
    refine aE_iload_n dX12_lengths_10 rfl rfl ?_
    refine aE_aload_n dX12_lengths_11 rfl rfl ?_
    refine aE_geti dX12_lengths_12 fw_X12_166 (lt_nn (by decide)) rfl (by decide) rfl ?_
    refine aE_icmp_ge (tgt := 221) dX12_lengths_15 (by decide) (fun h15 => absurd h15 (by rw [hmd.1]; exact nI_ge (by omega) (by omega))) (fun h15 => ?_)
    refine aE_iload_n dX12_lengths_18 rfl rfl ?_
    refine aE_iload_n dX12_lengths_19 rfl rfl ?_
    refine aE_cSi dX12_lengths_20 lk_X12_206 ms_X12_has (m_has S k (by omega) (by omega)) rfl rfl ⟨by decide, by decide⟩ (Nat.le_of_ble_eq_true rfl) ⟨rfl, rfl⟩ ⟨by decide, by decide⟩ ?_
    refine aE_if_ne (tgt := 29) dX12_lengths_23 (by decide) (fun h23 => ?_) (fun h23 => ?_)
    · skip
      have hb := tb_of h23
      have hk : k < nst := by omega
      obtain ⟨R, hRe⟩ : ∃ R, bdiff S (2 ^ k) = R := ⟨_, rfl⟩
      have hRS : R < S := hRe ▸ bdiff_lt hb
      have hk8 := (hmd.2.2.1 k hk).1
      refine aE_iload_n dX12_lengths_29 rfl rfl ?_
      refine aE_iconst (v := 1) dX12_lengths_30 rfl ?_
      refine aE_iload_n dX12_lengths_31 rfl rfl ?_
      refine aE_ishl dX12_lengths_32 ?_
      refine aE_top (nb_1shl (by omega)) ?_
      refine aE_iconst (v := -1) dX12_lengths_33 rfl ?_
      refine aE_ixor dX12_lengths_34 ?_
      refine aE_iand dX12_lengths_35 ?_
      refine aE_top (x' := nI R) (by rw [nb_andn, hRe]) ?_
      refine aE_istore dX12_lengths_36 (by decide) rfl (aE_loc (ls' := [_, _, _, _, _, _, _, _]) rfl ?_)
      refine aE_iload dX12_lengths_38 rfl ?_
      refine aE_if_ne (tgt := 67) dX12_lengths_40 (by decide) (fun h40 => ?_) (fun h40 => ?_)
      · skip
        refine aE_ldc dX12_lengths_67 ct_X12_192 ?_
        refine aE_top (x' := (if R = 0 then D (sa k) hc else 1000000)) (by first | rw [if_neg (fun q => h40 (by rw [q]; rfl))] | rw [if_pos ((nI_eq (b := 0) (by omega) (by omega)).mp h40)]) ?_
        refine aE_istore dX12_lengths_69 (by decide) rfl (aE_loc (ls' := [_, _, _, _, _, _, _, _]) rfl ?_)
        refine aE_iconst (v := 0) dX12_lengths_71 rfl ?_
        refine aE_istore dX12_lengths_72 (by decide) rfl (aE_loc (ls' := [_, _, _, _, _, _, _, _]) rfl ?_)
        refine l_len2 nst sc S k R hc sa D hmd hk (by omega) (fun g hg hgb => ?_) (fun l7 => ?_) nst 0 (by omega) _
        · rw [hfr.2.1 (10 * R + g) (by omega)]
          exact htab R hRS (by rw [← hRe]; exact bdiff_sub _ _) g hg hgb
        refine aE_iload dX12_lengths_156 rfl ?_
        refine aE_ldc dX12_lengths_158 ct_X12_192 ?_
        refine aE_icmp_lt (tgt := 168) dX12_lengths_160 (by decide) (fun h160 => ?_) (fun h160 => ?_)
        · skip
          refine aE_iload dX12_lengths_168 rfl ?_
          refine aE_iconst (v := 1) dX12_lengths_170 rfl ?_
          refine aE_iadd dX12_lengths_171 ?_
          refine aE_top (x' := fB nst (fun f g => D (sa f) (sa g)) (fun f => D (sa f) hc) S k) (by rw [fB_eq hb, hRe]; unfold finV; first | rw [if_neg (Int32.not_le.mpr h160)] | rw [if_pos (Int32.not_lt.mp h160)]) ?_
          refine aE_istore dX12_lengths_172 (by decide) rfl (aE_loc (ls' := [_, _, _, _, _, _, _, _]) rfl ?_)
          refine aE_aload_n dX12_lengths_174 rfl rfl ?_
          refine aE_getf (v := .ref 122) dX12_lengths_175 fw_X12_78 (lt_nn (by decide)) rfl rfl ?_
          refine aE_bipush (v := 10) dX12_lengths_178 (by decide) ?_
          refine aE_iload_n dX12_lengths_180 rfl rfl ?_
          refine aE_imul dX12_lengths_181 ?_
          refine aE_top (x' := nI (10 * S)) (by rw [show (10 : Int32) = nI 10 from rfl, pk_mul]) ?_
          refine aE_iload_n dX12_lengths_182 rfl rfl ?_
          refine aE_iadd dX12_lengths_183 ?_
          refine aE_top (nI_add (10 * S) k) ?_
          refine aE_iload dX12_lengths_184 rfl ?_
          refine aE_istM dX12_lengths_186 (lt_nn (by decide)) rfl (by decide) rfl (by omega) ?_
          refine aE_aload_n dX12_lengths_187 rfl rfl ?_
          refine aE_getf (v := .ref 123) dX12_lengths_188 fw_X12_81 (lt_nn (by decide)) rfl rfl ?_
          refine aE_iload_n dX12_lengths_191 rfl rfl ?_
          refine aE_iload dX12_lengths_192 rfl ?_
          refine aE_aload_n dX12_lengths_194 rfl rfl ?_
          refine aE_getf (v := .ref 123) dX12_lengths_195 fw_X12_81 (lt_nn (by decide)) rfl rfl ?_
          refine aE_iload_n dX12_lengths_198 rfl rfl ?_
          refine aE_ildM dX12_lengths_199 (lt_nn (by decide)) rfl (by decide) rfl (by omega) ?_
          refine aE_top (x' := minF S (fB nst (fun f g => D (sa f) (sa g)) (fun f => D (sa f) hc) S) 1000000 k) ((iu_ne (by omega)).trans hle) ?_
          refine aE_icmp_ge (tgt := 208) dX12_lengths_200 (by decide) (fun h200 => ?_) (fun h200 => ?_)
          · skip
            refine aE_aload_n dX12_lengths_208 rfl rfl ?_
            refine aE_getf (v := .ref 123) dX12_lengths_209 fw_X12_81 (lt_nn (by decide)) rfl rfl ?_
            refine aE_iload_n dX12_lengths_212 rfl rfl ?_
            refine aE_ildM dX12_lengths_213 (lt_nn (by decide)) rfl (by decide) rfl (by omega) ?_
            refine aE_top (x' := minF S (fB nst (fun f g => D (sa f) (sa g)) (fun f => D (sa f) hc) S) 1000000 k) ((iu_ne (by omega)).trans hle) ?_
            refine aE_top (x' := minF S (fB nst (fun f g => D (sa f) (sa g)) (fun f => D (sa f) hc) S) 1000000 (k + 1)) (by rw [minF_s, if_pos hb]; unfold mn; first | rw [if_neg (Int32.not_lt.mpr h200)] | rw [if_pos (Int32.not_le.mp h200)]) ?_
            refine aE_istM dX12_lengths_214 (lt_nn (by decide)) rfl (by decide) rfl (by omega) ?_
            refine aE_iinc dX12_lengths_215 rfl (a_inc _) (by decide) rfl (aE_loc (ls' := [_, _, _, _, _, _, _, _]) rfl ?_)
            refine aE_goto (tgt := 10) dX12_lengths_218 (by decide) ?_
            refine ih (k + 1) (by omega) _ _ _ _ _ (frL_123 (frL_122 hfr (by omega))) (fun f hf hfb => ?_) iu_eq
            rw [iu_ne (by omega)]
            by_cases e : f = k
            · subst e; exact iu_eq
            · rw [iu_ne (by omega)]; exact hfs f (by omega) hfb
          · skip
            refine aE_iload dX12_lengths_203 rfl ?_
            refine aE_goto (tgt := 214) dX12_lengths_205 (by decide) ?_
            refine aE_top (x' := minF S (fB nst (fun f g => D (sa f) (sa g)) (fun f => D (sa f) hc) S) 1000000 (k + 1)) (by rw [minF_s, if_pos hb]; unfold mn; first | rw [if_neg (Int32.not_lt.mpr h200)] | rw [if_pos (Int32.not_le.mp h200)]) ?_
            refine aE_istM dX12_lengths_214 (lt_nn (by decide)) rfl (by decide) rfl (by omega) ?_
            refine aE_iinc dX12_lengths_215 rfl (a_inc _) (by decide) rfl (aE_loc (ls' := [_, _, _, _, _, _, _, _]) rfl ?_)
            refine aE_goto (tgt := 10) dX12_lengths_218 (by decide) ?_
            refine ih (k + 1) (by omega) _ _ _ _ _ (frL_123 (frL_122 hfr (by omega))) (fun f hf hfb => ?_) iu_eq
            rw [iu_ne (by omega)]
            by_cases e : f = k
            · subst e; exact iu_eq
            · rw [iu_ne (by omega)]; exact hfs f (by omega) hfb
        · skip
          refine aE_ldc dX12_lengths_163 ct_X12_192 ?_
          refine aE_goto (tgt := 172) dX12_lengths_165 (by decide) ?_
          refine aE_top (x' := fB nst (fun f g => D (sa f) (sa g)) (fun f => D (sa f) hc) S k) (by rw [fB_eq hb, hRe]; unfold finV; first | rw [if_neg (Int32.not_le.mpr h160)] | rw [if_pos (Int32.not_lt.mp h160)]) ?_
          refine aE_istore dX12_lengths_172 (by decide) rfl (aE_loc (ls' := [_, _, _, _, _, _, _, _]) rfl ?_)
          refine aE_aload_n dX12_lengths_174 rfl rfl ?_
          refine aE_getf (v := .ref 122) dX12_lengths_175 fw_X12_78 (lt_nn (by decide)) rfl rfl ?_
          refine aE_bipush (v := 10) dX12_lengths_178 (by decide) ?_
          refine aE_iload_n dX12_lengths_180 rfl rfl ?_
          refine aE_imul dX12_lengths_181 ?_
          refine aE_top (x' := nI (10 * S)) (by rw [show (10 : Int32) = nI 10 from rfl, pk_mul]) ?_
          refine aE_iload_n dX12_lengths_182 rfl rfl ?_
          refine aE_iadd dX12_lengths_183 ?_
          refine aE_top (nI_add (10 * S) k) ?_
          refine aE_iload dX12_lengths_184 rfl ?_
          refine aE_istM dX12_lengths_186 (lt_nn (by decide)) rfl (by decide) rfl (by omega) ?_
          refine aE_aload_n dX12_lengths_187 rfl rfl ?_
          refine aE_getf (v := .ref 123) dX12_lengths_188 fw_X12_81 (lt_nn (by decide)) rfl rfl ?_
          refine aE_iload_n dX12_lengths_191 rfl rfl ?_
          refine aE_iload dX12_lengths_192 rfl ?_
          refine aE_aload_n dX12_lengths_194 rfl rfl ?_
          refine aE_getf (v := .ref 123) dX12_lengths_195 fw_X12_81 (lt_nn (by decide)) rfl rfl ?_
          refine aE_iload_n dX12_lengths_198 rfl rfl ?_
          refine aE_ildM dX12_lengths_199 (lt_nn (by decide)) rfl (by decide) rfl (by omega) ?_
          refine aE_top (x' := minF S (fB nst (fun f g => D (sa f) (sa g)) (fun f => D (sa f) hc) S) 1000000 k) ((iu_ne (by omega)).trans hle) ?_
          refine aE_icmp_ge (tgt := 208) dX12_lengths_200 (by decide) (fun h200 => ?_) (fun h200 => ?_)
          · skip
            refine aE_aload_n dX12_lengths_208 rfl rfl ?_
            refine aE_getf (v := .ref 123) dX12_lengths_209 fw_X12_81 (lt_nn (by decide)) rfl rfl ?_
            refine aE_iload_n dX12_lengths_212 rfl rfl ?_
            refine aE_ildM dX12_lengths_213 (lt_nn (by decide)) rfl (by decide) rfl (by omega) ?_
            refine aE_top (x' := minF S (fB nst (fun f g => D (sa f) (sa g)) (fun f => D (sa f) hc) S) 1000000 k) ((iu_ne (by omega)).trans hle) ?_
            refine aE_top (x' := minF S (fB nst (fun f g => D (sa f) (sa g)) (fun f => D (sa f) hc) S) 1000000 (k + 1)) (by rw [minF_s, if_pos hb]; unfold mn; first | rw [if_neg (Int32.not_lt.mpr h200)] | rw [if_pos (Int32.not_le.mp h200)]) ?_
            refine aE_istM dX12_lengths_214 (lt_nn (by decide)) rfl (by decide) rfl (by omega) ?_
            refine aE_iinc dX12_lengths_215 rfl (a_inc _) (by decide) rfl (aE_loc (ls' := [_, _, _, _, _, _, _, _]) rfl ?_)
            refine aE_goto (tgt := 10) dX12_lengths_218 (by decide) ?_
            refine ih (k + 1) (by omega) _ _ _ _ _ (frL_123 (frL_122 hfr (by omega))) (fun f hf hfb => ?_) iu_eq
            rw [iu_ne (by omega)]
            by_cases e : f = k
            · subst e; exact iu_eq
            · rw [iu_ne (by omega)]; exact hfs f (by omega) hfb
          · skip
            refine aE_iload dX12_lengths_203 rfl ?_
            refine aE_goto (tgt := 214) dX12_lengths_205 (by decide) ?_
            refine aE_top (x' := minF S (fB nst (fun f g => D (sa f) (sa g)) (fun f => D (sa f) hc) S) 1000000 (k + 1)) (by rw [minF_s, if_pos hb]; unfold mn; first | rw [if_neg (Int32.not_lt.mpr h200)] | rw [if_pos (Int32.not_le.mp h200)]) ?_
            refine aE_istM dX12_lengths_214 (lt_nn (by decide)) rfl (by decide) rfl (by omega) ?_
            refine aE_iinc dX12_lengths_215 rfl (a_inc _) (by decide) rfl (aE_loc (ls' := [_, _, _, _, _, _, _, _]) rfl ?_)
            refine aE_goto (tgt := 10) dX12_lengths_218 (by decide) ?_
            refine ih (k + 1) (by omega) _ _ _ _ _ (frL_123 (frL_122 hfr (by omega))) (fun f hf hfb => ?_) iu_eq
            rw [iu_ne (by omega)]
            by_cases e : f = k
            · subst e; exact iu_eq
            · rw [iu_ne (by omega)]; exact hfs f (by omega) hfb
      · skip
        refine aE_aload_n dX12_lengths_43 rfl rfl ?_
        refine aE_getf (v := .ref 121) dX12_lengths_44 fw_X12_75 (lt_nn (by decide)) rfl rfl ?_
        refine aE_bipush (v := 8) dX12_lengths_47 (by decide) ?_
        refine aE_aload_n dX12_lengths_49 rfl rfl ?_
        refine aE_getf (v := .ref 111) dX12_lengths_50 fw_X12_45 (lt_nn (by decide)) rfl rfl ?_
        refine aE_iload_n dX12_lengths_53 rfl rfl ?_
        refine aE_ildM dX12_lengths_54 (lt_nn (by decide)) rfl (by decide) rfl (by omega) ?_
        refine aE_top (x' := nI (sa k)) (hmd.2.2.1 k hk).2 ?_
        refine aE_imul dX12_lengths_55 ?_
        refine aE_top (x' := nI (8 * sa k)) (by rw [show (8 : Int32) = nI 8 from rfl, pk_mul]) ?_
        refine aE_aload_n dX12_lengths_56 rfl rfl ?_
        refine aE_getf (v := .ref 107) dX12_lengths_57 fw_X12_33 (lt_nn (by decide)) rfl rfl ?_
        refine aE_iload_n dX12_lengths_60 rfl rfl ?_
        refine aE_ildM dX12_lengths_61 (lt_nn (by decide)) rfl (by decide) rfl hsc ?_
        refine aE_top (x' := nI hc) ((hfr.1 107 sc (by decide) (by decide)).trans hat) ?_
        refine aE_iadd dX12_lengths_62 ?_
        refine aE_top (nI_add (8 * sa k) hc) ?_
        refine aE_ildM dX12_lengths_63 (lt_nn (by decide)) rfl (by decide) rfl (by omega) ?_
        refine aE_top (x' := D (sa k) hc) (hmd.2.2.2 _ _ hk8 hhc) ?_
        refine aE_goto (tgt := 69) dX12_lengths_64 (by decide) ?_
        refine aE_top (x' := (if R = 0 then D (sa k) hc else 1000000)) (by first | rw [if_neg (fun q => h40 (by rw [q]; rfl))] | rw [if_pos ((nI_eq (b := 0) (by omega) (by omega)).mp h40)]) ?_
        refine aE_istore dX12_lengths_69 (by decide) rfl (aE_loc (ls' := [_, _, _, _, _, _, _, _]) rfl ?_)
        refine aE_iconst (v := 0) dX12_lengths_71 rfl ?_
        refine aE_istore dX12_lengths_72 (by decide) rfl (aE_loc (ls' := [_, _, _, _, _, _, _, _]) rfl ?_)
        refine l_len2 nst sc S k R hc sa D hmd hk (by omega) (fun g hg hgb => ?_) (fun l7 => ?_) nst 0 (by omega) _
        · rw [hfr.2.1 (10 * R + g) (by omega)]
          exact htab R hRS (by rw [← hRe]; exact bdiff_sub _ _) g hg hgb
        refine aE_iload dX12_lengths_156 rfl ?_
        refine aE_ldc dX12_lengths_158 ct_X12_192 ?_
        refine aE_icmp_lt (tgt := 168) dX12_lengths_160 (by decide) (fun h160 => ?_) (fun h160 => ?_)
        · skip
          refine aE_iload dX12_lengths_168 rfl ?_
          refine aE_iconst (v := 1) dX12_lengths_170 rfl ?_
          refine aE_iadd dX12_lengths_171 ?_
          refine aE_top (x' := fB nst (fun f g => D (sa f) (sa g)) (fun f => D (sa f) hc) S k) (by rw [fB_eq hb, hRe]; unfold finV; first | rw [if_neg (Int32.not_le.mpr h160)] | rw [if_pos (Int32.not_lt.mp h160)]) ?_
          refine aE_istore dX12_lengths_172 (by decide) rfl (aE_loc (ls' := [_, _, _, _, _, _, _, _]) rfl ?_)
          refine aE_aload_n dX12_lengths_174 rfl rfl ?_
          refine aE_getf (v := .ref 122) dX12_lengths_175 fw_X12_78 (lt_nn (by decide)) rfl rfl ?_
          refine aE_bipush (v := 10) dX12_lengths_178 (by decide) ?_
          refine aE_iload_n dX12_lengths_180 rfl rfl ?_
          refine aE_imul dX12_lengths_181 ?_
          refine aE_top (x' := nI (10 * S)) (by rw [show (10 : Int32) = nI 10 from rfl, pk_mul]) ?_
          refine aE_iload_n dX12_lengths_182 rfl rfl ?_
          refine aE_iadd dX12_lengths_183 ?_
          refine aE_top (nI_add (10 * S) k) ?_
          refine aE_iload dX12_lengths_184 rfl ?_
          refine aE_istM dX12_lengths_186 (lt_nn (by decide)) rfl (by decide) rfl (by omega) ?_
          refine aE_aload_n dX12_lengths_187 rfl rfl ?_
          refine aE_getf (v := .ref 123) dX12_lengths_188 fw_X12_81 (lt_nn (by decide)) rfl rfl ?_
          refine aE_iload_n dX12_lengths_191 rfl rfl ?_
          refine aE_iload dX12_lengths_192 rfl ?_
          refine aE_aload_n dX12_lengths_194 rfl rfl ?_
          refine aE_getf (v := .ref 123) dX12_lengths_195 fw_X12_81 (lt_nn (by decide)) rfl rfl ?_
          refine aE_iload_n dX12_lengths_198 rfl rfl ?_
          refine aE_ildM dX12_lengths_199 (lt_nn (by decide)) rfl (by decide) rfl (by omega) ?_
          refine aE_top (x' := minF S (fB nst (fun f g => D (sa f) (sa g)) (fun f => D (sa f) hc) S) 1000000 k) ((iu_ne (by omega)).trans hle) ?_
          refine aE_icmp_ge (tgt := 208) dX12_lengths_200 (by decide) (fun h200 => ?_) (fun h200 => ?_)
          · skip
            refine aE_aload_n dX12_lengths_208 rfl rfl ?_
            refine aE_getf (v := .ref 123) dX12_lengths_209 fw_X12_81 (lt_nn (by decide)) rfl rfl ?_
            refine aE_iload_n dX12_lengths_212 rfl rfl ?_
            refine aE_ildM dX12_lengths_213 (lt_nn (by decide)) rfl (by decide) rfl (by omega) ?_
            refine aE_top (x' := minF S (fB nst (fun f g => D (sa f) (sa g)) (fun f => D (sa f) hc) S) 1000000 k) ((iu_ne (by omega)).trans hle) ?_
            refine aE_top (x' := minF S (fB nst (fun f g => D (sa f) (sa g)) (fun f => D (sa f) hc) S) 1000000 (k + 1)) (by rw [minF_s, if_pos hb]; unfold mn; first | rw [if_neg (Int32.not_lt.mpr h200)] | rw [if_pos (Int32.not_le.mp h200)]) ?_
            refine aE_istM dX12_lengths_214 (lt_nn (by decide)) rfl (by decide) rfl (by omega) ?_
            refine aE_iinc dX12_lengths_215 rfl (a_inc _) (by decide) rfl (aE_loc (ls' := [_, _, _, _, _, _, _, _]) rfl ?_)
            refine aE_goto (tgt := 10) dX12_lengths_218 (by decide) ?_
            refine ih (k + 1) (by omega) _ _ _ _ _ (frL_123 (frL_122 hfr (by omega))) (fun f hf hfb => ?_) iu_eq
            rw [iu_ne (by omega)]
            by_cases e : f = k
            · subst e; exact iu_eq
            · rw [iu_ne (by omega)]; exact hfs f (by omega) hfb
          · skip
            refine aE_iload dX12_lengths_203 rfl ?_
            refine aE_goto (tgt := 214) dX12_lengths_205 (by decide) ?_
            refine aE_top (x' := minF S (fB nst (fun f g => D (sa f) (sa g)) (fun f => D (sa f) hc) S) 1000000 (k + 1)) (by rw [minF_s, if_pos hb]; unfold mn; first | rw [if_neg (Int32.not_lt.mpr h200)] | rw [if_pos (Int32.not_le.mp h200)]) ?_
            refine aE_istM dX12_lengths_214 (lt_nn (by decide)) rfl (by decide) rfl (by omega) ?_
            refine aE_iinc dX12_lengths_215 rfl (a_inc _) (by decide) rfl (aE_loc (ls' := [_, _, _, _, _, _, _, _]) rfl ?_)
            refine aE_goto (tgt := 10) dX12_lengths_218 (by decide) ?_
            refine ih (k + 1) (by omega) _ _ _ _ _ (frL_123 (frL_122 hfr (by omega))) (fun f hf hfb => ?_) iu_eq
            rw [iu_ne (by omega)]
            by_cases e : f = k
            · subst e; exact iu_eq
            · rw [iu_ne (by omega)]; exact hfs f (by omega) hfb
        · skip
          refine aE_ldc dX12_lengths_163 ct_X12_192 ?_
          refine aE_goto (tgt := 172) dX12_lengths_165 (by decide) ?_
          refine aE_top (x' := fB nst (fun f g => D (sa f) (sa g)) (fun f => D (sa f) hc) S k) (by rw [fB_eq hb, hRe]; unfold finV; first | rw [if_neg (Int32.not_le.mpr h160)] | rw [if_pos (Int32.not_lt.mp h160)]) ?_
          refine aE_istore dX12_lengths_172 (by decide) rfl (aE_loc (ls' := [_, _, _, _, _, _, _, _]) rfl ?_)
          refine aE_aload_n dX12_lengths_174 rfl rfl ?_
          refine aE_getf (v := .ref 122) dX12_lengths_175 fw_X12_78 (lt_nn (by decide)) rfl rfl ?_
          refine aE_bipush (v := 10) dX12_lengths_178 (by decide) ?_
          refine aE_iload_n dX12_lengths_180 rfl rfl ?_
          refine aE_imul dX12_lengths_181 ?_
          refine aE_top (x' := nI (10 * S)) (by rw [show (10 : Int32) = nI 10 from rfl, pk_mul]) ?_
          refine aE_iload_n dX12_lengths_182 rfl rfl ?_
          refine aE_iadd dX12_lengths_183 ?_
          refine aE_top (nI_add (10 * S) k) ?_
          refine aE_iload dX12_lengths_184 rfl ?_
          refine aE_istM dX12_lengths_186 (lt_nn (by decide)) rfl (by decide) rfl (by omega) ?_
          refine aE_aload_n dX12_lengths_187 rfl rfl ?_
          refine aE_getf (v := .ref 123) dX12_lengths_188 fw_X12_81 (lt_nn (by decide)) rfl rfl ?_
          refine aE_iload_n dX12_lengths_191 rfl rfl ?_
          refine aE_iload dX12_lengths_192 rfl ?_
          refine aE_aload_n dX12_lengths_194 rfl rfl ?_
          refine aE_getf (v := .ref 123) dX12_lengths_195 fw_X12_81 (lt_nn (by decide)) rfl rfl ?_
          refine aE_iload_n dX12_lengths_198 rfl rfl ?_
          refine aE_ildM dX12_lengths_199 (lt_nn (by decide)) rfl (by decide) rfl (by omega) ?_
          refine aE_top (x' := minF S (fB nst (fun f g => D (sa f) (sa g)) (fun f => D (sa f) hc) S) 1000000 k) ((iu_ne (by omega)).trans hle) ?_
          refine aE_icmp_ge (tgt := 208) dX12_lengths_200 (by decide) (fun h200 => ?_) (fun h200 => ?_)
          · skip
            refine aE_aload_n dX12_lengths_208 rfl rfl ?_
            refine aE_getf (v := .ref 123) dX12_lengths_209 fw_X12_81 (lt_nn (by decide)) rfl rfl ?_
            refine aE_iload_n dX12_lengths_212 rfl rfl ?_
            refine aE_ildM dX12_lengths_213 (lt_nn (by decide)) rfl (by decide) rfl (by omega) ?_
            refine aE_top (x' := minF S (fB nst (fun f g => D (sa f) (sa g)) (fun f => D (sa f) hc) S) 1000000 k) ((iu_ne (by omega)).trans hle) ?_
            refine aE_top (x' := minF S (fB nst (fun f g => D (sa f) (sa g)) (fun f => D (sa f) hc) S) 1000000 (k + 1)) (by rw [minF_s, if_pos hb]; unfold mn; first | rw [if_neg (Int32.not_lt.mpr h200)] | rw [if_pos (Int32.not_le.mp h200)]) ?_
            refine aE_istM dX12_lengths_214 (lt_nn (by decide)) rfl (by decide) rfl (by omega) ?_
            refine aE_iinc dX12_lengths_215 rfl (a_inc _) (by decide) rfl (aE_loc (ls' := [_, _, _, _, _, _, _, _]) rfl ?_)
            refine aE_goto (tgt := 10) dX12_lengths_218 (by decide) ?_
            refine ih (k + 1) (by omega) _ _ _ _ _ (frL_123 (frL_122 hfr (by omega))) (fun f hf hfb => ?_) iu_eq
            rw [iu_ne (by omega)]
            by_cases e : f = k
            · subst e; exact iu_eq
            · rw [iu_ne (by omega)]; exact hfs f (by omega) hfb
          · skip
            refine aE_iload dX12_lengths_203 rfl ?_
            refine aE_goto (tgt := 214) dX12_lengths_205 (by decide) ?_
            refine aE_top (x' := minF S (fB nst (fun f g => D (sa f) (sa g)) (fun f => D (sa f) hc) S) 1000000 (k + 1)) (by rw [minF_s, if_pos hb]; unfold mn; first | rw [if_neg (Int32.not_lt.mpr h200)] | rw [if_pos (Int32.not_le.mp h200)]) ?_
            refine aE_istM dX12_lengths_214 (lt_nn (by decide)) rfl (by decide) rfl (by omega) ?_
            refine aE_iinc dX12_lengths_215 rfl (a_inc _) (by decide) rfl (aE_loc (ls' := [_, _, _, _, _, _, _, _]) rfl ?_)
            refine aE_goto (tgt := 10) dX12_lengths_218 (by decide) ?_
            refine ih (k + 1) (by omega) _ _ _ _ _ (frL_123 (frL_122 hfr (by omega))) (fun f hf hfb => ?_) iu_eq
            rw [iu_ne (by omega)]
            by_cases e : f = k
            · subst e; exact iu_eq
            · rw [iu_ne (by omega)]; exact hfs f (by omega) hfb
    · skip
      refine aE_goto (tgt := 215) dX12_lengths_26 (by decide) ?_
      refine aE_iinc dX12_lengths_215 rfl (a_inc _) (by decide) rfl (aE_loc (ls' := [_, _, _, _, _, _, _, _]) rfl ?_)
      refine aE_goto (tgt := 10) dX12_lengths_218 (by decide) ?_
      exact ih (k + 1) (by omega) _ _ _ _ _ hfr (fun f hf hfb => by
        by_cases e : f = k
        · subst e; exact absurd hfb (tb_no (by first | exact h23 | exact Classical.not_not.mp h23))
        · exact hfs f (by omega) hfb) (by rw [hle, minF_s, if_neg (tb_no (by first | exact h23 | exact Classical.not_not.mp h23))])
theorem m_lengths (nst sc S hc : Nat) (sa : Nat → Nat) (D : tT) (hmd : mdH I nst sa D) (hS : S < 1024) (hsc : sc < 4) (hhc : hc < 8) (hat : I 107 sc = nI hc) (htab : ∀ R, R < S → bdiff R S = 0 → ∀ g, g < nst → R.testBit g = true → I 122 (10 * R + g) = fB nst (fun f g => D (sa f) (sa g)) (fun f => D (sa f) hc) R g) (hQ : ∀ J, frL I S J → (∀ f, f < nst → S.testBit f = true → J 122 (10 * S + f) = fB nst (fun f g => D (sa f) (sa g)) (fun f => D (sa f) hc) S f) → J 123 S = leB nst (fun f g => D (sa f) (sa g)) (fun f => D (sa f) hc) S → Q none (nn pl) (MM J sp pl)) : aRuns mX12_lengths (rK 1) [.ref 101, .int (nI sc), .int (nI S)] (nn pl) (MM I sp pl) Q := by
  refine aRuns_of pn_X12_lengths (Nat.le_of_ble_eq_true rfl) (fun z => aE_loc (ls' := [_, _, _, _, _, _, _, _]) rfl ?_)
  refine aE_aload_n dX12_lengths_0 rfl rfl ?_
  refine aE_getf (v := .ref 123) dX12_lengths_1 fw_X12_81 (lt_nn (by decide)) rfl rfl ?_
  refine aE_iload_n dX12_lengths_4 rfl rfl ?_
  refine aE_ldc dX12_lengths_5 ct_X12_192 ?_
  refine aE_istM dX12_lengths_7 (lt_nn (by decide)) rfl (by decide) rfl (by omega) ?_
  refine aE_iconst (v := 0) dX12_lengths_8 rfl ?_
  refine aE_istore_n dX12_lengths_9 rfl (by decide) rfl (aE_loc (ls' := [_, _, _, _, _, _, _, _]) rfl ?_)
  exact l_len1 I nst sc S hc sa D hmd hS hsc hhc hat htab hQ nst 0 (by omega) _ _ _ _ _ (frL_123 (frL_rf I S)) (fun f hf => absurd hf (by omega)) iu_eq
end MPL
