/-- what a quarter is told: 0 pupils, 1 rides, 2 the greatest ride, 3 early minutes -/
def faS (w : Nat) (pu ri ah v : Int32) : Int32 := match w with
  | 0 => v + pu
  | 1 => v + pu * ri
  | 2 => if v < ri then ri else v
  | _ => if 0 < ah then v + 20 * ah * pu else v
def faF (w : Nat) (qu : Nat → Int32) (q : Int32) (pu ri ah : Nat → Int32) : Nat → Int32
  | 0 => 0
  | k + 1 => if qu k = q then faS w (pu k) (ri k) (ah k) (faF w qu q pu ri ah k) else faF w qu q pu ri ah k
theorem faF_s (w : Nat) (qu : Nat → Int32) (q : Int32) (pu ri ah : Nat → Int32) (k : Nat) : faF w qu q pu ri ah (k + 1) = if qu k = q then faS w (pu k) (ri k) (ah k) (faF w qu q pu ri ah k) else faF w qu q pu ri ah k := rfl
theorem wi03 {x : Int32} (h : ¬ wi x 0 3 = 0) : x = 0 ∨ x = 1 ∨ x = 2 ∨ x = 3 := by
  obtain ⟨j, hj, rfl⟩ := wi_c (m := 3) (by decide) rfl h
  rcases (show j = 0 ∨ j = 1 ∨ j = 2 ∨ j = 3 by omega) with rfl | rfl | rfl | rfl
  · exact Or.inl rfl
  · exact Or.inr (Or.inl rfl)
  · exact Or.inr (Or.inr (Or.inl rfl))
  · exact Or.inr (Or.inr (Or.inr rfl))
section MFA
variable {z : Nat × (Nat → Int32)} {n : Nat} {mem : aM} {I : Nat → Nat → Int32} {sp : Nat → Nat} {pl : Bool} {Q : Option Value → Nat → aM → Prop} {R : Room}
theorem l_fair0 (ns : Nat) (d : pD) (cs : Nat → pC) (al : Nat → Nat) (hM : MS I ns d cs al) (sc : Nat → Nat) (hsc : ∀ k, k < d.1 → sc k < ns ∧ I 110 k = nI (sc k)) (q : Int32) (hQ : qi Q (faF 0 (I 113) q (I 112) (fun k => rideL d cs k (RR d cs al ns)) (fun k => I 109 (sc k) - I 108 (sc k)) d.1) I sp pl) : ∀ (e k : Nat), k + e = d.1 → ∀ l5, aE z mX12_fair (rK 5) Q 58 [some (.ref 101), some (.int q), some (.int 0), some (.int (faF 0 (I 113) q (I 112) (fun k => rideL d cs k (RR d cs al ns)) (fun k => I 109 (sc k) - I 108 (sc k)) k)), some (.int (nI k)), l5] [] (nn pl) (MM I sp pl) 0 0 := by
  have hn := hM.2.2.1.1.1
  have h10 := hM.2.2.1.1.2.1
  have hs4 := hM.2.1
  intro e
  induction e with
  | zero =>
    intro k hk l5
    have hk : k = d.1 := by omega
    subst hk
    refine aE_iload dX12_fair_58 rfl ?_
    refine aE_aload_n dX12_fair_60 rfl rfl ?_
    refine aE_geti dX12_fair_61 fw_X12_166 (lt_nn (by decide)) rfl (by decide) rfl ?_
    refine aE_icmp_ge (tgt := 202) dX12_fair_64 (by decide) (fun h64 => ?_) (fun h64 => absurd (by rw [hn]; exact Int32.le_refl _) h64)
    refine aE_iload_n dX12_fair_202 rfl rfl ?_
    refine aE_iret dX12_fair_203 rfl ⟨by decide, by decide⟩ ?_
    exact hQ
  | succ e ih =>
    intro k hk l5
    have ih2 := ih (k + 1) (by omega)
    have hs9 := (hsc k (by omega)).1
    rw [faF_s] at ih2
    refine aE_iload dX12_fair_58 rfl ?_
    refine aE_aload_n dX12_fair_60 rfl rfl ?_
    refine aE_geti dX12_fair_61 fw_X12_166 (lt_nn (by decide)) rfl (by decide) rfl ?_
    refine aE_icmp_ge (tgt := 202) dX12_fair_64 (by decide) (fun h64 => absurd h64 (by rw [hn]; exact nI_ge (by omega) (by omega))) (fun h64 => ?_)
    refine aE_aload_n dX12_fair_67 rfl rfl ?_
    refine aE_getf (v := .ref 113) dX12_fair_68 fw_X12_51 (lt_nn (by decide)) rfl rfl ?_
    refine aE_iload dX12_fair_71 rfl ?_
    refine aE_ildM dX12_fair_73 (lt_nn (by decide)) rfl (by decide) rfl (by omega) ?_
    refine aE_iload_n dX12_fair_74 rfl rfl ?_
    refine aE_icmp_eq (tgt := 81) dX12_fair_75 (by decide) (fun h75 => ?_) (fun h75 => ?_)
    · skip
      rw [if_pos (by first | exact h75 | exact Classical.not_not.mp h75)] at ih2
      refine aE_aload_n dX12_fair_81 rfl rfl ?_
      refine aE_getf (v := .ref 109) dX12_fair_82 fw_X12_39 (lt_nn (by decide)) rfl rfl ?_
      refine aE_aload_n dX12_fair_85 rfl rfl ?_
      refine aE_getf (v := .ref 110) dX12_fair_86 fw_X12_42 (lt_nn (by decide)) rfl rfl ?_
      refine aE_iload dX12_fair_89 rfl ?_
      refine aE_ildM dX12_fair_91 (lt_nn (by decide)) rfl (by decide) rfl (by omega) ?_
      refine aE_top (hsc k (by omega)).2 ?_
      refine aE_ildM dX12_fair_92 (lt_nn (by decide)) rfl (by decide) rfl (by omega) ?_
      refine aE_aload_n dX12_fair_93 rfl rfl ?_
      refine aE_getf (v := .ref 108) dX12_fair_94 fw_X12_36 (lt_nn (by decide)) rfl rfl ?_
      refine aE_aload_n dX12_fair_97 rfl rfl ?_
      refine aE_getf (v := .ref 110) dX12_fair_98 fw_X12_42 (lt_nn (by decide)) rfl rfl ?_
      refine aE_iload dX12_fair_101 rfl ?_
      refine aE_ildM dX12_fair_103 (lt_nn (by decide)) rfl (by decide) rfl (by omega) ?_
      refine aE_top (hsc k (by omega)).2 ?_
      refine aE_ildM dX12_fair_104 (lt_nn (by decide)) rfl (by decide) rfl (by omega) ?_
      refine aE_isub dX12_fair_105 ?_
      refine aE_istore dX12_fair_106 (by decide) rfl (aE_loc (ls' := [_, _, _, _, _, _]) rfl ?_)
      refine aE_iload_n dX12_fair_108 rfl rfl ?_
      refine aE_if_ne (tgt := 122) dX12_fair_109 (by decide) (fun h109 => absurd (by decide) h109) (fun h109 => ?_)
      refine aE_iload_n dX12_fair_112 rfl rfl ?_
      refine aE_aload_n dX12_fair_113 rfl rfl ?_
      refine aE_getf (v := .ref 112) dX12_fair_114 fw_X12_48 (lt_nn (by decide)) rfl rfl ?_
      refine aE_iload dX12_fair_117 rfl ?_
      refine aE_ildM dX12_fair_119 (lt_nn (by decide)) rfl (by decide) rfl (by omega) ?_
      refine aE_iadd dX12_fair_120 ?_
      refine aE_istore_n dX12_fair_121 rfl (by decide) rfl (aE_loc (ls' := [_, _, _, _, _, _]) rfl ?_)
      refine aE_iload_n dX12_fair_122 rfl rfl ?_
      refine aE_iconst (v := 1) dX12_fair_123 rfl ?_
      refine aE_icmp_ne (tgt := 144) dX12_fair_124 (by decide) (fun h124 => ?_) (fun h124 => absurd h124 (by decide))
      refine aE_iload_n dX12_fair_144 rfl rfl ?_
      refine aE_iconst (v := 2) dX12_fair_145 rfl ?_
      refine aE_icmp_ne (tgt := 170) dX12_fair_146 (by decide) (fun h146 => ?_) (fun h146 => absurd h146 (by decide))
      refine aE_iload_n dX12_fair_170 rfl rfl ?_
      refine aE_iconst (v := 3) dX12_fair_171 rfl ?_
      refine aE_icmp_ne (tgt := 196) dX12_fair_172 (by decide) (fun h172 => ?_) (fun h172 => absurd h172 (by decide))
      refine aE_iinc dX12_fair_196 rfl (a_inc _) (by decide) rfl (aE_loc (ls' := [_, _, _, _, _, _]) rfl ?_)
      refine aE_goto (tgt := 58) dX12_fair_199 (by decide) ?_
      exact ih2 _
    · skip
      rw [if_neg h75] at ih2
      refine aE_goto (tgt := 196) dX12_fair_78 (by decide) ?_
      refine aE_iinc dX12_fair_196 rfl (a_inc _) (by decide) rfl (aE_loc (ls' := [_, _, _, _, _, _]) rfl ?_)
      refine aE_goto (tgt := 58) dX12_fair_199 (by decide) ?_
      exact ih2 _
theorem l_fair1 (ns : Nat) (d : pD) (cs : Nat → pC) (al : Nat → Nat) (hM : MS I ns d cs al) (sc : Nat → Nat) (hsc : ∀ k, k < d.1 → sc k < ns ∧ I 110 k = nI (sc k)) (q : Int32) (hQ : qi Q (faF 1 (I 113) q (I 112) (fun k => rideL d cs k (RR d cs al ns)) (fun k => I 109 (sc k) - I 108 (sc k)) d.1) I sp pl) : ∀ (e k : Nat), k + e = d.1 → ∀ l5, aE z mX12_fair (rK 5) Q 58 [some (.ref 101), some (.int q), some (.int 1), some (.int (faF 1 (I 113) q (I 112) (fun k => rideL d cs k (RR d cs al ns)) (fun k => I 109 (sc k) - I 108 (sc k)) k)), some (.int (nI k)), l5] [] (nn pl) (MM I sp pl) 0 0 := by
  have hn := hM.2.2.1.1.1
  have h10 := hM.2.2.1.1.2.1
  have hs4 := hM.2.1
  intro e
  induction e with
  | zero =>
    intro k hk l5
    have hk : k = d.1 := by omega
    subst hk
    refine aE_iload dX12_fair_58 rfl ?_
    refine aE_aload_n dX12_fair_60 rfl rfl ?_
    refine aE_geti dX12_fair_61 fw_X12_166 (lt_nn (by decide)) rfl (by decide) rfl ?_
    refine aE_icmp_ge (tgt := 202) dX12_fair_64 (by decide) (fun h64 => ?_) (fun h64 => absurd (by rw [hn]; exact Int32.le_refl _) h64)
    refine aE_iload_n dX12_fair_202 rfl rfl ?_
    refine aE_iret dX12_fair_203 rfl ⟨by decide, by decide⟩ ?_
    exact hQ
  | succ e ih =>
    intro k hk l5
    have ih2 := ih (k + 1) (by omega)
    have hs9 := (hsc k (by omega)).1
    rw [faF_s] at ih2
    refine aE_iload dX12_fair_58 rfl ?_
    refine aE_aload_n dX12_fair_60 rfl rfl ?_
    refine aE_geti dX12_fair_61 fw_X12_166 (lt_nn (by decide)) rfl (by decide) rfl ?_
    refine aE_icmp_ge (tgt := 202) dX12_fair_64 (by decide) (fun h64 => absurd h64 (by rw [hn]; exact nI_ge (by omega) (by omega))) (fun h64 => ?_)
    refine aE_aload_n dX12_fair_67 rfl rfl ?_
    refine aE_getf (v := .ref 113) dX12_fair_68 fw_X12_51 (lt_nn (by decide)) rfl rfl ?_
    refine aE_iload dX12_fair_71 rfl ?_
    refine aE_ildM dX12_fair_73 (lt_nn (by decide)) rfl (by decide) rfl (by omega) ?_
    refine aE_iload_n dX12_fair_74 rfl rfl ?_
    refine aE_icmp_eq (tgt := 81) dX12_fair_75 (by decide) (fun h75 => ?_) (fun h75 => ?_)
    · skip
      rw [if_pos (by first | exact h75 | exact Classical.not_not.mp h75)] at ih2
      refine aE_aload_n dX12_fair_81 rfl rfl ?_
      refine aE_getf (v := .ref 109) dX12_fair_82 fw_X12_39 (lt_nn (by decide)) rfl rfl ?_
      refine aE_aload_n dX12_fair_85 rfl rfl ?_
      refine aE_getf (v := .ref 110) dX12_fair_86 fw_X12_42 (lt_nn (by decide)) rfl rfl ?_
      refine aE_iload dX12_fair_89 rfl ?_
      refine aE_ildM dX12_fair_91 (lt_nn (by decide)) rfl (by decide) rfl (by omega) ?_
      refine aE_top (hsc k (by omega)).2 ?_
      refine aE_ildM dX12_fair_92 (lt_nn (by decide)) rfl (by decide) rfl (by omega) ?_
      refine aE_aload_n dX12_fair_93 rfl rfl ?_
      refine aE_getf (v := .ref 108) dX12_fair_94 fw_X12_36 (lt_nn (by decide)) rfl rfl ?_
      refine aE_aload_n dX12_fair_97 rfl rfl ?_
      refine aE_getf (v := .ref 110) dX12_fair_98 fw_X12_42 (lt_nn (by decide)) rfl rfl ?_
      refine aE_iload dX12_fair_101 rfl ?_
      refine aE_ildM dX12_fair_103 (lt_nn (by decide)) rfl (by decide) rfl (by omega) ?_
      refine aE_top (hsc k (by omega)).2 ?_
      refine aE_ildM dX12_fair_104 (lt_nn (by decide)) rfl (by decide) rfl (by omega) ?_
      refine aE_isub dX12_fair_105 ?_
      refine aE_istore dX12_fair_106 (by decide) rfl (aE_loc (ls' := [_, _, _, _, _, _]) rfl ?_)
      refine aE_iload_n dX12_fair_108 rfl rfl ?_
      refine aE_if_ne (tgt := 122) dX12_fair_109 (by decide) (fun h109 => ?_) (fun h109 => absurd h109 (by decide))
      refine aE_iload_n dX12_fair_122 rfl rfl ?_
      refine aE_iconst (v := 1) dX12_fair_123 rfl ?_
      refine aE_icmp_ne (tgt := 144) dX12_fair_124 (by decide) (fun h124 => absurd (by decide) h124) (fun h124 => ?_)
      refine aE_iload_n dX12_fair_127 rfl rfl ?_
      refine aE_aload_n dX12_fair_128 rfl rfl ?_
      refine aE_getf (v := .ref 112) dX12_fair_129 fw_X12_48 (lt_nn (by decide)) rfl rfl ?_
      refine aE_iload dX12_fair_132 rfl ?_
      refine aE_ildM dX12_fair_134 (lt_nn (by decide)) rfl (by decide) rfl (by omega) ?_
      refine aE_aload_n dX12_fair_135 rfl rfl ?_
      refine aE_iload dX12_fair_136 rfl ?_
      refine aE_cVi dX12_fair_138 lk_X12_253 mv_X12_rideOf (m_rideOf ns d cs al k hM (by omega)) rfl (lt_nn (by decide)) rfl rfl ⟨by decide, by decide⟩ (Nat.le_of_ble_eq_true rfl) ⟨rfl, rfl⟩ ⟨by decide, by decide⟩ ?_
      refine aE_imul dX12_fair_141 ?_
      refine aE_iadd dX12_fair_142 ?_
      refine aE_istore_n dX12_fair_143 rfl (by decide) rfl (aE_loc (ls' := [_, _, _, _, _, _]) rfl ?_)
      refine aE_iload_n dX12_fair_144 rfl rfl ?_
      refine aE_iconst (v := 2) dX12_fair_145 rfl ?_
      refine aE_icmp_ne (tgt := 170) dX12_fair_146 (by decide) (fun h146 => ?_) (fun h146 => absurd h146 (by decide))
      refine aE_iload_n dX12_fair_170 rfl rfl ?_
      refine aE_iconst (v := 3) dX12_fair_171 rfl ?_
      refine aE_icmp_ne (tgt := 196) dX12_fair_172 (by decide) (fun h172 => ?_) (fun h172 => absurd h172 (by decide))
      refine aE_iinc dX12_fair_196 rfl (a_inc _) (by decide) rfl (aE_loc (ls' := [_, _, _, _, _, _]) rfl ?_)
      refine aE_goto (tgt := 58) dX12_fair_199 (by decide) ?_
      exact ih2 _
    · skip
      rw [if_neg h75] at ih2
      refine aE_goto (tgt := 196) dX12_fair_78 (by decide) ?_
      refine aE_iinc dX12_fair_196 rfl (a_inc _) (by decide) rfl (aE_loc (ls' := [_, _, _, _, _, _]) rfl ?_)
      refine aE_goto (tgt := 58) dX12_fair_199 (by decide) ?_
      exact ih2 _
theorem l_fair2 (ns : Nat) (d : pD) (cs : Nat → pC) (al : Nat → Nat) (hM : MS I ns d cs al) (sc : Nat → Nat) (hsc : ∀ k, k < d.1 → sc k < ns ∧ I 110 k = nI (sc k)) (q : Int32) (hQ : qi Q (faF 2 (I 113) q (I 112) (fun k => rideL d cs k (RR d cs al ns)) (fun k => I 109 (sc k) - I 108 (sc k)) d.1) I sp pl) : ∀ (e k : Nat), k + e = d.1 → ∀ l5, aE z mX12_fair (rK 5) Q 58 [some (.ref 101), some (.int q), some (.int 2), some (.int (faF 2 (I 113) q (I 112) (fun k => rideL d cs k (RR d cs al ns)) (fun k => I 109 (sc k) - I 108 (sc k)) k)), some (.int (nI k)), l5] [] (nn pl) (MM I sp pl) 0 0 := by
  have hn := hM.2.2.1.1.1
  have h10 := hM.2.2.1.1.2.1
  have hs4 := hM.2.1
  intro e
  induction e with
  | zero =>
    intro k hk l5
    have hk : k = d.1 := by omega
    subst hk
    refine aE_iload dX12_fair_58 rfl ?_
    refine aE_aload_n dX12_fair_60 rfl rfl ?_
    refine aE_geti dX12_fair_61 fw_X12_166 (lt_nn (by decide)) rfl (by decide) rfl ?_
    refine aE_icmp_ge (tgt := 202) dX12_fair_64 (by decide) (fun h64 => ?_) (fun h64 => absurd (by rw [hn]; exact Int32.le_refl _) h64)
    refine aE_iload_n dX12_fair_202 rfl rfl ?_
    refine aE_iret dX12_fair_203 rfl ⟨by decide, by decide⟩ ?_
    exact hQ
  | succ e ih =>
    intro k hk l5
    have ih2 := ih (k + 1) (by omega)
    have hs9 := (hsc k (by omega)).1
    rw [faF_s] at ih2
    refine aE_iload dX12_fair_58 rfl ?_
    refine aE_aload_n dX12_fair_60 rfl rfl ?_
    refine aE_geti dX12_fair_61 fw_X12_166 (lt_nn (by decide)) rfl (by decide) rfl ?_
    refine aE_icmp_ge (tgt := 202) dX12_fair_64 (by decide) (fun h64 => absurd h64 (by rw [hn]; exact nI_ge (by omega) (by omega))) (fun h64 => ?_)
    refine aE_aload_n dX12_fair_67 rfl rfl ?_
    refine aE_getf (v := .ref 113) dX12_fair_68 fw_X12_51 (lt_nn (by decide)) rfl rfl ?_
    refine aE_iload dX12_fair_71 rfl ?_
    refine aE_ildM dX12_fair_73 (lt_nn (by decide)) rfl (by decide) rfl (by omega) ?_
    refine aE_iload_n dX12_fair_74 rfl rfl ?_
    refine aE_icmp_eq (tgt := 81) dX12_fair_75 (by decide) (fun h75 => ?_) (fun h75 => ?_)
    · skip
      rw [if_pos (by first | exact h75 | exact Classical.not_not.mp h75)] at ih2
      refine aE_aload_n dX12_fair_81 rfl rfl ?_
      refine aE_getf (v := .ref 109) dX12_fair_82 fw_X12_39 (lt_nn (by decide)) rfl rfl ?_
      refine aE_aload_n dX12_fair_85 rfl rfl ?_
      refine aE_getf (v := .ref 110) dX12_fair_86 fw_X12_42 (lt_nn (by decide)) rfl rfl ?_
      refine aE_iload dX12_fair_89 rfl ?_
      refine aE_ildM dX12_fair_91 (lt_nn (by decide)) rfl (by decide) rfl (by omega) ?_
      refine aE_top (hsc k (by omega)).2 ?_
      refine aE_ildM dX12_fair_92 (lt_nn (by decide)) rfl (by decide) rfl (by omega) ?_
      refine aE_aload_n dX12_fair_93 rfl rfl ?_
      refine aE_getf (v := .ref 108) dX12_fair_94 fw_X12_36 (lt_nn (by decide)) rfl rfl ?_
      refine aE_aload_n dX12_fair_97 rfl rfl ?_
      refine aE_getf (v := .ref 110) dX12_fair_98 fw_X12_42 (lt_nn (by decide)) rfl rfl ?_
      refine aE_iload dX12_fair_101 rfl ?_
      refine aE_ildM dX12_fair_103 (lt_nn (by decide)) rfl (by decide) rfl (by omega) ?_
      refine aE_top (hsc k (by omega)).2 ?_
      refine aE_ildM dX12_fair_104 (lt_nn (by decide)) rfl (by decide) rfl (by omega) ?_
      refine aE_isub dX12_fair_105 ?_
      refine aE_istore dX12_fair_106 (by decide) rfl (aE_loc (ls' := [_, _, _, _, _, _]) rfl ?_)
      refine aE_iload_n dX12_fair_108 rfl rfl ?_
      refine aE_if_ne (tgt := 122) dX12_fair_109 (by decide) (fun h109 => ?_) (fun h109 => absurd h109 (by decide))
      refine aE_iload_n dX12_fair_122 rfl rfl ?_
      refine aE_iconst (v := 1) dX12_fair_123 rfl ?_
      refine aE_icmp_ne (tgt := 144) dX12_fair_124 (by decide) (fun h124 => ?_) (fun h124 => absurd h124 (by decide))
      refine aE_iload_n dX12_fair_144 rfl rfl ?_
      refine aE_iconst (v := 2) dX12_fair_145 rfl ?_
      refine aE_icmp_ne (tgt := 170) dX12_fair_146 (by decide) (fun h146 => absurd (by decide) h146) (fun h146 => ?_)
      refine aE_aload_n dX12_fair_149 rfl rfl ?_
      refine aE_iload dX12_fair_150 rfl ?_
      refine aE_cVi dX12_fair_152 lk_X12_253 mv_X12_rideOf (m_rideOf ns d cs al k hM (by omega)) rfl (lt_nn (by decide)) rfl rfl ⟨by decide, by decide⟩ (Nat.le_of_ble_eq_true rfl) ⟨rfl, rfl⟩ ⟨by decide, by decide⟩ ?_
      refine aE_iload_n dX12_fair_155 rfl rfl ?_
      refine aE_icmp_le (tgt := 168) dX12_fair_156 (by decide) (fun h156 => ?_) (fun h156 => ?_)
      · skip
        rw [show faS 2 (I 112 k) ((fun k => rideL d cs k (RR d cs al ns)) k) ((fun k => I 109 (sc k) - I 108 (sc k)) k) (faF 2 (I 113) q (I 112) (fun k => rideL d cs k (RR d cs al ns)) (fun k => I 109 (sc k) - I 108 (sc k)) k) = (faF 2 (I 113) q (I 112) (fun k => rideL d cs k (RR d cs al ns)) (fun k => I 109 (sc k) - I 108 (sc k)) k) from if_neg (Int32.not_lt.mpr h156)] at ih2
        refine aE_iload_n dX12_fair_168 rfl rfl ?_
        refine aE_istore_n dX12_fair_169 rfl (by decide) rfl (aE_loc (ls' := [_, _, _, _, _, _]) rfl ?_)
        refine aE_iload_n dX12_fair_170 rfl rfl ?_
        refine aE_iconst (v := 3) dX12_fair_171 rfl ?_
        refine aE_icmp_ne (tgt := 196) dX12_fair_172 (by decide) (fun h172 => ?_) (fun h172 => absurd h172 (by decide))
        refine aE_iinc dX12_fair_196 rfl (a_inc _) (by decide) rfl (aE_loc (ls' := [_, _, _, _, _, _]) rfl ?_)
        refine aE_goto (tgt := 58) dX12_fair_199 (by decide) ?_
        exact ih2 _
      · skip
        rw [show faS 2 (I 112 k) ((fun k => rideL d cs k (RR d cs al ns)) k) ((fun k => I 109 (sc k) - I 108 (sc k)) k) (faF 2 (I 113) q (I 112) (fun k => rideL d cs k (RR d cs al ns)) (fun k => I 109 (sc k) - I 108 (sc k)) k) = (fun k => rideL d cs k (RR d cs al ns)) k from if_pos (Int32.not_le.mp h156)] at ih2
        refine aE_aload_n dX12_fair_159 rfl rfl ?_
        refine aE_iload dX12_fair_160 rfl ?_
        refine aE_cVi dX12_fair_162 lk_X12_253 mv_X12_rideOf (m_rideOf ns d cs al k hM (by omega)) rfl (lt_nn (by decide)) rfl rfl ⟨by decide, by decide⟩ (Nat.le_of_ble_eq_true rfl) ⟨rfl, rfl⟩ ⟨by decide, by decide⟩ ?_
        refine aE_goto (tgt := 169) dX12_fair_165 (by decide) ?_
        refine aE_istore_n dX12_fair_169 rfl (by decide) rfl (aE_loc (ls' := [_, _, _, _, _, _]) rfl ?_)
        refine aE_iload_n dX12_fair_170 rfl rfl ?_
        refine aE_iconst (v := 3) dX12_fair_171 rfl ?_
        refine aE_icmp_ne (tgt := 196) dX12_fair_172 (by decide) (fun h172 => ?_) (fun h172 => absurd h172 (by decide))
        refine aE_iinc dX12_fair_196 rfl (a_inc _) (by decide) rfl (aE_loc (ls' := [_, _, _, _, _, _]) rfl ?_)
        refine aE_goto (tgt := 58) dX12_fair_199 (by decide) ?_
        exact ih2 _
    · skip
      rw [if_neg h75] at ih2
      refine aE_goto (tgt := 196) dX12_fair_78 (by decide) ?_
      refine aE_iinc dX12_fair_196 rfl (a_inc _) (by decide) rfl (aE_loc (ls' := [_, _, _, _, _, _]) rfl ?_)
      refine aE_goto (tgt := 58) dX12_fair_199 (by decide) ?_
      exact ih2 _
theorem l_fair3 (ns : Nat) (d : pD) (cs : Nat → pC) (al : Nat → Nat) (hM : MS I ns d cs al) (sc : Nat → Nat) (hsc : ∀ k, k < d.1 → sc k < ns ∧ I 110 k = nI (sc k)) (q : Int32) (hQ : qi Q (faF 3 (I 113) q (I 112) (fun k => rideL d cs k (RR d cs al ns)) (fun k => I 109 (sc k) - I 108 (sc k)) d.1) I sp pl) : ∀ (e k : Nat), k + e = d.1 → ∀ l5, aE z mX12_fair (rK 5) Q 58 [some (.ref 101), some (.int q), some (.int 3), some (.int (faF 3 (I 113) q (I 112) (fun k => rideL d cs k (RR d cs al ns)) (fun k => I 109 (sc k) - I 108 (sc k)) k)), some (.int (nI k)), l5] [] (nn pl) (MM I sp pl) 0 0 := by
  have hn := hM.2.2.1.1.1
  have h10 := hM.2.2.1.1.2.1
  have hs4 := hM.2.1
  intro e
  induction e with
  | zero =>
    intro k hk l5
    have hk : k = d.1 := by omega
    subst hk
    refine aE_iload dX12_fair_58 rfl ?_
    refine aE_aload_n dX12_fair_60 rfl rfl ?_
    refine aE_geti dX12_fair_61 fw_X12_166 (lt_nn (by decide)) rfl (by decide) rfl ?_
    refine aE_icmp_ge (tgt := 202) dX12_fair_64 (by decide) (fun h64 => ?_) (fun h64 => absurd (by rw [hn]; exact Int32.le_refl _) h64)
    refine aE_iload_n dX12_fair_202 rfl rfl ?_
    refine aE_iret dX12_fair_203 rfl ⟨by decide, by decide⟩ ?_
    exact hQ
  | succ e ih =>
    intro k hk l5
    have ih2 := ih (k + 1) (by omega)
    have hs9 := (hsc k (by omega)).1
    rw [faF_s] at ih2
    refine aE_iload dX12_fair_58 rfl ?_
    refine aE_aload_n dX12_fair_60 rfl rfl ?_
    refine aE_geti dX12_fair_61 fw_X12_166 (lt_nn (by decide)) rfl (by decide) rfl ?_
    refine aE_icmp_ge (tgt := 202) dX12_fair_64 (by decide) (fun h64 => absurd h64 (by rw [hn]; exact nI_ge (by omega) (by omega))) (fun h64 => ?_)
    refine aE_aload_n dX12_fair_67 rfl rfl ?_
    refine aE_getf (v := .ref 113) dX12_fair_68 fw_X12_51 (lt_nn (by decide)) rfl rfl ?_
    refine aE_iload dX12_fair_71 rfl ?_
    refine aE_ildM dX12_fair_73 (lt_nn (by decide)) rfl (by decide) rfl (by omega) ?_
    refine aE_iload_n dX12_fair_74 rfl rfl ?_
    refine aE_icmp_eq (tgt := 81) dX12_fair_75 (by decide) (fun h75 => ?_) (fun h75 => ?_)
    · skip
      rw [if_pos (by first | exact h75 | exact Classical.not_not.mp h75)] at ih2
      refine aE_aload_n dX12_fair_81 rfl rfl ?_
      refine aE_getf (v := .ref 109) dX12_fair_82 fw_X12_39 (lt_nn (by decide)) rfl rfl ?_
      refine aE_aload_n dX12_fair_85 rfl rfl ?_
      refine aE_getf (v := .ref 110) dX12_fair_86 fw_X12_42 (lt_nn (by decide)) rfl rfl ?_
      refine aE_iload dX12_fair_89 rfl ?_
      refine aE_ildM dX12_fair_91 (lt_nn (by decide)) rfl (by decide) rfl (by omega) ?_
      refine aE_top (hsc k (by omega)).2 ?_
      refine aE_ildM dX12_fair_92 (lt_nn (by decide)) rfl (by decide) rfl (by omega) ?_
      refine aE_aload_n dX12_fair_93 rfl rfl ?_
      refine aE_getf (v := .ref 108) dX12_fair_94 fw_X12_36 (lt_nn (by decide)) rfl rfl ?_
      refine aE_aload_n dX12_fair_97 rfl rfl ?_
      refine aE_getf (v := .ref 110) dX12_fair_98 fw_X12_42 (lt_nn (by decide)) rfl rfl ?_
      refine aE_iload dX12_fair_101 rfl ?_
      refine aE_ildM dX12_fair_103 (lt_nn (by decide)) rfl (by decide) rfl (by omega) ?_
      refine aE_top (hsc k (by omega)).2 ?_
      refine aE_ildM dX12_fair_104 (lt_nn (by decide)) rfl (by decide) rfl (by omega) ?_
      refine aE_isub dX12_fair_105 ?_
      refine aE_istore dX12_fair_106 (by decide) rfl (aE_loc (ls' := [_, _, _, _, _, _]) rfl ?_)
      refine aE_iload_n dX12_fair_108 rfl rfl ?_
      refine aE_if_ne (tgt := 122) dX12_fair_109 (by decide) (fun h109 => ?_) (fun h109 => absurd h109 (by decide))
      refine aE_iload_n dX12_fair_122 rfl rfl ?_
      refine aE_iconst (v := 1) dX12_fair_123 rfl ?_
      refine aE_icmp_ne (tgt := 144) dX12_fair_124 (by decide) (fun h124 => ?_) (fun h124 => absurd h124 (by decide))
      refine aE_iload_n dX12_fair_144 rfl rfl ?_
      refine aE_iconst (v := 2) dX12_fair_145 rfl ?_
      refine aE_icmp_ne (tgt := 170) dX12_fair_146 (by decide) (fun h146 => ?_) (fun h146 => absurd h146 (by decide))
      refine aE_iload_n dX12_fair_170 rfl rfl ?_
      refine aE_iconst (v := 3) dX12_fair_171 rfl ?_
      refine aE_icmp_ne (tgt := 196) dX12_fair_172 (by decide) (fun h172 => absurd (by decide) h172) (fun h172 => ?_)
      refine aE_iload dX12_fair_175 rfl ?_
      refine aE_if_le (tgt := 196) dX12_fair_177 (by decide) (fun h177 => ?_) (fun h177 => ?_)
      · skip
        rw [show faS 3 (I 112 k) ((fun k => rideL d cs k (RR d cs al ns)) k) ((fun k => I 109 (sc k) - I 108 (sc k)) k) (faF 3 (I 113) q (I 112) (fun k => rideL d cs k (RR d cs al ns)) (fun k => I 109 (sc k) - I 108 (sc k)) k) = (faF 3 (I 113) q (I 112) (fun k => rideL d cs k (RR d cs al ns)) (fun k => I 109 (sc k) - I 108 (sc k)) k) from if_neg (Int32.not_lt.mpr h177)] at ih2
        refine aE_iinc dX12_fair_196 rfl (a_inc _) (by decide) rfl (aE_loc (ls' := [_, _, _, _, _, _]) rfl ?_)
        refine aE_goto (tgt := 58) dX12_fair_199 (by decide) ?_
        exact ih2 _
      · skip
        rw [show faS 3 (I 112 k) ((fun k => rideL d cs k (RR d cs al ns)) k) ((fun k => I 109 (sc k) - I 108 (sc k)) k) (faF 3 (I 113) q (I 112) (fun k => rideL d cs k (RR d cs al ns)) (fun k => I 109 (sc k) - I 108 (sc k)) k) = (faF 3 (I 113) q (I 112) (fun k => rideL d cs k (RR d cs al ns)) (fun k => I 109 (sc k) - I 108 (sc k)) k) + 20 * (fun k => I 109 (sc k) - I 108 (sc k)) k * I 112 k from if_pos (Int32.not_le.mp h177)] at ih2
        refine aE_iload_n dX12_fair_180 rfl rfl ?_
        refine aE_bipush (v := 20) dX12_fair_181 (by decide) ?_
        refine aE_iload dX12_fair_183 rfl ?_
        refine aE_imul dX12_fair_185 ?_
        refine aE_aload_n dX12_fair_186 rfl rfl ?_
        refine aE_getf (v := .ref 112) dX12_fair_187 fw_X12_48 (lt_nn (by decide)) rfl rfl ?_
        refine aE_iload dX12_fair_190 rfl ?_
        refine aE_ildM dX12_fair_192 (lt_nn (by decide)) rfl (by decide) rfl (by omega) ?_
        refine aE_imul dX12_fair_193 ?_
        refine aE_iadd dX12_fair_194 ?_
        refine aE_istore_n dX12_fair_195 rfl (by decide) rfl (aE_loc (ls' := [_, _, _, _, _, _]) rfl ?_)
        refine aE_iinc dX12_fair_196 rfl (a_inc _) (by decide) rfl (aE_loc (ls' := [_, _, _, _, _, _]) rfl ?_)
        refine aE_goto (tgt := 58) dX12_fair_199 (by decide) ?_
        exact ih2 _
    · skip
      rw [if_neg h75] at ih2
      refine aE_goto (tgt := 196) dX12_fair_78 (by decide) ?_
      refine aE_iinc dX12_fair_196 rfl (a_inc _) (by decide) rfl (aE_loc (ls' := [_, _, _, _, _, _]) rfl ?_)
      refine aE_goto (tgt := 58) dX12_fair_199 (by decide) ?_
      exact ih2 _
set_option maxRecDepth 20000 in
theorem m_fair (q w : Int32) (sc : Nat → Nat) (ns nstr nc : Nat) (d : pD) (cs : Nat → pC) (fr to : Nat → Nat) (hW : MW I ns nstr nc d cs fr to) (hst : ¬ I 101 29 = 0 → PlM I d cs (alM I d) ns) (hsc : ∀ k, k < d.1 → sc k < ns ∧ I 110 k = nI (sc k)) (hB : (wi q 0 3 = 0 ∨ wi w 0 3 = 0) → qi Q (-1000001) (fndM I) sp pl) (hN : ∀ J, FrP I J → MS J ns d cs (alM I d) → allH d cs (alM I d) ns = false → (w = 1 ∨ w = 2) → qi Q (-1000004) (fndM J) sp pl) (h_0 : ∀ J, FrP I J → MS J ns d cs (alM I d) → w = 0 → qi Q (faF 0 (J 113) q (J 112) (fun k => rideL d cs k (RR d cs (alM I d) ns)) (fun k => J 109 (sc k) - J 108 (sc k)) d.1) J sp pl) (h_1 : ∀ J, FrP I J → MS J ns d cs (alM I d) → w = 1 → allH d cs (alM I d) ns = true → qi Q (faF 1 (J 113) q (J 112) (fun k => rideL d cs k (RR d cs (alM I d) ns)) (fun k => J 109 (sc k) - J 108 (sc k)) d.1) J sp pl) (h_2 : ∀ J, FrP I J → MS J ns d cs (alM I d) → w = 2 → allH d cs (alM I d) ns = true → qi Q (faF 2 (J 113) q (J 112) (fun k => rideL d cs k (RR d cs (alM I d) ns)) (fun k => J 109 (sc k) - J 108 (sc k)) d.1) J sp pl) (h_3 : ∀ J, FrP I J → MS J ns d cs (alM I d) → w = 3 → qi Q (faF 3 (J 113) q (J 112) (fun k => rideL d cs k (RR d cs (alM I d) ns)) (fun k => J 109 (sc k) - J 108 (sc k)) d.1) J sp pl) : aRuns mX12_fair (rK 5) [.ref 101, .int q, .int w] (nn pl) (MM I sp pl) Q := by
  refine aRuns_of pn_X12_fair (Nat.le_of_ble_eq_true rfl) (fun z => aE_loc (ls' := [_, _, _, _, _, _]) rfl ?_)
  refine aE_iload_n dX12_fair_0 rfl rfl ?_
  refine aE_iconst (v := 0) dX12_fair_1 rfl ?_
  refine aE_iconst (v := 3) dX12_fair_2 rfl ?_
  refine aE_cSi dX12_fair_3 lk_X12_159 ms_X12_in (c_in _ _ _) rfl rfl ⟨by decide, by decide⟩ (Nat.le_of_ble_eq_true rfl) ⟨rfl, rfl⟩ ⟨by decide, by decide⟩ ?_
  refine aE_if_eq (tgt := 18) dX12_fair_6 (by decide) (fun h6 => ?_) (fun h6 => ?_)
  · skip
    refine aE_aload_n dX12_fair_18 rfl rfl ?_
    refine aE_ldc dX12_fair_19 ct_X12_185 ?_
    refine aE_cVi dX12_fair_21 lk_X12_177 mv_X12_finds (c_finds _) rfl (lt_nn (by decide)) rfl rfl ⟨by decide, by decide⟩ (Nat.le_of_ble_eq_true rfl) ⟨rfl, rfl⟩ ⟨by decide, by decide⟩ ?_
    refine aE_iret dX12_fair_24 rfl ⟨by decide, by decide⟩ ?_
    refine hB ?_
    first | exact Or.inl h6 | exact Or.inr (by first | exact h15 | exact Classical.not_not.mp h15)
  · skip
    refine aE_iload_n dX12_fair_9 rfl rfl ?_
    refine aE_iconst (v := 0) dX12_fair_10 rfl ?_
    refine aE_iconst (v := 3) dX12_fair_11 rfl ?_
    refine aE_cSi dX12_fair_12 lk_X12_159 ms_X12_in (c_in _ _ _) rfl rfl ⟨by decide, by decide⟩ (Nat.le_of_ble_eq_true rfl) ⟨rfl, rfl⟩ ⟨by decide, by decide⟩ ?_
    refine aE_if_ne (tgt := 25) dX12_fair_15 (by decide) (fun h15 => ?_) (fun h15 => ?_)
    · skip
      refine aE_aload_n dX12_fair_25 rfl rfl ?_
      refine aE_cVq dX12_fair_26 lk_X12_243 mv_X12_plan (m_planS (Q := (fun (r : Option Value) (n' : Nat) (m' : aM) => r = none ∧ n' = nn pl ∧ ∃ J, m' = MM J sp pl ∧ FrP I J ∧ MS J ns d cs (alM I d))) ns nstr nc d cs fr to hW hst (fun J h1 h2 => ⟨rfl, rfl, J, rfl, h1, h2⟩)) rfl (lt_nn (by decide)) rfl rfl ⟨by decide, by decide⟩ (Nat.le_of_ble_eq_true rfl) ⟨rfl, rfl⟩ ⟨by decide, by decide⟩ ?_
      rintro r n' m' ⟨rfl, rfl, J, rfl, hJ, hM⟩
      have hha : J 101 43 = if allH d cs (alM I d) ns then 1 else 0 := hM.2.2.2.2.1.2.2.2.2
      have hll : J 101 42 = nI (RR d cs (alM I d) ns).length := hM.2.2.2.2.1.2.2.1.1
      have hl10 := hM.2.2.2.2.2.2.1
      have hsc2 : ∀ k, k < d.1 → sc k < ns ∧ J 110 k = nI (sc k) := fun k hk => ⟨(hsc k hk).1, (hJ.1 110 k (by omega) (by omega)).trans (hsc k hk).2⟩
      refine aE_aload_n dX12_fair_29 rfl rfl ?_
      refine aE_geti dX12_fair_30 fw_X12_233 (lt_nn (by decide)) rfl (by decide) rfl ?_
      refine aE_top hha ?_
      refine aE_if_ne (tgt := 53) dX12_fair_33 (by decide) (fun h33 => ?_) (fun h33 => ?_)
      · skip
        refine aE_iconst (v := 0) dX12_fair_53 rfl ?_
        refine aE_istore_n dX12_fair_54 rfl (by decide) rfl (aE_loc (ls' := [_, _, _, _, _, _]) rfl ?_)
        refine aE_iconst (v := 0) dX12_fair_55 rfl ?_
        refine aE_istore dX12_fair_56 (by decide) rfl (aE_loc (ls' := [_, _, _, _, _, _]) rfl ?_)
        have hah : w = 1 ∨ w = 2 → allH d cs (alM I d) ns = true := fun hw => by
          first
            | exact (Classical.byContradiction (fun q => by rw [if_neg q] at h33; exact h33 rfl))
            | exact (hw.elim (fun e => absurd e h38) (fun e => absurd e h43))
        rcases wi03 h15 with hw | hw | hw | hw
        · subst hw
          exact l_fair0 ns d cs (alM I d) hM sc hsc2 q (h_0 J hJ hM rfl) d.1 0 (by omega) _
        · have ha := hah (Or.inl hw)
          subst hw
          exact l_fair1 ns d cs (alM I d) hM sc hsc2 q (h_1 J hJ hM rfl ha) d.1 0 (by omega) _
        · have ha := hah (Or.inr hw)
          subst hw
          exact l_fair2 ns d cs (alM I d) hM sc hsc2 q (h_2 J hJ hM rfl ha) d.1 0 (by omega) _
        · subst hw
          exact l_fair3 ns d cs (alM I d) hM sc hsc2 q (h_3 J hJ hM rfl) d.1 0 (by omega) _
      · skip
        refine aE_iload_n dX12_fair_36 rfl rfl ?_
        refine aE_iconst (v := 1) dX12_fair_37 rfl ?_
        refine aE_icmp_eq (tgt := 46) dX12_fair_38 (by decide) (fun h38 => ?_) (fun h38 => ?_)
        · skip
          refine aE_aload_n dX12_fair_46 rfl rfl ?_
          refine aE_ldc dX12_fair_47 ct_X12_197 ?_
          refine aE_cVi dX12_fair_49 lk_X12_177 mv_X12_finds (c_finds _) rfl (lt_nn (by decide)) rfl rfl ⟨by decide, by decide⟩ (Nat.le_of_ble_eq_true rfl) ⟨rfl, rfl⟩ ⟨by decide, by decide⟩ ?_
          refine aE_iret dX12_fair_52 rfl ⟨by decide, by decide⟩ ?_
          exact hN J hJ hM (Bool.eq_false_iff.mpr (fun q => by rw [if_pos q] at h33; exact absurd (show (1 : Int32) = 0 by first | exact h33 | exact Classical.not_not.mp h33) (by decide))) (by first | exact Or.inl h38 | exact Or.inr (by first | exact h43 | exact Classical.not_not.mp h43))
        · skip
          refine aE_iload_n dX12_fair_41 rfl rfl ?_
          refine aE_iconst (v := 2) dX12_fair_42 rfl ?_
          refine aE_icmp_ne (tgt := 53) dX12_fair_43 (by decide) (fun h43 => ?_) (fun h43 => ?_)
          · skip
            refine aE_iconst (v := 0) dX12_fair_53 rfl ?_
            refine aE_istore_n dX12_fair_54 rfl (by decide) rfl (aE_loc (ls' := [_, _, _, _, _, _]) rfl ?_)
            refine aE_iconst (v := 0) dX12_fair_55 rfl ?_
            refine aE_istore dX12_fair_56 (by decide) rfl (aE_loc (ls' := [_, _, _, _, _, _]) rfl ?_)
            have hah : w = 1 ∨ w = 2 → allH d cs (alM I d) ns = true := fun hw => by
              first
                | exact (Classical.byContradiction (fun q => by rw [if_neg q] at h33; exact h33 rfl))
                | exact (hw.elim (fun e => absurd e h38) (fun e => absurd e h43))
            rcases wi03 h15 with hw | hw | hw | hw
            · subst hw
              exact l_fair0 ns d cs (alM I d) hM sc hsc2 q (h_0 J hJ hM rfl) d.1 0 (by omega) _
            · have ha := hah (Or.inl hw)
              subst hw
              exact l_fair1 ns d cs (alM I d) hM sc hsc2 q (h_1 J hJ hM rfl ha) d.1 0 (by omega) _
            · have ha := hah (Or.inr hw)
              subst hw
              exact l_fair2 ns d cs (alM I d) hM sc hsc2 q (h_2 J hJ hM rfl ha) d.1 0 (by omega) _
            · subst hw
              exact l_fair3 ns d cs (alM I d) hM sc hsc2 q (h_3 J hJ hM rfl) d.1 0 (by omega) _
          · skip
            refine aE_aload_n dX12_fair_46 rfl rfl ?_
            refine aE_ldc dX12_fair_47 ct_X12_197 ?_
            refine aE_cVi dX12_fair_49 lk_X12_177 mv_X12_finds (c_finds _) rfl (lt_nn (by decide)) rfl rfl ⟨by decide, by decide⟩ (Nat.le_of_ble_eq_true rfl) ⟨rfl, rfl⟩ ⟨by decide, by decide⟩ ?_
            refine aE_iret dX12_fair_52 rfl ⟨by decide, by decide⟩ ?_
            exact hN J hJ hM (Bool.eq_false_iff.mpr (fun q => by rw [if_pos q] at h33; exact absurd (show (1 : Int32) = 0 by first | exact h33 | exact Classical.not_not.mp h33) (by decide))) (by first | exact Or.inl h38 | exact Or.inr (by first | exact h43 | exact Classical.not_not.mp h43))
    · skip
      refine aE_aload_n dX12_fair_18 rfl rfl ?_
      refine aE_ldc dX12_fair_19 ct_X12_185 ?_
      refine aE_cVi dX12_fair_21 lk_X12_177 mv_X12_finds (c_finds _) rfl (lt_nn (by decide)) rfl rfl ⟨by decide, by decide⟩ (Nat.le_of_ble_eq_true rfl) ⟨rfl, rfl⟩ ⟨by decide, by decide⟩ ?_
      refine aE_iret dX12_fair_24 rfl ⟨by decide, by decide⟩ ?_
      refine hB ?_
      first | exact Or.inl h6 | exact Or.inr (by first | exact h15 | exact Classical.not_not.mp h15)
end MFA
