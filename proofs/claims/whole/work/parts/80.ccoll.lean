section CDRAW
variable {z : Nat × (Nat → Int32)} {n : Nat} {mem : aM} {I : Nat → Nat → Int32} {sp : Nat → Nat} {pl : Bool} {Q : Option Value → Nat → aM → Prop} {R : Room}variable {ns nstr nc : Nat} {d : pD} {cs : Nat → pC} {fr to : Nat → Nat}

theorem l_coll1 (I0 : Nat → Nat → Int32) (s : Nat) (hs : s < 4) (hW : CW I0 sp ns nstr nc d cs fr to) (k0 : ∀ (J : Nat → Nat → Int32) (l4 l5 l6 : Option Value), (∀ q i, ¬ (q = 147 ∧ i = 0) → q ≠ 148 → q ≠ 149 → J q i = I0 q i) → ((J 147 0 = nI (stL (fun k => I0 (sp k) 0) (nI s) d.1).length) ∧ ∀ (i v : Nat), (stL (fun k => I0 (sp k) 0) (nI s) d.1)[i]? = some v → J 148 i = nI v ∧ J 149 i = I0 (sp v) 2) → aE z mX5_collect (rK 3) Q 85 [some (.ref 147), some (.ref 1), some (.int (nI s)), some (.ref 7), l4, l5, l6] [] (nn true) (MM J sp true) 0 0) : ∀ (e k : Nat), k + e = d.1 → ∀ (I : Nat → Nat → Int32) (l5 l6 : Option Value), (∀ q i, ¬ (q = 147 ∧ i = 0) → q ≠ 148 → q ≠ 149 → I q i = I0 q i) → ((I 147 0 = nI (stL (fun k => I0 (sp k) 0) (nI s) k).length) ∧ ∀ (i v : Nat), (stL (fun k => I0 (sp k) 0) (nI s) k)[i]? = some v → I 148 i = nI v ∧ I 149 i = I0 (sp v) 2) → aE z mX5_collect (rK 3) Q 16 [some (.ref 147), some (.ref 1), some (.int (nI s)), some (.ref 7), some (.int (nI k)), l5, l6] [] (nn true) (MM I sp true) 0 0 := by
  obtain ⟨hn, h10⟩ := hW.2.2.2.2.2.2.1
  have hsp := hW.2.2.2.2.2.2.2.1
  intro e
  induction e with
  | zero =>
    intro k hk I l5 l6 hfr hst
    have hk : k = d.1 := by omega
    subst hk
    refine aE_iload dX5_collect_16 rfl ?_
    refine aE_aload_n dX5_collect_18 rfl rfl ?_
    refine aE_geti dX5_collect_19 fw_X5_84 (lt_nn (by decide)) rfl (by decide) rfl ?_
    refine aE_icmp_ge (tgt := 85) dX5_collect_22 (by decide) (fun h22 => ?_) (fun h22 => absurd (by rw [hfr 1 5 (by omega) (by omega) (by omega), hn]; exact Int32.le_refl _) h22)
    exact k0 I _ _ _ hfr hst
  | succ e ih =>
    intro k hk I l5 l6 hfr hst
    have hlk := stL_len (f := (fun k => I0 (sp k) 0)) (x := nI s) k
    have h0k : I (sp k) 0 = I0 (sp k) 0 := hfr _ _ (by have := hsp k (by omega); omega) (by have := hsp k (by omega); omega) (by have := hsp k (by omega); omega)
    have h2k : ∀ v w, iu (iu I 148 (stL (fun k => I0 (sp k) 0) (nI s) k).length v) 149 w (I0 (sp k) 2) (sp k) 2 = I0 (sp k) 2 := fun v w => by
      rw [iu_ne (by have := hsp k (by omega); omega), iu_ne (by have := hsp k (by omega); omega)]
      exact hfr _ _ (by have := hsp k (by omega); omega) (by have := hsp k (by omega); omega) (by have := hsp k (by omega); omega)
    have h2k' : ∀ v, iu I 148 (stL (fun k => I0 (sp k) 0) (nI s) k).length v (sp k) 2 = I0 (sp k) 2 := fun v => by
      rw [iu_ne (by have := hsp k (by omega); omega)]
      exact hfr _ _ (by have := hsp k (by omega); omega) (by have := hsp k (by omega); omega) (by have := hsp k (by omega); omega)
    by_cases hsc : I0 (sp k) 0 = nI s
    · have e1 : stL (fun k => I0 (sp k) 0) (nI s) (k + 1) = stL (fun k => I0 (sp k) 0) (nI s) k ++ [k] := if_pos hsc
      have ih2 := fun l5 l6 => ih (k + 1) (by omega) (iu (iu (iu I 148 (stL (fun k => I0 (sp k) 0) (nI s) k).length (nI k)) 149 (stL (fun k => I0 (sp k) 0) (nI s) k).length (I0 (sp k) 2)) 147 0 (nI ((stL (fun k => I0 (sp k) 0) (nI s) k).length + 1))) l5 l6 (fun q i a b c => by rw [iu_ne (by omega), iu_ne (by omega), iu_ne (by omega)]; exact hfr q i a b c) (by
        rw [e1]
        refine ⟨by rw [iu_eq]; simp, fun i v hi => ?_⟩
        rw [iu_ne (by omega), iu_ne (by omega)]
        rcases Nat.lt_trichotomy i (stL (fun k => I0 (sp k) 0) (nI s) k).length with q | q | q
        · rw [List.getElem?_append_left q] at hi
          rw [iu_ne (by omega), iu_ne (by omega), iu_ne (by omega)]
          exact hst.2 i v hi
        · subst q
          rw [List.getElem?_append_right (Nat.le_refl _)] at hi
          simp at hi
          subst hi
          exact ⟨iu_eq, by rw [iu_ne (by omega), iu_eq]⟩
        · rw [List.getElem?_append_right (by omega)] at hi
          obtain ⟨m, hm⟩ : ∃ m, i - (stL (fun k => I0 (sp k) 0) (nI s) k).length = m + 1 := ⟨i - (stL (fun k => I0 (sp k) 0) (nI s) k).length - 1, by omega⟩
          rw [hm] at hi
          simp at hi)
      refine aE_iload dX5_collect_16 rfl ?_
      refine aE_aload_n dX5_collect_18 rfl rfl ?_
      refine aE_geti dX5_collect_19 fw_X5_84 (lt_nn (by decide)) rfl (by decide) rfl ?_
      refine aE_icmp_ge (tgt := 85) dX5_collect_22 (by decide) (fun h22 => absurd h22 (by rw [hfr 1 5 (by omega) (by omega) (by omega), hn]; exact nI_ge (by omega) (by omega))) (fun h22 => ?_)
      refine aE_aload_n dX5_collect_25 rfl rfl ?_
      refine aE_getf (v := .ref 27) dX5_collect_26 fw_X5_87 (lt_nn (by decide)) rfl rfl ?_
      refine aE_iload dX5_collect_29 rfl ?_
      refine aE_aald (t := 103) dX5_collect_31 (lt_nn (by decide)) ⟨by decide, by decide⟩ rfl (by decide) rfl (show k < 10 by omega) mm_stop ?_
      refine aE_geti dX5_collect_32 fw_X5_91 (lt_nn (by have := (hsp k (by omega)); omega)) (sh_stop (hsp k (by omega))) (mc_stop (i := 0) (hsp k (by omega))).1 (mc_stop (i := 0) (hsp k (by omega))).2 ?_
      refine aE_top h0k ?_
      refine aE_iload_n dX5_collect_35 rfl rfl ?_
      refine aE_icmp_ne (tgt := 79) dX5_collect_36 (by decide) (fun h36 => absurd (hsc) h36) (fun h36 => ?_)
      refine aE_aload_n dX5_collect_39 rfl rfl ?_
      refine aE_getf (v := .ref 148) dX5_collect_40 fw_X5_9 (lt_nt (by decide)) rfl rfl ?_
      refine aE_aload_n dX5_collect_43 rfl rfl ?_
      refine aE_geti dX5_collect_44 fw_X5_42 (lt_nt (by decide)) rfl (by decide) rfl ?_
      refine aE_top hst.1 ?_
      refine aE_iload dX5_collect_47 rfl ?_
      refine aE_istM dX5_collect_49 (lt_nt (by decide)) rfl (by decide) rfl (by omega) ?_
      refine aE_aload_n dX5_collect_50 rfl rfl ?_
      refine aE_getf (v := .ref 149) dX5_collect_51 fw_X5_15 (lt_nt (by decide)) rfl rfl ?_
      refine aE_aload_n dX5_collect_54 rfl rfl ?_
      refine aE_geti dX5_collect_55 fw_X5_42 (lt_nt (by decide)) rfl (by decide) rfl ?_
      refine aE_top ((iu_ne (by omega)).trans hst.1) ?_
      refine aE_aload_n dX5_collect_58 rfl rfl ?_
      refine aE_getf (v := .ref 27) dX5_collect_59 fw_X5_87 (lt_nn (by decide)) rfl rfl ?_
      refine aE_iload dX5_collect_62 rfl ?_
      refine aE_aald (t := 103) dX5_collect_64 (lt_nn (by decide)) ⟨by decide, by decide⟩ rfl (by decide) rfl (show k < 10 by omega) mm_stop ?_
      refine aE_geti dX5_collect_65 fw_X5_96 (lt_nn (by have := (hsp k (by omega)); omega)) (sh_stop (hsp k (by omega))) (mc_stop (i := 2) (hsp k (by omega))).1 (mc_stop (i := 2) (hsp k (by omega))).2 ?_
      refine aE_top (h2k' _) ?_
      refine aE_istM dX5_collect_68 (lt_nt (by decide)) rfl (by decide) rfl (by omega) ?_
      refine aE_aload_n dX5_collect_69 rfl rfl ?_
      refine aE_dup dX5_collect_70 rfl ?_
      refine aE_geti dX5_collect_71 fw_X5_42 (lt_nt (by decide)) rfl (by decide) rfl ?_
      refine aE_top ((iu_ne (by omega)).trans ((iu_ne (by omega)).trans hst.1)) ?_
      refine aE_iconst (v := 1) dX5_collect_74 rfl ?_
      refine aE_iadd dX5_collect_75 ?_
      refine aE_top (nI_1 _) ?_
      refine aE_puti dX5_collect_76 fp_X5_42 (Or.inl rfl) (lt_nt (by decide)) rfl (fun _ => ⟨rfl, rfl⟩) (by decide) rfl ?_
      refine aE_iinc dX5_collect_79 rfl (a_inc _) (by decide) rfl (aE_loc (ls' := [_, _, _, _, _, _, _]) rfl ?_)
      refine aE_goto (tgt := 16) dX5_collect_82 (by decide) ?_
      exact ih2 _ _
    · have e1 : stL (fun k => I0 (sp k) 0) (nI s) (k + 1) = stL (fun k => I0 (sp k) 0) (nI s) k := if_neg hsc
      have ih2 := fun l5 l6 => ih (k + 1) (by omega) I l5 l6 hfr (by rw [e1]; exact hst)
      refine aE_iload dX5_collect_16 rfl ?_
      refine aE_aload_n dX5_collect_18 rfl rfl ?_
      refine aE_geti dX5_collect_19 fw_X5_84 (lt_nn (by decide)) rfl (by decide) rfl ?_
      refine aE_icmp_ge (tgt := 85) dX5_collect_22 (by decide) (fun h22 => absurd h22 (by rw [hfr 1 5 (by omega) (by omega) (by omega), hn]; exact nI_ge (by omega) (by omega))) (fun h22 => ?_)
      refine aE_aload_n dX5_collect_25 rfl rfl ?_
      refine aE_getf (v := .ref 27) dX5_collect_26 fw_X5_87 (lt_nn (by decide)) rfl rfl ?_
      refine aE_iload dX5_collect_29 rfl ?_
      refine aE_aald (t := 103) dX5_collect_31 (lt_nn (by decide)) ⟨by decide, by decide⟩ rfl (by decide) rfl (show k < 10 by omega) mm_stop ?_
      refine aE_geti dX5_collect_32 fw_X5_91 (lt_nn (by have := (hsp k (by omega)); omega)) (sh_stop (hsp k (by omega))) (mc_stop (i := 0) (hsp k (by omega))).1 (mc_stop (i := 0) (hsp k (by omega))).2 ?_
      refine aE_top h0k ?_
      refine aE_iload_n dX5_collect_35 rfl rfl ?_
      refine aE_icmp_ne (tgt := 79) dX5_collect_36 (by decide) (fun h36 => ?_) (fun h36 => absurd h36 (hsc))
      refine aE_iinc dX5_collect_79 rfl (a_inc _) (by decide) rfl (aE_loc (ls' := [_, _, _, _, _, _, _]) rfl ?_)
      refine aE_goto (tgt := 16) dX5_collect_82 (by decide) ?_
      exact ih2 _ _
theorem l_coll3 (e : Nat → Nat) (m : Nat) (hm : m ≤ 10) (he : ∀ i, i < m → e i < d.1) (I1 : Nat → Nat → Int32) (hW1 : CW I1 sp ns nstr nc d cs fr to) (hc1 : I1 147 0 = nI m) (hst1 : ∀ i, i < m → I1 148 i = nI (e i)) (htb : ∀ a b, a < nc → b < nc → I1 (8 + a) b = d.2.2.1 a b) (s : Nat) (hs : s < ns) (i : Nat) (hi : i < m) (I0 : Nat → Nat → Int32) (h150 : I0 150 i = d.2.2.1 (d.2.1 (e i)) (cs s).1) (hf0 : (∀ q i, q ≠ 150 → ¬ (152 ≤ q ∧ q ≤ 161) → I0 q i = I1 q i)) (k0 : ∀ (J : Nat → Nat → Int32) (l6 : Option Value), (∀ q w, q ≠ 152 + i → J q w = I0 q w) → (∀ j, j < m → J (152 + i) j = d.2.2.1 (d.2.1 (e i)) (d.2.1 (e j))) → aE z mX5_collect (rK 3) Q 183 [some (.ref 147), some (.ref 1), some (.int (nI s)), some (.ref 7), some (.int (nI i)), some (.int (nI (d.2.1 (e i)))), l6] [] (nn true) (MM J sp true) 0 0) : ∀ (n j : Nat), j + n = m → ∀ (I : Nat → Nat → Int32), (∀ q w, q ≠ 152 + i → I q w = I0 q w) → (∀ j', j' < j → I (152 + i) j' = d.2.2.1 (d.2.1 (e i)) (d.2.1 (e j'))) → aE z mX5_collect (rK 3) Q 138 [some (.ref 147), some (.ref 1), some (.int (nI s)), some (.ref 7), some (.int (nI i)), some (.int (nI (d.2.1 (e i)))), some (.int (nI j))] [] (nn true) (MM I sp true) 0 0 := by
  have hsp := hW1.2.2.2.2.2.2.2.1
  have h10 := hW1.2.2.2.2.2.2.1.2
  have h8 := hW1.2.1.2
  have hst := hW1.2.2.2.2.2.2.2.2.1
  intro n
  induction n with
  | zero =>
    intro j hj I hfr hrow
    have hj : j = m := by omega
    subst hj
    refine aE_iload dX5_collect_138 rfl ?_
    refine aE_aload_n dX5_collect_140 rfl rfl ?_
    refine aE_geti dX5_collect_141 fw_X5_42 (lt_nt (by decide)) rfl (by decide) rfl ?_
    refine aE_icmp_ge (tgt := 183) dX5_collect_144 (by decide) (fun h144 => ?_) (fun h144 => absurd (by rw [hfr 147 0 (by omega), hf0 147 0 (by omega) (by omega), hc1]; exact Int32.le_refl _) h144)
    exact k0 I _ hfr hrow
  | succ n ih =>
    intro j hj I hfr hrow
    have hei := he i hi
    have hej := he j (by omega)
    obtain ⟨c1, c2, -, -⟩ := hst (e i) hei
    obtain ⟨c3, c4, -, -⟩ := hst (e j) hej
    have f : ∀ q w, q < 147 ∨ q = 148 → I q w = I1 q w := fun q w hq => (hfr q w (by omega)).trans (hf0 q w (by omega) (by omega))
    have ih2 := ih (j + 1) (by omega) (iu I (152 + i) j (d.2.2.1 (d.2.1 (e i)) (d.2.1 (e j)))) (fun q w h => (iu_ne (by omega)).trans (hfr q w h)) (fun j' hj' => by
      by_cases q : j' = j
      · subst q; exact iu_eq
      · exact (iu_ne (by omega)).trans (hrow j' (by omega)))
    refine aE_iload dX5_collect_138 rfl ?_
    refine aE_aload_n dX5_collect_140 rfl rfl ?_
    refine aE_geti dX5_collect_141 fw_X5_42 (lt_nt (by decide)) rfl (by decide) rfl ?_
    refine aE_icmp_ge (tgt := 183) dX5_collect_144 (by decide) (fun h144 => absurd h144 (by rw [hfr 147 0 (by omega), hf0 147 0 (by omega) (by omega), hc1]; exact nI_ge (by omega) (by omega))) (fun h144 => ?_)
    refine aE_aload_n dX5_collect_147 rfl rfl ?_
    refine aE_getf (v := .ref 151) dX5_collect_148 fw_X5_23 (lt_nt (by decide)) rfl rfl ?_
    refine aE_iload dX5_collect_151 rfl ?_
    refine aE_aald (t := 105) dX5_collect_153 (lt_nt (by decide)) ⟨by decide, by decide⟩ rfl (by decide) rfl (show i < 10 by omega) (mm_btw (show i < 10 by omega)) ?_
    refine aE_iload dX5_collect_154 rfl ?_
    refine aE_aload_n dX5_collect_156 rfl rfl ?_
    refine aE_iload dX5_collect_157 rfl ?_
    refine aE_aald (t := 105) dX5_collect_159 (lt_nn (by decide)) ⟨by decide, by decide⟩ rfl (by decide) rfl (show d.2.1 (e i) < 8 by omega) (mm_plain (show d.2.1 (e i) < 8 by omega)) ?_
    refine aE_aload_n dX5_collect_160 rfl rfl ?_
    refine aE_getf (v := .ref 27) dX5_collect_161 fw_X5_87 (lt_nn (by decide)) rfl rfl ?_
    refine aE_aload_n dX5_collect_164 rfl rfl ?_
    refine aE_getf (v := .ref 148) dX5_collect_165 fw_X5_9 (lt_nt (by decide)) rfl rfl ?_
    refine aE_iload dX5_collect_168 rfl ?_
    refine aE_ildM dX5_collect_170 (lt_nt (by decide)) rfl (by decide) rfl (by omega) ?_
    refine aE_top ((f 148 j (by omega)).trans (hst1 j (by omega))) ?_
    refine aE_aald (t := 103) dX5_collect_171 (lt_nn (by decide)) ⟨by decide, by decide⟩ rfl (by decide) rfl (show e j < 10 by omega) mm_stop ?_
    refine aE_geti dX5_collect_172 fw_X5_98 (lt_nn (by have := (hsp (e j) (by omega)); omega)) (sh_stop (hsp (e j) (by omega))) (mc_stop (i := 1) (hsp (e j) (by omega))).1 (mc_stop (i := 1) (hsp (e j) (by omega))).2 ?_
    refine aE_top ((f _ 1 (by have := hsp (e j) (by omega); omega)).trans c4) ?_
    refine aE_ildM dX5_collect_175 (lt_nn (by omega)) (sh_plain (show d.2.1 (e i) < 8 by omega)) (by decide) rfl (by omega) ?_
    refine aE_top ((f _ _ (by omega)).trans (htb _ _ c1 c3)) ?_
    refine aE_istM dX5_collect_176 (lt_nt (by omega)) (sh_btw (show i < 10 by omega)) (by decide) rfl (by omega) ?_
    refine aE_iinc dX5_collect_177 rfl (a_inc _) (by decide) rfl (aE_loc (ls' := [_, _, _, _, _, _, _]) rfl ?_)
    refine aE_goto (tgt := 138) dX5_collect_180 (by decide) ?_
    exact ih2
theorem l_coll2 (e : Nat → Nat) (m : Nat) (hm : m ≤ 10) (he : ∀ i, i < m → e i < d.1) (I1 : Nat → Nat → Int32) (hW1 : CW I1 sp ns nstr nc d cs fr to) (hc1 : I1 147 0 = nI m) (hst1 : ∀ i, i < m → I1 148 i = nI (e i)) (htb : ∀ a b, a < nc → b < nc → I1 (8 + a) b = d.2.2.1 a b) (s : Nat) (hs : s < ns) (hQ : ∀ J, (∀ q i, q ≠ 150 → ¬ (152 ≤ q ∧ q ≤ 161) → J q i = I1 q i) → (∀ i', i' < m → J 150 i' = d.2.2.1 (d.2.1 (e i')) (cs s).1 ∧ ∀ j, j < m → J (152 + i') j = d.2.2.1 (d.2.1 (e i')) (d.2.1 (e j))) → Q none (nn true) (MM J sp true)) : ∀ (n i : Nat), i + n = m → ∀ (I : Nat → Nat → Int32) (l5 l6 : Option Value), (∀ q i, q ≠ 150 → ¬ (152 ≤ q ∧ q ≤ 161) → I q i = I1 q i) → (∀ i', i' < i → I 150 i' = d.2.2.1 (d.2.1 (e i')) (cs s).1 ∧ ∀ j, j < m → I (152 + i') j = d.2.2.1 (d.2.1 (e i')) (d.2.1 (e j))) → aE z mX5_collect (rK 3) Q 88 [some (.ref 147), some (.ref 1), some (.int (nI s)), some (.ref 7), some (.int (nI i)), l5, l6] [] (nn true) (MM I sp true) 0 0 := by
  have hsp := hW1.2.2.2.2.2.2.2.1
  have h10 := hW1.2.2.2.2.2.2.1.2
  have h8 := hW1.2.1.2
  have hst := hW1.2.2.2.2.2.2.2.2.1
  have hns := hW1.1.2
  intro n
  induction n with
  | zero =>
    intro i hi I l5 l6 hfr hrow
    have hi : i = m := by omega
    subst hi
    refine aE_iload dX5_collect_88 rfl ?_
    refine aE_aload_n dX5_collect_90 rfl rfl ?_
    refine aE_geti dX5_collect_91 fw_X5_42 (lt_nt (by decide)) rfl (by decide) rfl ?_
    refine aE_icmp_ge (tgt := 189) dX5_collect_94 (by decide) (fun h94 => ?_) (fun h94 => absurd (by rw [hfr 147 0 (by omega) (by omega), hc1]; exact Int32.le_refl _) h94)
    refine aE_vret dX5_collect_189 rfl ⟨by decide, by decide⟩ ?_
    exact hQ I hfr hrow
  | succ n ih =>
    intro i hi I l5 l6 hfr hrow
    have hei := he i (by omega)
    obtain ⟨c1, c2, -, -⟩ := hst (e i) hei
    obtain ⟨c5, c6, -, -⟩ := hW1.2.2.2.2.2.2.2.2.2.2.1 s hs
    have f : ∀ q w, q < 147 ∨ q = 148 → I q w = I1 q w := fun q w hq => hfr q w (by omega) (by omega)
    refine aE_iload dX5_collect_88 rfl ?_
    refine aE_aload_n dX5_collect_90 rfl rfl ?_
    refine aE_geti dX5_collect_91 fw_X5_42 (lt_nt (by decide)) rfl (by decide) rfl ?_
    refine aE_icmp_ge (tgt := 189) dX5_collect_94 (by decide) (fun h94 => absurd h94 (by rw [hfr 147 0 (by omega) (by omega), hc1]; exact nI_ge (by omega) (by omega))) (fun h94 => ?_)
    refine aE_aload_n dX5_collect_97 rfl rfl ?_
    refine aE_getf (v := .ref 27) dX5_collect_98 fw_X5_87 (lt_nn (by decide)) rfl rfl ?_
    refine aE_aload_n dX5_collect_101 rfl rfl ?_
    refine aE_getf (v := .ref 148) dX5_collect_102 fw_X5_9 (lt_nt (by decide)) rfl rfl ?_
    refine aE_iload dX5_collect_105 rfl ?_
    refine aE_ildM dX5_collect_107 (lt_nt (by decide)) rfl (by decide) rfl (by omega) ?_
    refine aE_top ((f 148 i (by omega)).trans (hst1 i (by omega))) ?_
    refine aE_aald (t := 103) dX5_collect_108 (lt_nn (by decide)) ⟨by decide, by decide⟩ rfl (by decide) rfl (show e i < 10 by omega) mm_stop ?_
    refine aE_geti dX5_collect_109 fw_X5_98 (lt_nn (by have := (hsp (e i) (by omega)); omega)) (sh_stop (hsp (e i) (by omega))) (mc_stop (i := 1) (hsp (e i) (by omega))).1 (mc_stop (i := 1) (hsp (e i) (by omega))).2 ?_
    refine aE_top ((f _ 1 (by have := hsp (e i) (by omega); omega)).trans c2) ?_
    refine aE_istore dX5_collect_112 (by decide) rfl (aE_loc (ls' := [_, _, _, _, _, _, _]) rfl ?_)
    refine aE_aload_n dX5_collect_114 rfl rfl ?_
    refine aE_getf (v := .ref 150) dX5_collect_115 fw_X5_18 (lt_nt (by decide)) rfl rfl ?_
    refine aE_iload dX5_collect_118 rfl ?_
    refine aE_aload_n dX5_collect_120 rfl rfl ?_
    refine aE_iload dX5_collect_121 rfl ?_
    refine aE_aald (t := 105) dX5_collect_123 (lt_nn (by decide)) ⟨by decide, by decide⟩ rfl (by decide) rfl (show d.2.1 (e i) < 8 by omega) (mm_plain (show d.2.1 (e i) < 8 by omega)) ?_
    refine aE_aload_n dX5_collect_124 rfl rfl ?_
    refine aE_getf (v := .ref 25) dX5_collect_125 fw_X5_66 (lt_nn (by decide)) rfl rfl ?_
    refine aE_iload_n dX5_collect_128 rfl rfl ?_
    refine aE_aald (t := 102) dX5_collect_129 (lt_nn (by decide)) ⟨by decide, by decide⟩ rfl (by decide) rfl (show s < 4 by omega) (mm_schs (show s < 4 by omega)) ?_
    refine aE_geti dX5_collect_130 fw_X5_101 (lt_nn (by omega)) (sh_sch (show s < 4 by omega)) (mc_sch (i := 1) (show s < 4 by omega) (by decide)).1 (mc_sch (i := 1) (show s < 4 by omega) (by decide)).2 ?_
    refine aE_top ((f _ 1 (by omega)).trans c6) ?_
    refine aE_ildM dX5_collect_133 (lt_nn (by omega)) (sh_plain (show d.2.1 (e i) < 8 by omega)) (by decide) rfl (by omega) ?_
    refine aE_top ((f _ _ (by omega)).trans (htb _ _ c1 c5)) ?_
    refine aE_istM dX5_collect_134 (lt_nt (by decide)) rfl (by decide) rfl (by omega) ?_
    refine aE_iconst (v := 0) dX5_collect_135 rfl ?_
    refine aE_istore dX5_collect_136 (by decide) rfl (aE_loc (ls' := [_, _, _, _, _, _, _]) rfl ?_)
    refine l_coll3 e m hm he I1 hW1 hc1 hst1 htb s hs i (by omega) _ iu_eq (fun q w h1 h2 => (iu_ne (by omega)).trans (hfr q w h1 h2)) (fun J l6 hJ hJr => ?_) m 0 (by omega) _ (fun _ _ _ => rfl) (fun j hj => absurd hj (by omega))
    have ih2 := fun l5 l6 => ih (i + 1) (by omega) J l5 l6 (fun q w h1 h2 => (hJ q w (by omega)).trans ((iu_ne (by omega)).trans (hfr q w h1 h2))) (fun i' hi' => by
      by_cases q : i' = i
      · subst q; exact ⟨(hJ 150 i' (by omega)).trans iu_eq, hJr⟩
      · refine ⟨(hJ 150 i' (by omega)).trans ((iu_ne (by omega)).trans (hrow i' (by omega)).1), fun j hj => ?_⟩
        exact (hJ _ _ (by omega)).trans ((iu_ne (by omega)).trans ((hrow i' (by omega)).2 j hj)))
    refine aE_iinc dX5_collect_183 rfl (a_inc _) (by decide) rfl (aE_loc (ls' := [_, _, _, _, _, _, _]) rfl ?_)
    refine aE_goto (tgt := 88) dX5_collect_186 (by decide) ?_
    exact ih2 _ _
theorem c_collect (hW : CW I sp ns nstr nc d cs fr to) (s : Nat) (hs : s < ns) (hQ : ∀ J, (∀ q i, ¬ (147 ≤ q) → ¬ (8 ≤ q ∧ q < 16) → ¬ (q = 2 ∧ i = 8) → J q i = I q i) → CW J sp ns nstr nc d cs fr to → CD J (cpD d (stE (fun k => I (sp k) 0) (nI s) d.1) (stN (fun k => I (sp k) 0) (nI s) d.1)) (cs s) → (∀ i, i < (stN (fun k => I (sp k) 0) (nI s) d.1) → J 148 i = nI ((stE (fun k => I (sp k) 0) (nI s) d.1) i)) → Q none (nn true) (MM J sp true)) : aRuns mX5_collect (rK 3) [.ref 147, .ref 1, .int (nI s)] (nn true) (MM I sp true) Q := by
  have h4 := hW.1.2
  have h10 := hW.2.2.2.2.2.2.1.2
  have h8 := hW.2.1.2
  have hsp := hW.2.2.2.2.2.2.2.1
  have hEM := stE_EM (f := (fun k => I (sp k) 0)) (x := nI s) h10
  have hW2 := CW_tabI hW
  have hT := CW_tab hW
  have hTo : ∀ q i, (q < 8 ∨ 16 ≤ q) ∧ (q ≠ 2 ∨ i ≠ 8) → tabI I nc (dTab fr to (I 5) (I 6) 0 nstr) q i = I q i := fun q i h => tabI_o h8 h
  refine aRuns_of pn_X5_collect (Nat.le_of_ble_eq_true rfl) (fun z => aE_loc (ls' := [_, _, _, _, _, _, _]) rfl ?_)
  refine aE_aload_n dX5_collect_0 rfl rfl ?_
  refine aE_getf (v := .ref 2) dX5_collect_1 fw_X5_74 (lt_nn (by decide)) rfl rfl ?_
  refine aE_cVr dX5_collect_4 lk_X5_78 mv_X10_table (c_table nc hW.2.1.1 h8 nstr fr to hW.2.2.1.1 hW.2.2.1.2 hW.2.2.2.1 hW.2.2.2.2.1) rfl (lt_nn (by decide)) rfl rfl ⟨by decide, by decide⟩ (Nat.le_of_ble_eq_true rfl) ⟨rfl, rfl⟩ ⟨by decide, by decide⟩ ?_
  generalize tabI I nc (dTab fr to (I 5) (I 6) 0 nstr) = I2 at *
  refine aE_astore_n dX5_collect_7 rfl (by decide) rfl (aE_loc (ls' := [_, _, _, _, _, _, _]) rfl ?_)
  refine aE_aload_n dX5_collect_8 rfl rfl ?_
  refine aE_iconst (v := 0) dX5_collect_9 rfl ?_
  refine aE_puti dX5_collect_10 fp_X5_42 (Or.inl rfl) (lt_nt (by decide)) rfl (fun _ => ⟨rfl, rfl⟩) (by decide) rfl ?_
  refine aE_iconst (v := 0) dX5_collect_13 rfl ?_
  refine aE_istore dX5_collect_14 (by decide) rfl (aE_loc (ls' := [_, _, _, _, _, _, _]) rfl ?_)
  have hf0 : ∀ k, k < 10 → iu I2 147 0 0 (sp k) 0 = I (sp k) 0 := fun k hk => (iu_ne (by have := hsp k hk; omega)).trans (hTo _ _ (by have := hsp k hk; omega))
  have hW3 : CW (iu I2 147 0 0) sp ns nstr nc d cs fr to := CW_fr hW2 (fun q i a _ _ _ _ _ => iu_ne (by omega)) (fun _ a b ha hb => (iu_ne (by omega)).trans (hT a b ha hb))
  have hSL : ∀ k, k ≤ 10 → stL (fun k => iu I2 147 0 0 (sp k) 0) (nI s) k = stL (fun k => I (sp k) 0) (nI s) k := fun k hk => stL_congr k (fun j hj => hf0 j (by omega))
  refine l_coll1 (iu I2 147 0 0) s (by omega) hW3 (fun J l4 l5 l6 hfr hst => ?_) d.1 0 (by omega) _ _ _ (fun _ _ _ _ _ => rfl) ⟨iu_eq, fun i v hi => by simp [stL] at hi⟩
  rw [hSL d.1 h10] at hst
  have hW4 : CW J sp ns nstr nc d cs fr to := CW_fr hW3 (fun q i a _ _ _ _ _ => hfr q i (by omega) (by omega) (by omega)) (fun _ a b ha hb => (hfr _ _ (by omega) (by omega) (by omega)).trans ((iu_ne (by omega)).trans (hT a b ha hb)))
  have htb4 : ∀ a b, a < nc → b < nc → J (8 + a) b = d.2.2.1 a b := fun a b ha hb => (hfr _ _ (by omega) (by omega) (by omega)).trans ((iu_ne (by omega)).trans (hT a b ha hb))
  have k2 := l_coll2 (Q := Q) (z := z) (stE (fun k => I (sp k) 0) (nI s) d.1) (stN (fun k => I (sp k) 0) (nI s) d.1) hEM.2.2.1 hEM.2.1 J hW4 hst.1 (fun i hi => (hst.2 i _ (stE_get hi)).1) htb4 s hs (fun K hK hrow => by
    have fK : ∀ q i, q < 150 → K q i = J q i := fun q i h => hK q i (by omega) (by omega)
    refine hQ K (fun q i a b c => ?_) (CW_fr hW4 (fun q i a _ _ _ _ _ => fK q i (by omega)) (fun _ a b ha hb => (fK _ _ (by omega)).trans (htb4 a b ha hb))) ⟨(fK 147 0 (by omega)).trans hst.1, hEM.2.2.1, fun i hi => ?_, fun i hi => (hrow i hi).1, fun i j hi hj => (hrow i hi).2 j hj⟩ (fun i hi => (fK 148 i (by omega)).trans (hst.2 i _ (stE_get hi)).1)
    · rw [fK q i (by omega), hfr q i (by omega) (by omega) (by omega), iu_ne (by omega)]
      exact hTo q i (by omega)
    · have hv := (hst.2 i _ (stE_get hi)).2
      have hei := hEM.2.1 i hi
      have hpp := (hW3.2.2.2.2.2.2.2.2.1 ((stE (fun k => I (sp k) 0) (nI s) d.1) i) hei).2.2.1
      exact (fK 149 i (by omega)).trans (hv.trans hpp)) (stN (fun k => I (sp k) 0) (nI s) d.1) 0 (by omega) J
  refine aE_iconst (v := 0) dX5_collect_85 rfl ?_
  refine aE_istore dX5_collect_86 (by decide) rfl (aE_loc (ls' := [_, _, _, _, _, _, _]) rfl ?_)
  exact k2 _ _ (fun _ _ _ _ => rfl) (fun i' hi' => absurd hi' (by omega))
end CDRAW
