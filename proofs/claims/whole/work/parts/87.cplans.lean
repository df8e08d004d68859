theorem mm_one {q j : Nat} : mmc q j = 1 → q = 0 ∧ j = 6 := by
  have key : ∀ q, q < 166 → ∀ j, j < 64 → mmc q j = 1 → q = 0 ∧ j = 6 := by decide +kernel
  have key2 : ∀ q, q < 166 → (mmL.getD q []).length ≤ 64 := by decide +kernel
  intro h
  by_cases hq : q < 166
  · by_cases hj : j < 64
    · exact key q hq j hj h
    · have := key2 q hq
      unfold mmc at h
      rw [List.getD_eq_getElem?_getD (l := mmL.getD q []), List.getElem?_eq_none (by omega)] at h
      cases h
  · unfold mmc at h
    have hl : mmL.length ≤ 166 := by decide +kernel
    rw [List.getD_eq_getElem?_getD (l := mmL), List.getElem?_eq_none (by omega)] at h
    cases h
section CPLANS
variable {z : Nat × (Nat → Int32)} {n : Nat} {mem : aM} {I : Nat → Nat → Int32} {sp : Nat → Nat} {pl : Bool} {Q : Option Value → Nat → aM → Prop} {R : Room}variable {ns nstr nc : Nat} {d : pD} {cs : Nat → pC} {fr to : Nat → Nat}

theorem l_plans_t (I0 : Nat → Nat → Int32) (hW0 : CW I0 sp ns nstr nc d cs fr to) (hQ : ∀ J, FrDr I0 J → CW J sp ns nstr nc d cs fr to → ¬ J 0 7 = 0 → PCs J ns d cs (alC I0 sp d) → FlC J ns d cs (alC I0 sp d) (I0 1 8) → Q none (nn true) (MM J sp true)) : ∀ (n s : Nat), s + n = ns → ∀ (I : Nat → Nat → Int32), FrDr I0 I → CW I sp ns nstr nc d cs fr to → (∀ s', s' < s → PlC I s' d (cs s') ((alC I0 sp d) s')) → aE z mX11_drawPlans (rK 5) Q 28 [some (.ref 0), some (.int (nI s))] [] (nn true) (MM I sp true) 0 0 := by
  have hns := hW0.1.2
  have hA := CW_al hW0
  intro n
  induction n with
  | zero =>
    intro s hs I hfr hW hP
    have hs : s = ns := by omega
    rw [hs] at hP
    rw [hs]
    refine aE_iload_n dX11_drawPlans_28 rfl rfl ?_
    refine aE_aload_n dX11_drawPlans_29 rfl rfl ?_
    refine aE_getf (v := .ref 1) dX11_drawPlans_30 fw_X11_10 (lt_nn (by decide)) rfl rfl ?_
    refine aE_geti dX11_drawPlans_33 fw_X11_99 (lt_nn (by decide)) rfl (by decide) rfl ?_
    refine aE_icmp_ge (tgt := 57) dX11_drawPlans_36 (by decide) (fun h36 => ?_) (fun h36 => absurd (by rw [hW.1.1]; exact Int32.le_refl _) h36)
    refine aE_aload_n dX11_drawPlans_57 rfl rfl ?_
    refine aE_getf (v := .ref 54) dX11_drawPlans_58 fw_X11_19 (lt_nn (by decide)) rfl rfl ?_
    refine aE_aload_n dX11_drawPlans_61 rfl rfl ?_
    refine aE_getf (v := .ref 1) dX11_drawPlans_62 fw_X11_10 (lt_nn (by decide)) rfl rfl ?_
    refine aE_cVq dX11_drawPlans_65 lk_X11_341 mv_X1_gather (c_gather (Q := (fun r n' m' => r = none ∧ n' = nn true ∧ ∃ K, m' = MM K sp true ∧ (∀ q i, ¬ (8 ≤ q ∧ q < 16) → ¬ (q = 2 ∧ i = 8) → ¬ (59 ≤ q ∧ q < 69) → ¬ (q = 54 ∧ i < 3) → q ≠ 55 → q ≠ 57 → K q i = I q i) ∧ CW K sp ns nstr nc d cs fr to ∧ FlC K ns d cs (alC I0 sp d) (I 1 8))) hW hA hP (fun K a b c => ⟨rfl, rfl, K, rfl, a, b, c⟩)) rfl (lt_nn (by decide)) rfl rfl ⟨by decide, by decide⟩ (Nat.le_of_ble_eq_true rfl) ⟨rfl, rfl⟩ ⟨by decide, by decide⟩ ?_
    rintro r n' m' ⟨rfl, rfl, K, rfl, k1, k2, k3⟩
    refine aE_aload_n dX11_drawPlans_68 rfl rfl ?_
    refine aE_iconst (v := 1) dX11_drawPlans_69 rfl ?_
    refine aE_puti dX11_drawPlans_70 fp_X11_327 (Or.inl rfl) (lt_nn (by decide)) rfl (fun _ => a_narZ (by first | exact Or.inl rfl | exact Or.inr rfl | assumption)) (by decide) rfl ?_
    refine aE_vret dX11_drawPlans_73 rfl ⟨by decide, by decide⟩ ?_
    have f18 : I 1 8 = I0 1 8 := hfr 1 8 (by omega) (by omega) (by omega) (by omega) (by omega) (by omega) (by omega) (by omega) (by omega)
    rw [f18] at k3
    refine hQ _ (fun q i a b c d e f g h l => (iu_ne (by omega)).trans ((k1 q i g h f c d e).trans (hfr q i a b c d e f g h l))) (CW_fr k2 (fun q i a b c d e f => iu_ne (by omega)) (fun hm a b ha hb => ?_)) (by rw [iu_eq]; decide) (PCs_fr hns hP (fun q i h => (iu_ne (by omega)).trans (k1 q i (by omega) (by omega) (by omega) (by omega) (by omega) (by omega)))) (FlC_fr hA k3 (fun q i h => iu_ne (by omega)))
    rw [iu_ne (by omega)] at hm ⊢
    exact k2.2.2.2.2.2.2.2.2.2.2.2 hm a b ha hb
  | succ n ih =>
    intro s hs I hfr hW hP
    have hal : setOf (fun k => I (sp k) 0) (nI s) d.1 = (alC I0 sp d) s := congrFun (alC_fr hW0 (FrDr_C hfr)) s
    refine aE_iload_n dX11_drawPlans_28 rfl rfl ?_
    refine aE_aload_n dX11_drawPlans_29 rfl rfl ?_
    refine aE_getf (v := .ref 1) dX11_drawPlans_30 fw_X11_10 (lt_nn (by decide)) rfl rfl ?_
    refine aE_geti dX11_drawPlans_33 fw_X11_99 (lt_nn (by decide)) rfl (by decide) rfl ?_
    refine aE_icmp_ge (tgt := 57) dX11_drawPlans_36 (by decide) (fun h36 => absurd h36 (by rw [hW.1.1]; exact nI_ge (by omega) (by omega))) (fun h36 => ?_)
    refine aE_aload_n dX11_drawPlans_39 rfl rfl ?_
    refine aE_getf dX11_drawPlans_40 fw_X11_330 (lt_nn (by decide)) rfl rfl ?_
    refine aE_aload_n dX11_drawPlans_43 rfl rfl ?_
    refine aE_getf (v := .ref 1) dX11_drawPlans_44 fw_X11_10 (lt_nn (by decide)) rfl rfl ?_
    refine aE_iload_n dX11_drawPlans_47 rfl rfl ?_
    refine aE_cVq dX11_drawPlans_48 lk_X11_337 mv_X5_draw (c_draw (Q := (fun r n' m' => r = none ∧ n' = nn true ∧ ∃ K, m' = MM K sp true ∧ (∀ q i, ¬ (147 ≤ q) → ¬ (8 ≤ q ∧ q < 16) → ¬ (q = 2 ∧ i = 8) → ¬ (q = 28 + 4 * s ∧ (i = 3 ∨ i = 4)) → ¬ (29 + 4 * s ≤ q ∧ q ≤ 31 + 4 * s) → K q i = I q i) ∧ CW K sp ns nstr nc d cs fr to ∧ PlC K s d (cs s) (setOf (fun k => I (sp k) 0) (nI s) d.1))) hW s (by omega) (fun K a b c => ⟨rfl, rfl, K, rfl, a, b, c⟩)) rfl (lt_nt (by decide)) rfl rfl ⟨by decide, by decide⟩ (Nat.le_of_ble_eq_true rfl) ⟨rfl, rfl⟩ ⟨by decide, by decide⟩ ?_
    rintro r n' m' ⟨rfl, rfl, K, rfl, k1, k2, k3⟩
    refine aE_iinc dX11_drawPlans_51 rfl (a_inc _) (by decide) rfl (aE_loc (ls' := [_, _]) rfl ?_)
    refine aE_goto (tgt := 28) dX11_drawPlans_54 (by decide) ?_
    refine ih (s + 1) (by omega) K (fun q i a b c d e f g h l => (k1 q i a g h (by omega) (by omega)).trans (hfr q i a b c d e f g h l)) k2 (fun s' hs' => ?_)
    by_cases e : s' = s
    · subst e; rw [← hal]; exact k3
    · exact PlC_fr (hP s' (by omega)) (fun q i h => k1 q i (by omega) (by omega) (by omega) (by omega) (by omega))
theorem l_plans_f (I0 : Nat → Nat → Int32) (hW0 : CW I0 sp ns nstr nc d cs fr to) (hQ : ∀ J, FrDr I0 J → CW J sp ns nstr nc d cs fr to → ¬ J 0 7 = 0 → PCs J ns d cs (alC I0 sp d) → FlC J ns d cs (alC I0 sp d) (I0 1 8) → Q none (nn true) (MM J sp true)) : ∀ (n s : Nat), s + n = ns → ∀ (I : Nat → Nat → Int32), FrDr I0 I → CW I sp ns nstr nc d cs fr to → (∀ s', s' < s → PlC I s' d (cs s') ((alC I0 sp d) s')) → aE z mX11_drawPlans (rP 5) Q 28 [some (.ref 0), some (.int (nI s))] [] (nn true) (MM I sp true) 19 13461 := by
  have hns := hW0.1.2
  have hA := CW_al hW0
  intro n
  induction n with
  | zero =>
    intro s hs I hfr hW hP
    have hs : s = ns := by omega
    rw [hs] at hP
    rw [hs]
    refine aE_iload_n dX11_drawPlans_28 rfl rfl ?_
    refine aE_aload_n dX11_drawPlans_29 rfl rfl ?_
    refine aE_getf (v := .ref 1) dX11_drawPlans_30 fw_X11_10 (lt_nn (by decide)) rfl rfl ?_
    refine aE_geti dX11_drawPlans_33 fw_X11_99 (lt_nn (by decide)) rfl (by decide) rfl ?_
    refine aE_icmp_ge (tgt := 57) dX11_drawPlans_36 (by decide) (fun h36 => ?_) (fun h36 => absurd (by rw [hW.1.1]; exact Int32.le_refl _) h36)
    refine aE_aload_n dX11_drawPlans_57 rfl rfl ?_
    refine aE_getf (v := .ref 54) dX11_drawPlans_58 fw_X11_19 (lt_nn (by decide)) rfl rfl ?_
    refine aE_aload_n dX11_drawPlans_61 rfl rfl ?_
    refine aE_getf (v := .ref 1) dX11_drawPlans_62 fw_X11_10 (lt_nn (by decide)) rfl rfl ?_
    refine aE_cVq dX11_drawPlans_65 lk_X11_341 mv_X1_gather (c_gather (Q := (fun r n' m' => r = none ∧ n' = nn true ∧ ∃ K, m' = MM K sp true ∧ (∀ q i, ¬ (8 ≤ q ∧ q < 16) → ¬ (q = 2 ∧ i = 8) → ¬ (59 ≤ q ∧ q < 69) → ¬ (q = 54 ∧ i < 3) → q ≠ 55 → q ≠ 57 → K q i = I q i) ∧ CW K sp ns nstr nc d cs fr to ∧ FlC K ns d cs (alC I0 sp d) (I 1 8))) hW hA hP (fun K a b c => ⟨rfl, rfl, K, rfl, a, b, c⟩)) rfl (lt_nn (by decide)) rfl rfl ⟨by decide, by decide⟩ (Nat.le_of_ble_eq_true rfl) ⟨rfl, rfl⟩ ⟨by decide, by decide⟩ ?_
    rintro r n' m' ⟨rfl, rfl, K, rfl, k1, k2, k3⟩
    refine aE_aload_n dX11_drawPlans_68 rfl rfl ?_
    refine aE_iconst (v := 1) dX11_drawPlans_69 rfl ?_
    refine aE_puti dX11_drawPlans_70 fp_X11_327 (Or.inl rfl) (lt_nn (by decide)) rfl (fun _ => a_narZ (by first | exact Or.inl rfl | exact Or.inr rfl | assumption)) (by decide) rfl ?_
    refine aE_vret dX11_drawPlans_73 rfl ⟨by decide, by decide⟩ ?_
    have f18 : I 1 8 = I0 1 8 := hfr 1 8 (by omega) (by omega) (by omega) (by omega) (by omega) (by omega) (by omega) (by omega) (by omega)
    rw [f18] at k3
    refine hQ _ (fun q i a b c d e f g h l => (iu_ne (by omega)).trans ((k1 q i g h f c d e).trans (hfr q i a b c d e f g h l))) (CW_fr k2 (fun q i a b c d e f => iu_ne (by omega)) (fun hm a b ha hb => ?_)) (by rw [iu_eq]; decide) (PCs_fr hns hP (fun q i h => (iu_ne (by omega)).trans (k1 q i (by omega) (by omega) (by omega) (by omega) (by omega) (by omega)))) (FlC_fr hA k3 (fun q i h => iu_ne (by omega)))
    rw [iu_ne (by omega)] at hm ⊢
    exact k2.2.2.2.2.2.2.2.2.2.2.2 hm a b ha hb
  | succ n ih =>
    intro s hs I hfr hW hP
    have hal : setOf (fun k => I (sp k) 0) (nI s) d.1 = (alC I0 sp d) s := congrFun (alC_fr hW0 (FrDr_C hfr)) s
    refine aE_iload_n dX11_drawPlans_28 rfl rfl ?_
    refine aE_aload_n dX11_drawPlans_29 rfl rfl ?_
    refine aE_getf (v := .ref 1) dX11_drawPlans_30 fw_X11_10 (lt_nn (by decide)) rfl rfl ?_
    refine aE_geti dX11_drawPlans_33 fw_X11_99 (lt_nn (by decide)) rfl (by decide) rfl ?_
    refine aE_icmp_ge (tgt := 57) dX11_drawPlans_36 (by decide) (fun h36 => absurd h36 (by rw [hW.1.1]; exact nI_ge (by omega) (by omega))) (fun h36 => ?_)
    refine aE_aload_n dX11_drawPlans_39 rfl rfl ?_
    refine aE_getf dX11_drawPlans_40 fw_X11_330 (lt_nn (by decide)) rfl rfl ?_
    refine aE_aload_n dX11_drawPlans_43 rfl rfl ?_
    refine aE_getf (v := .ref 1) dX11_drawPlans_44 fw_X11_10 (lt_nn (by decide)) rfl rfl ?_
    refine aE_iload_n dX11_drawPlans_47 rfl rfl ?_
    refine aE_cVq dX11_drawPlans_48 lk_X11_337 mv_X5_draw (c_draw (Q := (fun r n' m' => r = none ∧ n' = nn true ∧ ∃ K, m' = MM K sp true ∧ (∀ q i, ¬ (147 ≤ q) → ¬ (8 ≤ q ∧ q < 16) → ¬ (q = 2 ∧ i = 8) → ¬ (q = 28 + 4 * s ∧ (i = 3 ∨ i = 4)) → ¬ (29 + 4 * s ≤ q ∧ q ≤ 31 + 4 * s) → K q i = I q i) ∧ CW K sp ns nstr nc d cs fr to ∧ PlC K s d (cs s) (setOf (fun k => I (sp k) 0) (nI s) d.1))) hW s (by omega) (fun K a b c => ⟨rfl, rfl, K, rfl, a, b, c⟩)) rfl (lt_nt (by decide)) rfl rfl ⟨by decide, by decide⟩ (Nat.le_of_ble_eq_true rfl) ⟨rfl, rfl⟩ ⟨by decide, by decide⟩ ?_
    rintro r n' m' ⟨rfl, rfl, K, rfl, k1, k2, k3⟩
    refine aE_iinc dX11_drawPlans_51 rfl (a_inc _) (by decide) rfl (aE_loc (ls' := [_, _]) rfl ?_)
    refine aE_goto (tgt := 28) dX11_drawPlans_54 (by decide) ?_
    refine ih (s + 1) (by omega) K (fun q i a b c d e f g h l => (k1 q i a g h (by omega) (by omega)).trans (hfr q i a b c d e f g h l)) k2 (fun s' hs' => ?_)
    by_cases e : s' = s
    · subst e; rw [← hal]; exact k3
    · exact PlC_fr (hP s' (by omega)) (fun q i h => k1 q i (by omega) (by omega) (by omega) (by omega) (by omega))
theorem c_drawPlans_t (hW : CW I sp ns nstr nc d cs fr to) (hst : ¬ I 0 7 = 0 → PCs I ns d cs (alC I sp d) ∧ FlC I ns d cs (alC I sp d) (I 1 8)) (hQ : ∀ J, FrDr I J → (¬ I 0 7 = 0 → J = I) → CW J sp ns nstr nc d cs fr to → ¬ J 0 7 = 0 → PCs J ns d cs (alC I sp d) → FlC J ns d cs (alC I sp d) (I 1 8) → Q none (nn true) (MM J sp true)) : aRuns mX11_drawPlans (rK 5) [.ref 0] (nn true) (MM I sp true) Q := by
  refine aRuns_of pn_X11_drawPlans (Nat.le_of_ble_eq_true rfl) (fun z => aE_loc (ls' := [_, _]) rfl ?_)
  refine aE_aload_n dX11_drawPlans_0 rfl rfl ?_
  refine aE_geti dX11_drawPlans_1 fw_X11_327 (lt_nn (by decide)) rfl (by decide) rfl ?_
  refine aE_if_eq (tgt := 8) dX11_drawPlans_4 (by decide) (fun h4 => ?_) (fun h4 => ?_)
  · skip
    refine aE_aload_n dX11_drawPlans_8 rfl rfl ?_
    refine aE_getf (v := .ref 147) dX11_drawPlans_9 fw_X11_330 (lt_nn (by decide)) rfl rfl ?_
    refine aE_nonnull (tgt := 26) dX11_drawPlans_12 (by decide) ?_
    refine aE_iconst (v := 0) dX11_drawPlans_26 rfl ?_
    refine aE_istore_n dX11_drawPlans_27 rfl (by decide) rfl (aE_loc (ls' := [_, _]) rfl ?_)
    exact l_plans_t I hW (fun J a b c e f => hQ J a (fun q => absurd h4 q) b c e f) ns 0 (by omega) I (FrDr_rf I) hW (fun s hs => absurd hs (by omega))
  · skip
    refine aE_vret dX11_drawPlans_7 rfl ⟨by decide, by decide⟩ ?_
    exact hQ I (FrDr_rf I) (fun _ => rfl) hW h4 (hst h4).1 (hst h4).2
set_option maxRecDepth 20000 in
theorem c_drawPlans_f (hW : CW I sp ns nstr nc d cs fr to) (h07 : I 0 7 = 0) (hQ : ∀ J, FrDr I J → (¬ I 0 7 = 0 → J = I) → CW J sp ns nstr nc d cs fr to → ¬ J 0 7 = 0 → PCs J ns d cs (alC I sp d) → FlC J ns d cs (alC I sp d) (I 1 8) → Q none (nn true) (MM J sp true)) : aRuns mX11_drawPlans (rP 5) [.ref 0] (nn false) (MM I sp false) Q := by
  have hz : ∀ q i, q < 147 → zI I 147 q i = I q i := fun q i h => by rw [zI_lt h]
  have hFz : FrDr I (zI I 147) := fun q i a _ _ _ _ _ _ _ _ => hz q i (by omega)
  have hWz : CW (zI I 147) sp ns nstr nc d cs fr to := CW_fr hW (FrDr_C hFz) (fun hm a b ha hb => by
    have h8 := hW.2.1.2
    rw [hz 2 8 (by omega)] at hm
    rw [hz _ _ (by omega)]
    exact hW.2.2.2.2.2.2.2.2.2.2.2 hm a b ha hb)
  have hup : a_up (MM (zI I 147) sp false) 0 6 (.ref 147) = MM (zI I 147) sp true := by
    funext q j
    unfold a_up
    by_cases h : q = 0 ∧ j = 6
    · obtain ⟨rfl, rfl⟩ := h; rfl
    · rw [if_neg h]
      unfold MM
      by_cases h2 : q = 27
      · rw [if_pos h2, if_pos h2]
      · rw [if_neg h2, if_neg h2]
        have key : mmc q j = 1 → q = 0 ∧ j = 6 := mm_one
        match hm : mmc q j with
        | 0 => rfl
        | 1 => exact absurd (key hm) h
        | k + 2 => rfl
  have hmem : MM I sp false = MM I sp false := rfl
  refine aRuns_of pn_X11_drawPlans (Nat.le_of_ble_eq_true rfl) (fun z => aE_loc (ls' := [_, _]) rfl ?_)
  refine aE_aload_n dX11_drawPlans_0 rfl rfl ?_
  refine aE_geti dX11_drawPlans_1 fw_X11_327 (lt_nn (by decide)) rfl (by decide) rfl ?_
  refine aE_if_eq (tgt := 8) dX11_drawPlans_4 (by decide) (fun h4 => ?_) (fun h4 => absurd (h07) h4)
  refine aE_aload_n dX11_drawPlans_8 rfl rfl ?_
  refine aE_getf (v := .null) dX11_drawPlans_9 fw_X11_330 (lt_nn (by decide)) rfl rfl ?_
  refine aE_nonnullN dX11_drawPlans_12 ?_
  refine aE_aload_n dX11_drawPlans_15 rfl rfl ?_
  refine aE_new (mem' := OV (MM (zI I 147) sp false) 147 0) dX11_drawPlans_16 cf_5 nw_X11_334 rfl (new_ok (I := zI I 147) (sp := sp) (pl := false) tyX5_ok (by decide) (fun i => zI_ge (by decide)) (by decide) (fun j => rfl)) (fun q hq => ?_) (by decide) ⟨by decide, by decide⟩ ?_
  · have hq2 : q < 147 := hq
    rw [OV_ne (by omega)]
    funext j
    unfold MM
    rw [hz q j hq2]
  refine aE_dup dX11_drawPlans_19 rfl ?_
  refine aE_callI (x := mX5_init) (Rx := { frames := 1, cells := 18, slots := 13452, locals := 40 }) (as := []) (b := 147) dX11_drawPlans_20 (Or.inr ⟨_, ln_X11_336⟩) mi_X5_init (c_pinit (I := I) (sp := sp)) rfl (by decide) rfl ⟨by decide, by decide⟩ (by decide) ⟨by decide, by decide⟩ ?_
  rintro r n' m' ⟨rfl, rfl, rfl⟩
  refine aE_putf dX11_drawPlans_23 fp_X11_330 (Or.inl rfl) (by decide) rfl (fun g => ⟨rfl, rfl⟩) ?_
  refine aE_mem hup ?_
  refine aE_iconst (v := 0) dX11_drawPlans_26 rfl ?_
  refine aE_istore_n dX11_drawPlans_27 rfl (by decide) rfl (aE_loc (ls' := [_, _]) rfl ?_)
  have h18 : zI I 147 1 8 = I 1 8 := hz 1 8 (by decide)
  have hal := alC_fr hW (FrDr_C hFz)
  have h := l_plans_f (Q := Q) (z := z) (zI I 147) hWz (fun J a b c e f => hQ J (fun q i x1 x2 x3 x4 x5 x6 x7 x8 x9 => (a q i x1 x2 x3 x4 x5 x6 x7 x8 x9).trans (hz q i (by omega))) (fun q => absurd h07 q) b c (by rw [← hal]; exact e) (by rw [← hal, ← h18]; exact f)) ns 0 (by omega) (zI I 147) (FrDr_rf _) hWz (fun s hs => absurd hs (by omega))
  exact h
end CPLANS
