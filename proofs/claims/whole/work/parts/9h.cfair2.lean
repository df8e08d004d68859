theorem faF_cg {w : Nat} {qu qu' pu pu' ri ri' ah ah' : Nat → Int32} {q : Int32} : ∀ n, (∀ k, k < n → qu k = qu' k ∧ pu k = pu' k ∧ ri k = ri' k ∧ ah k = ah' k) → faF w qu q pu ri ah n = faF w qu' q pu' ri' ah' n
  | 0, _ => rfl
  | n + 1, h => by
    obtain ⟨a, b, c, e⟩ := h n (by omega)
    rw [faF_s, faF_s, faF_cg n (fun k hk => h k (by omega)), b, c, e]
    by_cases x : qu' n = q
    · rw [if_pos x, if_pos (a.trans x)]
    · rw [if_neg x, if_neg (fun y => x (a.symm.trans y))]
section CFAIR2
variable {z : Nat × (Nat → Int32)} {n : Nat} {mem : aM} {I : Nat → Nat → Int32} {sp : Nat → Nat} {pl : Bool} {Q : Option Value → Nat → aM → Prop} {R : Room}variable {ns nstr nc : Nat} {d : pD} {cs : Nat → pC} {fr to : Nat → Nat}

set_option maxRecDepth 20000 in
theorem c_fair_t (q w : Int32) (hW : CW I sp ns nstr nc d cs fr to) (sc : Nat → Nat) (hsc : ∀ k, k < d.1 → sc k < ns ∧ I (sp k) 0 = nI (sc k)) (hst : ¬ I 0 7 = 0 → PCs I ns d cs (alC I sp d) ∧ FlC I ns d cs (alC I sp d) (I 1 8)) (hB : (wi q 0 3 = 0 ∨ wi w 0 3 = 0) → qi Q (-1000001) (fnd I) sp true) (h_0 : w = 0 → qi Q (faF 0 (fun k => I (sp k) 3) q d.2.2.2.1 (fun k => rideL d cs k (RR d cs (alC I sp d) ns)) (fun k => I (28 + 4 * sc k) 2 - I 26 (sc k)) d.1) I sp true) (h_3 : w = 3 → qi Q (faF 3 (fun k => I (sp k) 3) q d.2.2.2.1 (fun k => rideL d cs k (RR d cs (alC I sp d) ns)) (fun k => I (28 + 4 * sc k) 2 - I 26 (sc k)) d.1) I sp true) (hN : ∀ J, DP I J sp ns nstr nc d cs fr to → allH d cs (alC I sp d) ns = false → (w = 1 ∨ w = 2) → qi Q (-1000004) (fnd J) sp true) (h_1 : ∀ J X, DP I J sp ns nstr nc d cs fr to → allH d cs (alC I sp d) ns = true → w = 1 → (∀ q w, ¬ (8 ≤ q ∧ q < 16) → ¬ (q = 2 ∧ w = 8) → X q w = J q w) → CW X sp ns nstr nc d cs fr to → qi Q (faF 1 (fun k => I (sp k) 3) q d.2.2.2.1 (fun k => rideL d cs k (RR d cs (alC I sp d) ns)) (fun k => I (28 + 4 * sc k) 2 - I 26 (sc k)) d.1) X sp true) (h_2 : ∀ J X, DP I J sp ns nstr nc d cs fr to → allH d cs (alC I sp d) ns = true → w = 2 → (∀ q w, ¬ (8 ≤ q ∧ q < 16) → ¬ (q = 2 ∧ w = 8) → X q w = J q w) → CW X sp ns nstr nc d cs fr to → qi Q (faF 2 (fun k => I (sp k) 3) q d.2.2.2.1 (fun k => rideL d cs k (RR d cs (alC I sp d) ns)) (fun k => I (28 + 4 * sc k) 2 - I 26 (sc k)) d.1) X sp true) : aRuns mX11_fair (rK 6) [.ref 0, .int q, .int w] (nn true) (MM I sp true) Q := by
  refine aRuns_of pn_X11_fair (Nat.le_of_ble_eq_true rfl) (fun z => aE_loc (ls' := [_, _, _]) rfl ?_)
  refine aE_iload_n dX11_fair_0 rfl rfl ?_
  refine aE_iconst (v := 0) dX11_fair_1 rfl ?_
  refine aE_iconst (v := 3) dX11_fair_2 rfl ?_
  refine aE_cSi dX11_fair_3 lk_X11_74 ms_X11_within (c_within _ _ _) rfl rfl ⟨by decide, by decide⟩ (Nat.le_of_ble_eq_true rfl) ⟨rfl, rfl⟩ ⟨by decide, by decide⟩ ?_
  refine aE_if_eq (tgt := 18) dX11_fair_6 (by decide) (fun h6 => ?_) (fun h6 => ?_)
  · skip
    refine aE_aload_n dX11_fair_18 rfl rfl ?_
    refine aE_ldc dX11_fair_19 ct_X11_78 ?_
    refine aE_cVi dX11_fair_21 lk_X11_62 mv_X11_found (c_found _) rfl (lt_nn (by decide)) rfl rfl ⟨by decide, by decide⟩ (Nat.le_of_ble_eq_true rfl) ⟨rfl, rfl⟩ ⟨by decide, by decide⟩ ?_
    refine aE_iret dX11_fair_24 rfl ⟨by decide, by decide⟩ ?_
    first
      | exact hB (Or.inl h6)
      | exact hB (Or.inr h15)
      | exact hB (Or.inr (Classical.not_not.mp h15))
  · skip
    refine aE_iload_n dX11_fair_9 rfl rfl ?_
    refine aE_iconst (v := 0) dX11_fair_10 rfl ?_
    refine aE_iconst (v := 3) dX11_fair_11 rfl ?_
    refine aE_cSi dX11_fair_12 lk_X11_74 ms_X11_within (c_within _ _ _) rfl rfl ⟨by decide, by decide⟩ (Nat.le_of_ble_eq_true rfl) ⟨rfl, rfl⟩ ⟨by decide, by decide⟩ ?_
    refine aE_if_ne (tgt := 25) dX11_fair_15 (by decide) (fun h15 => ?_) (fun h15 => ?_)
    · skip
      rcases wi03 h15 with rfl | rfl | rfl | rfl
      · skip
        refine aE_iload_n dX11_fair_25 rfl rfl ?_
        refine aE_iconst (v := 1) dX11_fair_26 rfl ?_
        refine aE_icmp_eq (tgt := 35) dX11_fair_27 (by decide) (fun h27 => absurd h27 (by decide)) (fun h27 => ?_)
        refine aE_iload_n dX11_fair_30 rfl rfl ?_
        refine aE_iconst (v := 2) dX11_fair_31 rfl ?_
        refine aE_icmp_ne (tgt := 56) dX11_fair_32 (by decide) (fun h32 => ?_) (fun h32 => absurd h32 (by decide))
        refine aE_iload_n dX11_fair_56 rfl rfl ?_
        refine aE_tableIn (off := 27) (tgt := 84) dX11_fair_57 (by decide) (by decide) rfl (by decide) ?_
        refine aE_aload_n dX11_fair_84 rfl rfl ?_
        refine aE_getf (v := .ref 1) dX11_fair_85 fw_X11_10 (lt_nn (by decide)) rfl rfl ?_
        refine aE_iload_n dX11_fair_88 rfl rfl ?_
        refine aE_cVi dX11_fair_89 lk_X11_288 mv_X0_pupilsFrom (c_fa0 (al := (alC I sp d)) hW sc hsc q) rfl (lt_nn (by decide)) rfl rfl ⟨by decide, by decide⟩ (Nat.le_of_ble_eq_true rfl) ⟨rfl, rfl⟩ ⟨by decide, by decide⟩ ?_
        refine aE_iret dX11_fair_92 rfl ⟨by decide, by decide⟩ ?_
        exact h_0 rfl
      · skip
        refine aE_iload_n dX11_fair_25 rfl rfl ?_
        refine aE_iconst (v := 1) dX11_fair_26 rfl ?_
        refine aE_icmp_eq (tgt := 35) dX11_fair_27 (by decide) (fun h27 => ?_) (fun h27 => absurd (rfl) h27)
        refine aE_aload_n dX11_fair_35 rfl rfl ?_
        refine aE_cVq dX11_fair_36 lk_X11_181 mv_X11_drawPlans (c_drawPlans_t (Q := (fun (r : Option Value) (n' : Nat) (m' : aM) => r = none ∧ n' = nn true ∧ ∃ J, m' = MM J sp true ∧ DP I J sp ns nstr nc d cs fr to)) hW hst (fun J a b c e f g => ⟨rfl, rfl, J, rfl, a, b, c, e, f, g⟩)) rfl (lt_nn (by decide)) rfl rfl ⟨by decide, by decide⟩ (Nat.le_of_ble_eq_true rfl) ⟨rfl, rfl⟩ ⟨by decide, by decide⟩ ?_
        rintro r n' m' ⟨rfl, rfl, J, rfl, hJ⟩
        have hWJ := hJ.2.2.1
        have hP := hJ.2.2.2.2.1
        have hF := hJ.2.2.2.2.2
        have hA := CW_al hW
        have hsp := hW.2.2.2.2.2.2.2.1
        have h10 := hW.2.2.2.2.2.2.1.2
        have hs4 := hW.1.2
        have fJ : ∀ q i, ¬ (147 ≤ q) → ¬ (28 ≤ q ∧ q < 44 ∧ ¬ (q % 4 = 0 ∧ i < 3)) → ¬ (54 ≤ q ∧ q < 69) → ¬ (8 ≤ q ∧ q < 16) → ¬ (q = 2 ∧ i = 8) → ¬ (q = 0 ∧ i = 7) → J q i = I q i := fun q i a b c e f g => hJ.1 q i a b (by omega) (by omega) (by omega) (by omega) e f g
        have fs : ∀ k i, k < 10 → J (sp k) i = I (sp k) i := fun k i hk => fJ _ _ (by have := hsp k hk; omega) (by have := hsp k hk; omega) (by have := hsp k hk; omega) (by have := hsp k hk; omega) (by have := hsp k hk; omega) (by have := hsp k hk; omega)
        have hscJ : ∀ k, k < d.1 → sc k < ns ∧ J (sp k) 0 = nI (sc k) := fun k hk => ⟨(hsc k hk).1, (fs k 0 (by omega)).trans (hsc k hk).2⟩
        have hot : ∀ k, k < d.1 → ∀ s', s' < ns → s' ≠ sc k → ((alC I sp d) s').testBit k = false := fun k hk => al_ot (f := fun k => I (sp k) 0) (n := d.1) hs4 (hsc k hk)
        have hcg : ∀ w, faF w (fun k => J (sp k) 3) q d.2.2.2.1 (fun k => rideL d cs k (RR d cs (alC I sp d) ns)) (fun k => J (28 + 4 * sc k) 2 - J 26 (sc k)) d.1 = (faF w (fun k => I (sp k) 3) q d.2.2.2.1 (fun k => rideL d cs k (RR d cs (alC I sp d) ns)) (fun k => I (28 + 4 * sc k) 2 - I 26 (sc k)) d.1) := fun w => faF_cg d.1 (fun k hk => ⟨fs k 3 (by omega), rfl, rfl, by
          have := (hsc k hk).1
          show J (28 + 4 * sc k) 2 - J 26 (sc k) = I (28 + 4 * sc k) 2 - I 26 (sc k)
          rw [fJ (28 + 4 * sc k) 2 (by omega) (by omega) (by omega) (by omega) (by omega) (by omega), fJ 26 (sc k) (by omega) (by omega) (by omega) (by omega) (by omega) (by omega)]⟩)
        refine aE_aload_n dX11_fair_39 rfl rfl ?_
        refine aE_getf (v := .ref 54) dX11_fair_40 fw_X11_19 (lt_nn (by decide)) rfl rfl ?_
        refine aE_geti dX11_fair_43 fw_X11_208 (lt_nn (by decide)) rfl (by decide) rfl ?_
        refine aE_if_ne (tgt := 56) dX11_fair_46 (by decide) (fun h46 => ?_) (fun h46 => ?_)
        · skip
          have ha : allH d cs (alC I sp d) ns = true := by
            cases u : allH d cs (alC I sp d) ns with
            | true => rfl
            | false => have := hF.1; rw [u] at this; exact absurd this h46
          refine aE_iload_n dX11_fair_56 rfl rfl ?_
          refine aE_tableIn (off := 36) (tgt := 93) dX11_fair_57 (by decide) (by decide) rfl (by decide) ?_
          refine aE_aload_n dX11_fair_93 rfl rfl ?_
          refine aE_getf (v := .ref 1) dX11_fair_94 fw_X11_10 (lt_nn (by decide)) rfl rfl ?_
          refine aE_iload_n dX11_fair_97 rfl rfl ?_
          refine aE_cVq dX11_fair_98 lk_X11_291 mv_X0_ridesFrom (c_fa1 (Q := (fun (r : Option Value) (n' : Nat) (m' : aM) => n' = nn true ∧ ∃ X, m' = MM X sp true ∧ r = some (.int (faF 1 (fun k => I (sp k) 3) q d.2.2.2.1 (fun k => rideL d cs k (RR d cs (alC I sp d) ns)) (fun k => I (28 + 4 * sc k) 2 - I 26 (sc k)) d.1)) ∧ (∀ q w, ¬ (8 ≤ q ∧ q < 16) → ¬ (q = 2 ∧ w = 8) → X q w = J q w) ∧ CW X sp ns nstr nc d cs fr to)) hWJ sc hscJ q hA hP hot (fun X a b => by rw [hcg 1]; exact ⟨rfl, X, rfl, rfl, a, b⟩)) rfl (lt_nn (by decide)) rfl rfl ⟨by decide, by decide⟩ (Nat.le_of_ble_eq_true rfl) ⟨rfl, rfl⟩ ⟨by decide, by decide⟩ ?_
          rintro r n' m' ⟨rfl, X, rfl, rfl, x1, x2⟩
          refine aE_iret dX11_fair_101 rfl ⟨by decide, by decide⟩ ?_
          exact h_1 J X hJ ha rfl x1 x2
        · skip
          have ha : allH d cs (alC I sp d) ns = false := by
            cases u : allH d cs (alC I sp d) ns with
            | false => rfl
            | true => have := hF.1; rw [u, show J 54 0 = 0 by first | exact h46 | exact Classical.not_not.mp h46] at this; exact absurd this (by decide)
          refine aE_aload_n dX11_fair_49 rfl rfl ?_
          refine aE_ldc dX11_fair_50 ct_X11_98 ?_
          refine aE_cVi dX11_fair_52 lk_X11_62 mv_X11_found (c_found _) rfl (lt_nn (by decide)) rfl rfl ⟨by decide, by decide⟩ (Nat.le_of_ble_eq_true rfl) ⟨rfl, rfl⟩ ⟨by decide, by decide⟩ ?_
          refine aE_iret dX11_fair_55 rfl ⟨by decide, by decide⟩ ?_
          exact hN J hJ ha (Or.inl rfl)
      · skip
        refine aE_iload_n dX11_fair_25 rfl rfl ?_
        refine aE_iconst (v := 1) dX11_fair_26 rfl ?_
        refine aE_icmp_eq (tgt := 35) dX11_fair_27 (by decide) (fun h27 => absurd h27 (by decide)) (fun h27 => ?_)
        refine aE_iload_n dX11_fair_30 rfl rfl ?_
        refine aE_iconst (v := 2) dX11_fair_31 rfl ?_
        refine aE_icmp_ne (tgt := 56) dX11_fair_32 (by decide) (fun h32 => absurd (rfl) h32) (fun h32 => ?_)
        refine aE_aload_n dX11_fair_35 rfl rfl ?_
        refine aE_cVq dX11_fair_36 lk_X11_181 mv_X11_drawPlans (c_drawPlans_t (Q := (fun (r : Option Value) (n' : Nat) (m' : aM) => r = none ∧ n' = nn true ∧ ∃ J, m' = MM J sp true ∧ DP I J sp ns nstr nc d cs fr to)) hW hst (fun J a b c e f g => ⟨rfl, rfl, J, rfl, a, b, c, e, f, g⟩)) rfl (lt_nn (by decide)) rfl rfl ⟨by decide, by decide⟩ (Nat.le_of_ble_eq_true rfl) ⟨rfl, rfl⟩ ⟨by decide, by decide⟩ ?_
        rintro r n' m' ⟨rfl, rfl, J, rfl, hJ⟩
        have hWJ := hJ.2.2.1
        have hP := hJ.2.2.2.2.1
        have hF := hJ.2.2.2.2.2
        have hA := CW_al hW
        have hsp := hW.2.2.2.2.2.2.2.1
        have h10 := hW.2.2.2.2.2.2.1.2
        have hs4 := hW.1.2
        have fJ : ∀ q i, ¬ (147 ≤ q) → ¬ (28 ≤ q ∧ q < 44 ∧ ¬ (q % 4 = 0 ∧ i < 3)) → ¬ (54 ≤ q ∧ q < 69) → ¬ (8 ≤ q ∧ q < 16) → ¬ (q = 2 ∧ i = 8) → ¬ (q = 0 ∧ i = 7) → J q i = I q i := fun q i a b c e f g => hJ.1 q i a b (by omega) (by omega) (by omega) (by omega) e f g
        have fs : ∀ k i, k < 10 → J (sp k) i = I (sp k) i := fun k i hk => fJ _ _ (by have := hsp k hk; omega) (by have := hsp k hk; omega) (by have := hsp k hk; omega) (by have := hsp k hk; omega) (by have := hsp k hk; omega) (by have := hsp k hk; omega)
        have hscJ : ∀ k, k < d.1 → sc k < ns ∧ J (sp k) 0 = nI (sc k) := fun k hk => ⟨(hsc k hk).1, (fs k 0 (by omega)).trans (hsc k hk).2⟩
        have hot : ∀ k, k < d.1 → ∀ s', s' < ns → s' ≠ sc k → ((alC I sp d) s').testBit k = false := fun k hk => al_ot (f := fun k => I (sp k) 0) (n := d.1) hs4 (hsc k hk)
        have hcg : ∀ w, faF w (fun k => J (sp k) 3) q d.2.2.2.1 (fun k => rideL d cs k (RR d cs (alC I sp d) ns)) (fun k => J (28 + 4 * sc k) 2 - J 26 (sc k)) d.1 = (faF w (fun k => I (sp k) 3) q d.2.2.2.1 (fun k => rideL d cs k (RR d cs (alC I sp d) ns)) (fun k => I (28 + 4 * sc k) 2 - I 26 (sc k)) d.1) := fun w => faF_cg d.1 (fun k hk => ⟨fs k 3 (by omega), rfl, rfl, by
          have := (hsc k hk).1
          show J (28 + 4 * sc k) 2 - J 26 (sc k) = I (28 + 4 * sc k) 2 - I 26 (sc k)
          rw [fJ (28 + 4 * sc k) 2 (by omega) (by omega) (by omega) (by omega) (by omega) (by omega), fJ 26 (sc k) (by omega) (by omega) (by omega) (by omega) (by omega) (by omega)]⟩)
        refine aE_aload_n dX11_fair_39 rfl rfl ?_
        refine aE_getf (v := .ref 54) dX11_fair_40 fw_X11_19 (lt_nn (by decide)) rfl rfl ?_
        refine aE_geti dX11_fair_43 fw_X11_208 (lt_nn (by decide)) rfl (by decide) rfl ?_
        refine aE_if_ne (tgt := 56) dX11_fair_46 (by decide) (fun h46 => ?_) (fun h46 => ?_)
        · skip
          have ha : allH d cs (alC I sp d) ns = true := by
            cases u : allH d cs (alC I sp d) ns with
            | true => rfl
            | false => have := hF.1; rw [u] at this; exact absurd this h46
          refine aE_iload_n dX11_fair_56 rfl rfl ?_
          refine aE_tableIn (off := 45) (tgt := 102) dX11_fair_57 (by decide) (by decide) rfl (by decide) ?_
          refine aE_aload_n dX11_fair_102 rfl rfl ?_
          refine aE_getf (v := .ref 1) dX11_fair_103 fw_X11_10 (lt_nn (by decide)) rfl rfl ?_
          refine aE_iload_n dX11_fair_106 rfl rfl ?_
          refine aE_cVq dX11_fair_107 lk_X11_294 mv_X0_greatestRide (c_fa2 (Q := (fun (r : Option Value) (n' : Nat) (m' : aM) => n' = nn true ∧ ∃ X, m' = MM X sp true ∧ r = some (.int (faF 2 (fun k => I (sp k) 3) q d.2.2.2.1 (fun k => rideL d cs k (RR d cs (alC I sp d) ns)) (fun k => I (28 + 4 * sc k) 2 - I 26 (sc k)) d.1)) ∧ (∀ q w, ¬ (8 ≤ q ∧ q < 16) → ¬ (q = 2 ∧ w = 8) → X q w = J q w) ∧ CW X sp ns nstr nc d cs fr to)) hWJ sc hscJ q hA hP hot (fun X a b => by rw [hcg 2]; exact ⟨rfl, X, rfl, rfl, a, b⟩)) rfl (lt_nn (by decide)) rfl rfl ⟨by decide, by decide⟩ (Nat.le_of_ble_eq_true rfl) ⟨rfl, rfl⟩ ⟨by decide, by decide⟩ ?_
          rintro r n' m' ⟨rfl, X, rfl, rfl, x1, x2⟩
          refine aE_iret dX11_fair_110 rfl ⟨by decide, by decide⟩ ?_
          exact h_2 J X hJ ha rfl x1 x2
        · skip
          have ha : allH d cs (alC I sp d) ns = false := by
            cases u : allH d cs (alC I sp d) ns with
            | false => rfl
            | true => have := hF.1; rw [u, show J 54 0 = 0 by first | exact h46 | exact Classical.not_not.mp h46] at this; exact absurd this (by decide)
          refine aE_aload_n dX11_fair_49 rfl rfl ?_
          refine aE_ldc dX11_fair_50 ct_X11_98 ?_
          refine aE_cVi dX11_fair_52 lk_X11_62 mv_X11_found (c_found _) rfl (lt_nn (by decide)) rfl rfl ⟨by decide, by decide⟩ (Nat.le_of_ble_eq_true rfl) ⟨rfl, rfl⟩ ⟨by decide, by decide⟩ ?_
          refine aE_iret dX11_fair_55 rfl ⟨by decide, by decide⟩ ?_
          exact hN J hJ ha (Or.inr rfl)
      · skip
        refine aE_iload_n dX11_fair_25 rfl rfl ?_
        refine aE_iconst (v := 1) dX11_fair_26 rfl ?_
        refine aE_icmp_eq (tgt := 35) dX11_fair_27 (by decide) (fun h27 => absurd h27 (by decide)) (fun h27 => ?_)
        refine aE_iload_n dX11_fair_30 rfl rfl ?_
        refine aE_iconst (v := 2) dX11_fair_31 rfl ?_
        refine aE_icmp_ne (tgt := 56) dX11_fair_32 (by decide) (fun h32 => ?_) (fun h32 => absurd h32 (by decide))
        refine aE_iload_n dX11_fair_56 rfl rfl ?_
        refine aE_tableOut (tgt := 111) dX11_fair_57 (by decide) (by decide) ?_
        refine aE_aload_n dX11_fair_111 rfl rfl ?_
        refine aE_getf (v := .ref 1) dX11_fair_112 fw_X11_10 (lt_nn (by decide)) rfl rfl ?_
        refine aE_iload_n dX11_fair_115 rfl rfl ?_
        refine aE_cVi dX11_fair_116 lk_X11_297 mv_X0_earlyFrom (c_fa3 (al := (alC I sp d)) hW sc hsc q) rfl (lt_nn (by decide)) rfl rfl ⟨by decide, by decide⟩ (Nat.le_of_ble_eq_true rfl) ⟨rfl, rfl⟩ ⟨by decide, by decide⟩ ?_
        refine aE_iret dX11_fair_119 rfl ⟨by decide, by decide⟩ ?_
        exact h_3 rfl
    · skip
      refine aE_aload_n dX11_fair_18 rfl rfl ?_
      refine aE_ldc dX11_fair_19 ct_X11_78 ?_
      refine aE_cVi dX11_fair_21 lk_X11_62 mv_X11_found (c_found _) rfl (lt_nn (by decide)) rfl rfl ⟨by decide, by decide⟩ (Nat.le_of_ble_eq_true rfl) ⟨rfl, rfl⟩ ⟨by decide, by decide⟩ ?_
      refine aE_iret dX11_fair_24 rfl ⟨by decide, by decide⟩ ?_
      first
        | exact hB (Or.inl h6)
        | exact hB (Or.inr h15)
        | exact hB (Or.inr (Classical.not_not.mp h15))

set_option maxRecDepth 20000 in
theorem c_fair_f (q w : Int32) (hW : CW I sp ns nstr nc d cs fr to) (sc : Nat → Nat) (hsc : ∀ k, k < d.1 → sc k < ns ∧ I (sp k) 0 = nI (sc k)) (h07 : I 0 7 = 0) (hG : ¬ (wi q 0 3 = 0 ∨ wi w 0 3 = 0)) (hw : w = 1 ∨ w = 2) (hN : ∀ J, DP I J sp ns nstr nc d cs fr to → allH d cs (alC I sp d) ns = false → (w = 1 ∨ w = 2) → qi Q (-1000004) (fnd J) sp true) (h_1 : ∀ J X, DP I J sp ns nstr nc d cs fr to → allH d cs (alC I sp d) ns = true → w = 1 → (∀ q w, ¬ (8 ≤ q ∧ q < 16) → ¬ (q = 2 ∧ w = 8) → X q w = J q w) → CW X sp ns nstr nc d cs fr to → qi Q (faF 1 (fun k => I (sp k) 3) q d.2.2.2.1 (fun k => rideL d cs k (RR d cs (alC I sp d) ns)) (fun k => I (28 + 4 * sc k) 2 - I 26 (sc k)) d.1) X sp true) (h_2 : ∀ J X, DP I J sp ns nstr nc d cs fr to → allH d cs (alC I sp d) ns = true → w = 2 → (∀ q w, ¬ (8 ≤ q ∧ q < 16) → ¬ (q = 2 ∧ w = 8) → X q w = J q w) → CW X sp ns nstr nc d cs fr to → qi Q (faF 2 (fun k => I (sp k) 3) q d.2.2.2.1 (fun k => rideL d cs k (RR d cs (alC I sp d) ns)) (fun k => I (28 + 4 * sc k) 2 - I 26 (sc k)) d.1) X sp true) : aRuns mX11_fair (rP 6) [.ref 0, .int q, .int w] (nn false) (MM I sp false) Q := by
  refine aRuns_of pn_X11_fair (Nat.le_of_ble_eq_true rfl) (fun z => aE_loc (ls' := [_, _, _]) rfl ?_)
  refine aE_iload_n dX11_fair_0 rfl rfl ?_
  refine aE_iconst (v := 0) dX11_fair_1 rfl ?_
  refine aE_iconst (v := 3) dX11_fair_2 rfl ?_
  refine aE_cSi dX11_fair_3 lk_X11_74 ms_X11_within (c_within _ _ _) rfl rfl ⟨by decide, by decide⟩ (Nat.le_of_ble_eq_true rfl) ⟨rfl, rfl⟩ ⟨by decide, by decide⟩ ?_
  refine aE_if_eq (tgt := 18) dX11_fair_6 (by decide) (fun h6 => ?_) (fun h6 => ?_)
  · skip
    refine aE_aload_n dX11_fair_18 rfl rfl ?_
    refine aE_ldc dX11_fair_19 ct_X11_78 ?_
    refine aE_cVi dX11_fair_21 lk_X11_62 mv_X11_found (c_found _) rfl (lt_nn (by decide)) rfl rfl ⟨by decide, by decide⟩ (Nat.le_of_ble_eq_true rfl) ⟨rfl, rfl⟩ ⟨by decide, by decide⟩ ?_
    refine aE_iret dX11_fair_24 rfl ⟨by decide, by decide⟩ ?_
    first
      | exact absurd (Or.inl h6) hG
      | exact absurd (Or.inr h15) hG
      | exact absurd (Or.inr (Classical.not_not.mp h15)) hG
  · skip
    refine aE_iload_n dX11_fair_9 rfl rfl ?_
    refine aE_iconst (v := 0) dX11_fair_10 rfl ?_
    refine aE_iconst (v := 3) dX11_fair_11 rfl ?_
    refine aE_cSi dX11_fair_12 lk_X11_74 ms_X11_within (c_within _ _ _) rfl rfl ⟨by decide, by decide⟩ (Nat.le_of_ble_eq_true rfl) ⟨rfl, rfl⟩ ⟨by decide, by decide⟩ ?_
    refine aE_if_ne (tgt := 25) dX11_fair_15 (by decide) (fun h15 => ?_) (fun h15 => ?_)
    · skip
      rcases wi03 h15 with rfl | rfl | rfl | rfl
      · skip
        exact absurd hw (by decide)
      · skip
        refine aE_iload_n dX11_fair_25 rfl rfl ?_
        refine aE_iconst (v := 1) dX11_fair_26 rfl ?_
        refine aE_icmp_eq (tgt := 35) dX11_fair_27 (by decide) (fun h27 => ?_) (fun h27 => absurd (rfl) h27)
        refine aE_aload_n dX11_fair_35 rfl rfl ?_
        refine aE_callV dX11_fair_36 lk_X11_181 mv_X11_drawPlans (c_drawPlans_f (Q := (fun (r : Option Value) (n' : Nat) (m' : aM) => r = none ∧ n' = nn true ∧ ∃ J, m' = MM J sp true ∧ DP I J sp ns nstr nc d cs fr to)) hW h07 (fun J a b c e f g => ⟨rfl, rfl, J, rfl, a, b, c, e, f, g⟩)) rfl (lt_nn (by decide)) rfl rfl ⟨by decide, by decide⟩ (Nat.le_of_ble_eq_true rfl) ⟨by decide, by decide⟩ ?_
        rintro r n' m' ⟨rfl, rfl, J, rfl, hJ⟩
        have hWJ := hJ.2.2.1
        have hP := hJ.2.2.2.2.1
        have hF := hJ.2.2.2.2.2
        have hA := CW_al hW
        have hsp := hW.2.2.2.2.2.2.2.1
        have h10 := hW.2.2.2.2.2.2.1.2
        have hs4 := hW.1.2
        have fJ : ∀ q i, ¬ (147 ≤ q) → ¬ (28 ≤ q ∧ q < 44 ∧ ¬ (q % 4 = 0 ∧ i < 3)) → ¬ (54 ≤ q ∧ q < 69) → ¬ (8 ≤ q ∧ q < 16) → ¬ (q = 2 ∧ i = 8) → ¬ (q = 0 ∧ i = 7) → J q i = I q i := fun q i a b c e f g => hJ.1 q i a b (by omega) (by omega) (by omega) (by omega) e f g
        have fs : ∀ k i, k < 10 → J (sp k) i = I (sp k) i := fun k i hk => fJ _ _ (by have := hsp k hk; omega) (by have := hsp k hk; omega) (by have := hsp k hk; omega) (by have := hsp k hk; omega) (by have := hsp k hk; omega) (by have := hsp k hk; omega)
        have hscJ : ∀ k, k < d.1 → sc k < ns ∧ J (sp k) 0 = nI (sc k) := fun k hk => ⟨(hsc k hk).1, (fs k 0 (by omega)).trans (hsc k hk).2⟩
        have hot : ∀ k, k < d.1 → ∀ s', s' < ns → s' ≠ sc k → ((alC I sp d) s').testBit k = false := fun k hk => al_ot (f := fun k => I (sp k) 0) (n := d.1) hs4 (hsc k hk)
        have hcg : ∀ w, faF w (fun k => J (sp k) 3) q d.2.2.2.1 (fun k => rideL d cs k (RR d cs (alC I sp d) ns)) (fun k => J (28 + 4 * sc k) 2 - J 26 (sc k)) d.1 = (faF w (fun k => I (sp k) 3) q d.2.2.2.1 (fun k => rideL d cs k (RR d cs (alC I sp d) ns)) (fun k => I (28 + 4 * sc k) 2 - I 26 (sc k)) d.1) := fun w => faF_cg d.1 (fun k hk => ⟨fs k 3 (by omega), rfl, rfl, by
          have := (hsc k hk).1
          show J (28 + 4 * sc k) 2 - J 26 (sc k) = I (28 + 4 * sc k) 2 - I 26 (sc k)
          rw [fJ (28 + 4 * sc k) 2 (by omega) (by omega) (by omega) (by omega) (by omega) (by omega), fJ 26 (sc k) (by omega) (by omega) (by omega) (by omega) (by omega) (by omega)]⟩)
        refine aE_aload_n dX11_fair_39 rfl rfl ?_
        refine aE_getf (v := .ref 54) dX11_fair_40 fw_X11_19 (lt_nn (by decide)) rfl rfl ?_
        refine aE_geti dX11_fair_43 fw_X11_208 (lt_nn (by decide)) rfl (by decide) rfl ?_
        refine aE_if_ne (tgt := 56) dX11_fair_46 (by decide) (fun h46 => ?_) (fun h46 => ?_)
        · skip
          have ha : allH d cs (alC I sp d) ns = true := by
            cases u : allH d cs (alC I sp d) ns with
            | true => rfl
            | false => have := hF.1; rw [u] at this; exact absurd this h46
          refine aE_iload_n dX11_fair_56 rfl rfl ?_
          refine aE_tableIn (off := 36) (tgt := 93) dX11_fair_57 (by decide) (by decide) rfl (by decide) ?_
          refine aE_aload_n dX11_fair_93 rfl rfl ?_
          refine aE_getf (v := .ref 1) dX11_fair_94 fw_X11_10 (lt_nn (by decide)) rfl rfl ?_
          refine aE_iload_n dX11_fair_97 rfl rfl ?_
          refine aE_cVq dX11_fair_98 lk_X11_291 mv_X0_ridesFrom (c_fa1 (Q := (fun (r : Option Value) (n' : Nat) (m' : aM) => n' = nn true ∧ ∃ X, m' = MM X sp true ∧ r = some (.int (faF 1 (fun k => I (sp k) 3) q d.2.2.2.1 (fun k => rideL d cs k (RR d cs (alC I sp d) ns)) (fun k => I (28 + 4 * sc k) 2 - I 26 (sc k)) d.1)) ∧ (∀ q w, ¬ (8 ≤ q ∧ q < 16) → ¬ (q = 2 ∧ w = 8) → X q w = J q w) ∧ CW X sp ns nstr nc d cs fr to)) hWJ sc hscJ q hA hP hot (fun X a b => by rw [hcg 1]; exact ⟨rfl, X, rfl, rfl, a, b⟩)) rfl (lt_nn (by decide)) rfl rfl ⟨by decide, by decide⟩ (Nat.le_of_ble_eq_true rfl) ⟨rfl, rfl⟩ ⟨by decide, by decide⟩ ?_
          rintro r n' m' ⟨rfl, X, rfl, rfl, x1, x2⟩
          refine aE_iret dX11_fair_101 rfl ⟨by decide, by decide⟩ ?_
          exact h_1 J X hJ ha rfl x1 x2
        · skip
          have ha : allH d cs (alC I sp d) ns = false := by
            cases u : allH d cs (alC I sp d) ns with
            | false => rfl
            | true => have := hF.1; rw [u, show J 54 0 = 0 by first | exact h46 | exact Classical.not_not.mp h46] at this; exact absurd this (by decide)
          refine aE_aload_n dX11_fair_49 rfl rfl ?_
          refine aE_ldc dX11_fair_50 ct_X11_98 ?_
          refine aE_cVi dX11_fair_52 lk_X11_62 mv_X11_found (c_found _) rfl (lt_nn (by decide)) rfl rfl ⟨by decide, by decide⟩ (Nat.le_of_ble_eq_true rfl) ⟨rfl, rfl⟩ ⟨by decide, by decide⟩ ?_
          refine aE_iret dX11_fair_55 rfl ⟨by decide, by decide⟩ ?_
          exact hN J hJ ha (Or.inl rfl)
      · skip
        refine aE_iload_n dX11_fair_25 rfl rfl ?_
        refine aE_iconst (v := 1) dX11_fair_26 rfl ?_
        refine aE_icmp_eq (tgt := 35) dX11_fair_27 (by decide) (fun h27 => absurd h27 (by decide)) (fun h27 => ?_)
        refine aE_iload_n dX11_fair_30 rfl rfl ?_
        refine aE_iconst (v := 2) dX11_fair_31 rfl ?_
        refine aE_icmp_ne (tgt := 56) dX11_fair_32 (by decide) (fun h32 => absurd (rfl) h32) (fun h32 => ?_)
        refine aE_aload_n dX11_fair_35 rfl rfl ?_
        refine aE_callV dX11_fair_36 lk_X11_181 mv_X11_drawPlans (c_drawPlans_f (Q := (fun (r : Option Value) (n' : Nat) (m' : aM) => r = none ∧ n' = nn true ∧ ∃ J, m' = MM J sp true ∧ DP I J sp ns nstr nc d cs fr to)) hW h07 (fun J a b c e f g => ⟨rfl, rfl, J, rfl, a, b, c, e, f, g⟩)) rfl (lt_nn (by decide)) rfl rfl ⟨by decide, by decide⟩ (Nat.le_of_ble_eq_true rfl) ⟨by decide, by decide⟩ ?_
        rintro r n' m' ⟨rfl, rfl, J, rfl, hJ⟩
        have hWJ := hJ.2.2.1
        have hP := hJ.2.2.2.2.1
        have hF := hJ.2.2.2.2.2
        have hA := CW_al hW
        have hsp := hW.2.2.2.2.2.2.2.1
        have h10 := hW.2.2.2.2.2.2.1.2
        have hs4 := hW.1.2
        have fJ : ∀ q i, ¬ (147 ≤ q) → ¬ (28 ≤ q ∧ q < 44 ∧ ¬ (q % 4 = 0 ∧ i < 3)) → ¬ (54 ≤ q ∧ q < 69) → ¬ (8 ≤ q ∧ q < 16) → ¬ (q = 2 ∧ i = 8) → ¬ (q = 0 ∧ i = 7) → J q i = I q i := fun q i a b c e f g => hJ.1 q i a b (by omega) (by omega) (by omega) (by omega) e f g
        have fs : ∀ k i, k < 10 → J (sp k) i = I (sp k) i := fun k i hk => fJ _ _ (by have := hsp k hk; omega) (by have := hsp k hk; omega) (by have := hsp k hk; omega) (by have := hsp k hk; omega) (by have := hsp k hk; omega) (by have := hsp k hk; omega)
        have hscJ : ∀ k, k < d.1 → sc k < ns ∧ J (sp k) 0 = nI (sc k) := fun k hk => ⟨(hsc k hk).1, (fs k 0 (by omega)).trans (hsc k hk).2⟩
        have hot : ∀ k, k < d.1 → ∀ s', s' < ns → s' ≠ sc k → ((alC I sp d) s').testBit k = false := fun k hk => al_ot (f := fun k => I (sp k) 0) (n := d.1) hs4 (hsc k hk)
        have hcg : ∀ w, faF w (fun k => J (sp k) 3) q d.2.2.2.1 (fun k => rideL d cs k (RR d cs (alC I sp d) ns)) (fun k => J (28 + 4 * sc k) 2 - J 26 (sc k)) d.1 = (faF w (fun k => I (sp k) 3) q d.2.2.2.1 (fun k => rideL d cs k (RR d cs (alC I sp d) ns)) (fun k => I (28 + 4 * sc k) 2 - I 26 (sc k)) d.1) := fun w => faF_cg d.1 (fun k hk => ⟨fs k 3 (by omega), rfl, rfl, by
          have := (hsc k hk).1
          show J (28 + 4 * sc k) 2 - J 26 (sc k) = I (28 + 4 * sc k) 2 - I 26 (sc k)
          rw [fJ (28 + 4 * sc k) 2 (by omega) (by omega) (by omega) (by omega) (by omega) (by omega), fJ 26 (sc k) (by omega) (by omega) (by omega) (by omega) (by omega) (by omega)]⟩)
        refine aE_aload_n dX11_fair_39 rfl rfl ?_
        refine aE_getf (v := .ref 54) dX11_fair_40 fw_X11_19 (lt_nn (by decide)) rfl rfl ?_
        refine aE_geti dX11_fair_43 fw_X11_208 (lt_nn (by decide)) rfl (by decide) rfl ?_
        refine aE_if_ne (tgt := 56) dX11_fair_46 (by decide) (fun h46 => ?_) (fun h46 => ?_)
        · skip
          have ha : allH d cs (alC I sp d) ns = true := by
            cases u : allH d cs (alC I sp d) ns with
            | true => rfl
            | false => have := hF.1; rw [u] at this; exact absurd this h46
          refine aE_iload_n dX11_fair_56 rfl rfl ?_
          refine aE_tableIn (off := 45) (tgt := 102) dX11_fair_57 (by decide) (by decide) rfl (by decide) ?_
          refine aE_aload_n dX11_fair_102 rfl rfl ?_
          refine aE_getf (v := .ref 1) dX11_fair_103 fw_X11_10 (lt_nn (by decide)) rfl rfl ?_
          refine aE_iload_n dX11_fair_106 rfl rfl ?_
          refine aE_cVq dX11_fair_107 lk_X11_294 mv_X0_greatestRide (c_fa2 (Q := (fun (r : Option Value) (n' : Nat) (m' : aM) => n' = nn true ∧ ∃ X, m' = MM X sp true ∧ r = some (.int (faF 2 (fun k => I (sp k) 3) q d.2.2.2.1 (fun k => rideL d cs k (RR d cs (alC I sp d) ns)) (fun k => I (28 + 4 * sc k) 2 - I 26 (sc k)) d.1)) ∧ (∀ q w, ¬ (8 ≤ q ∧ q < 16) → ¬ (q = 2 ∧ w = 8) → X q w = J q w) ∧ CW X sp ns nstr nc d cs fr to)) hWJ sc hscJ q hA hP hot (fun X a b => by rw [hcg 2]; exact ⟨rfl, X, rfl, rfl, a, b⟩)) rfl (lt_nn (by decide)) rfl rfl ⟨by decide, by decide⟩ (Nat.le_of_ble_eq_true rfl) ⟨rfl, rfl⟩ ⟨by decide, by decide⟩ ?_
          rintro r n' m' ⟨rfl, X, rfl, rfl, x1, x2⟩
          refine aE_iret dX11_fair_110 rfl ⟨by decide, by decide⟩ ?_
          exact h_2 J X hJ ha rfl x1 x2
        · skip
          have ha : allH d cs (alC I sp d) ns = false := by
            cases u : allH d cs (alC I sp d) ns with
            | false => rfl
            | true => have := hF.1; rw [u, show J 54 0 = 0 by first | exact h46 | exact Classical.not_not.mp h46] at this; exact absurd this (by decide)
          refine aE_aload_n dX11_fair_49 rfl rfl ?_
          refine aE_ldc dX11_fair_50 ct_X11_98 ?_
          refine aE_cVi dX11_fair_52 lk_X11_62 mv_X11_found (c_found _) rfl (lt_nn (by decide)) rfl rfl ⟨by decide, by decide⟩ (Nat.le_of_ble_eq_true rfl) ⟨rfl, rfl⟩ ⟨by decide, by decide⟩ ?_
          refine aE_iret dX11_fair_55 rfl ⟨by decide, by decide⟩ ?_
          exact hN J hJ ha (Or.inr rfl)
      · skip
        exact absurd hw (by decide)
    · skip
      refine aE_aload_n dX11_fair_18 rfl rfl ?_
      refine aE_ldc dX11_fair_19 ct_X11_78 ?_
      refine aE_cVi dX11_fair_21 lk_X11_62 mv_X11_found (c_found _) rfl (lt_nn (by decide)) rfl rfl ⟨by decide, by decide⟩ (Nat.le_of_ble_eq_true rfl) ⟨rfl, rfl⟩ ⟨by decide, by decide⟩ ?_
      refine aE_iret dX11_fair_24 rfl ⟨by decide, by decide⟩ ?_
      first
        | exact absurd (Or.inl h6) hG
        | exact absurd (Or.inr h15) hG
        | exact absurd (Or.inr (Classical.not_not.mp h15)) hG

set_option maxRecDepth 20000 in
theorem c_fair_b (q w : Int32) (hW : CW I sp ns nstr nc d cs fr to) (sc : Nat → Nat) (hsc : ∀ k, k < d.1 → sc k < ns ∧ I (sp k) 0 = nI (sc k)) (hb : wi q 0 3 = 0 ∨ wi w 0 3 = 0) (hB : qi Q (-1000001) (fnd I) sp false) : aRuns mX11_fair (rK 6) [.ref 0, .int q, .int w] (nn false) (MM I sp false) Q := by
  refine aRuns_of pn_X11_fair (Nat.le_of_ble_eq_true rfl) (fun z => aE_loc (ls' := [_, _, _]) rfl ?_)
  refine aE_iload_n dX11_fair_0 rfl rfl ?_
  refine aE_iconst (v := 0) dX11_fair_1 rfl ?_
  refine aE_iconst (v := 3) dX11_fair_2 rfl ?_
  refine aE_cSi dX11_fair_3 lk_X11_74 ms_X11_within (c_within _ _ _) rfl rfl ⟨by decide, by decide⟩ (Nat.le_of_ble_eq_true rfl) ⟨rfl, rfl⟩ ⟨by decide, by decide⟩ ?_
  refine aE_if_eq (tgt := 18) dX11_fair_6 (by decide) (fun h6 => ?_) (fun h6 => ?_)
  · skip
    refine aE_aload_n dX11_fair_18 rfl rfl ?_
    refine aE_ldc dX11_fair_19 ct_X11_78 ?_
    refine aE_cVi dX11_fair_21 lk_X11_62 mv_X11_found (c_found _) rfl (lt_nn (by decide)) rfl rfl ⟨by decide, by decide⟩ (Nat.le_of_ble_eq_true rfl) ⟨rfl, rfl⟩ ⟨by decide, by decide⟩ ?_
    refine aE_iret dX11_fair_24 rfl ⟨by decide, by decide⟩ ?_
    exact hB
  · skip
    refine aE_iload_n dX11_fair_9 rfl rfl ?_
    refine aE_iconst (v := 0) dX11_fair_10 rfl ?_
    refine aE_iconst (v := 3) dX11_fair_11 rfl ?_
    refine aE_cSi dX11_fair_12 lk_X11_74 ms_X11_within (c_within _ _ _) rfl rfl ⟨by decide, by decide⟩ (Nat.le_of_ble_eq_true rfl) ⟨rfl, rfl⟩ ⟨by decide, by decide⟩ ?_
    refine aE_if_ne (tgt := 25) dX11_fair_15 (by decide) (fun h15 => ?_) (fun h15 => ?_)
    · skip
      exact absurd hb (fun u => by rcases u with u | u; exact h6 u; exact h15 u)
    · skip
      refine aE_aload_n dX11_fair_18 rfl rfl ?_
      refine aE_ldc dX11_fair_19 ct_X11_78 ?_
      refine aE_cVi dX11_fair_21 lk_X11_62 mv_X11_found (c_found _) rfl (lt_nn (by decide)) rfl rfl ⟨by decide, by decide⟩ (Nat.le_of_ble_eq_true rfl) ⟨rfl, rfl⟩ ⟨by decide, by decide⟩ ?_
      refine aE_iret dX11_fair_24 rfl ⟨by decide, by decide⟩ ?_
      exact hB

set_option maxRecDepth 20000 in
theorem c_fair_n (q w : Int32) (hW : CW I sp ns nstr nc d cs fr to) (sc : Nat → Nat) (hsc : ∀ k, k < d.1 → sc k < ns ∧ I (sp k) 0 = nI (sc k)) (hG : ¬ (wi q 0 3 = 0 ∨ wi w 0 3 = 0)) (hw : w = 0 ∨ w = 3) (h_0 : w = 0 → qi Q (faF 0 (fun k => I (sp k) 3) q d.2.2.2.1 (fun k => rideL d cs k (RR d cs (alC I sp d) ns)) (fun k => I (28 + 4 * sc k) 2 - I 26 (sc k)) d.1) I sp false) (h_3 : w = 3 → qi Q (faF 3 (fun k => I (sp k) 3) q d.2.2.2.1 (fun k => rideL d cs k (RR d cs (alC I sp d) ns)) (fun k => I (28 + 4 * sc k) 2 - I 26 (sc k)) d.1) I sp false) : aRuns mX11_fair (rK 6) [.ref 0, .int q, .int w] (nn false) (MM I sp false) Q := by
  refine aRuns_of pn_X11_fair (Nat.le_of_ble_eq_true rfl) (fun z => aE_loc (ls' := [_, _, _]) rfl ?_)
  refine aE_iload_n dX11_fair_0 rfl rfl ?_
  refine aE_iconst (v := 0) dX11_fair_1 rfl ?_
  refine aE_iconst (v := 3) dX11_fair_2 rfl ?_
  refine aE_cSi dX11_fair_3 lk_X11_74 ms_X11_within (c_within _ _ _) rfl rfl ⟨by decide, by decide⟩ (Nat.le_of_ble_eq_true rfl) ⟨rfl, rfl⟩ ⟨by decide, by decide⟩ ?_
  refine aE_if_eq (tgt := 18) dX11_fair_6 (by decide) (fun h6 => ?_) (fun h6 => ?_)
  · skip
    refine aE_aload_n dX11_fair_18 rfl rfl ?_
    refine aE_ldc dX11_fair_19 ct_X11_78 ?_
    refine aE_cVi dX11_fair_21 lk_X11_62 mv_X11_found (c_found _) rfl (lt_nn (by decide)) rfl rfl ⟨by decide, by decide⟩ (Nat.le_of_ble_eq_true rfl) ⟨rfl, rfl⟩ ⟨by decide, by decide⟩ ?_
    refine aE_iret dX11_fair_24 rfl ⟨by decide, by decide⟩ ?_
    first
      | exact absurd (Or.inl h6) hG
      | exact absurd (Or.inr h15) hG
      | exact absurd (Or.inr (Classical.not_not.mp h15)) hG
  · skip
    refine aE_iload_n dX11_fair_9 rfl rfl ?_
    refine aE_iconst (v := 0) dX11_fair_10 rfl ?_
    refine aE_iconst (v := 3) dX11_fair_11 rfl ?_
    refine aE_cSi dX11_fair_12 lk_X11_74 ms_X11_within (c_within _ _ _) rfl rfl ⟨by decide, by decide⟩ (Nat.le_of_ble_eq_true rfl) ⟨rfl, rfl⟩ ⟨by decide, by decide⟩ ?_
    refine aE_if_ne (tgt := 25) dX11_fair_15 (by decide) (fun h15 => ?_) (fun h15 => ?_)
    · skip
      rcases wi03 h15 with rfl | rfl | rfl | rfl
      · skip
        refine aE_iload_n dX11_fair_25 rfl rfl ?_
        refine aE_iconst (v := 1) dX11_fair_26 rfl ?_
        refine aE_icmp_eq (tgt := 35) dX11_fair_27 (by decide) (fun h27 => absurd h27 (by decide)) (fun h27 => ?_)
        refine aE_iload_n dX11_fair_30 rfl rfl ?_
        refine aE_iconst (v := 2) dX11_fair_31 rfl ?_
        refine aE_icmp_ne (tgt := 56) dX11_fair_32 (by decide) (fun h32 => ?_) (fun h32 => absurd h32 (by decide))
        refine aE_iload_n dX11_fair_56 rfl rfl ?_
        refine aE_tableIn (off := 27) (tgt := 84) dX11_fair_57 (by decide) (by decide) rfl (by decide) ?_
        refine aE_aload_n dX11_fair_84 rfl rfl ?_
        refine aE_getf (v := .ref 1) dX11_fair_85 fw_X11_10 (lt_nn (by decide)) rfl rfl ?_
        refine aE_iload_n dX11_fair_88 rfl rfl ?_
        refine aE_cVi dX11_fair_89 lk_X11_288 mv_X0_pupilsFrom (c_fa0 (al := (alC I sp d)) hW sc hsc q) rfl (lt_nn (by decide)) rfl rfl ⟨by decide, by decide⟩ (Nat.le_of_ble_eq_true rfl) ⟨rfl, rfl⟩ ⟨by decide, by decide⟩ ?_
        refine aE_iret dX11_fair_92 rfl ⟨by decide, by decide⟩ ?_
        exact h_0 rfl
      · skip
        exact absurd hw (by decide)
      · skip
        exact absurd hw (by decide)
      · skip
        refine aE_iload_n dX11_fair_25 rfl rfl ?_
        refine aE_iconst (v := 1) dX11_fair_26 rfl ?_
        refine aE_icmp_eq (tgt := 35) dX11_fair_27 (by decide) (fun h27 => absurd h27 (by decide)) (fun h27 => ?_)
        refine aE_iload_n dX11_fair_30 rfl rfl ?_
        refine aE_iconst (v := 2) dX11_fair_31 rfl ?_
        refine aE_icmp_ne (tgt := 56) dX11_fair_32 (by decide) (fun h32 => ?_) (fun h32 => absurd h32 (by decide))
        refine aE_iload_n dX11_fair_56 rfl rfl ?_
        refine aE_tableOut (tgt := 111) dX11_fair_57 (by decide) (by decide) ?_
        refine aE_aload_n dX11_fair_111 rfl rfl ?_
        refine aE_getf (v := .ref 1) dX11_fair_112 fw_X11_10 (lt_nn (by decide)) rfl rfl ?_
        refine aE_iload_n dX11_fair_115 rfl rfl ?_
        refine aE_cVi dX11_fair_116 lk_X11_297 mv_X0_earlyFrom (c_fa3 (al := (alC I sp d)) hW sc hsc q) rfl (lt_nn (by decide)) rfl rfl ⟨by decide, by decide⟩ (Nat.le_of_ble_eq_true rfl) ⟨rfl, rfl⟩ ⟨by decide, by decide⟩ ?_
        refine aE_iret dX11_fair_119 rfl ⟨by decide, by decide⟩ ?_
        exact h_3 rfl
    · skip
      refine aE_aload_n dX11_fair_18 rfl rfl ?_
      refine aE_ldc dX11_fair_19 ct_X11_78 ?_
      refine aE_cVi dX11_fair_21 lk_X11_62 mv_X11_found (c_found _) rfl (lt_nn (by decide)) rfl rfl ⟨by decide, by decide⟩ (Nat.le_of_ble_eq_true rfl) ⟨rfl, rfl⟩ ⟨by decide, by decide⟩ ?_
      refine aE_iret dX11_fair_24 rfl ⟨by decide, by decide⟩ ?_
      first
        | exact absurd (Or.inl h6) hG
        | exact absurd (Or.inr h15) hG
        | exact absurd (Or.inr (Classical.not_not.mp h15)) hG

end CFAIR2
