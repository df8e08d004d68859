section CDRAW2
variable {z : Nat × (Nat → Int32)} {n : Nat} {mem : aM} {I : Nat → Nat → Int32} {sp : Nat → Nat} {pl : Bool} {Q : Option Value → Nat → aM → Prop} {R : Room}variable {ns nstr nc : Nat} {d : pD} {cs : Nat → pC} {fr to : Nat → Nat}

theorem l_draw1 (d : pD) (c : pC) (s : Nat) (hs : s < 4) (hd : d01 d) (hpu : ∀ k, k < d.1 → 0 ≤ (d.2.2.2.1 k).toInt ∧ (d.2.2.2.1 k).toInt ≤ 30) (I0 : Nat → Nat → Int32) (hD : CD I0 d c) (hse : I0 1 6 = d.2.2.2.2) (hlo : (if I0 (28 + 4 * s) 0 = 3 then I0 1 7 / 2 else I0 1 7) = c.2) (k0 : ∀ (J : Nat → Nat → Int32) (l4 l5 : Option Value), (∀ q i, q ≠ 162 → q ≠ 163 → J q i = I0 q i) → (∀ R, R ≠ 0 → R < 2 ^ d.1 → J 163 R = if rS d c R then lS d c R else 1000000) → (∀ R, R < 2 ^ d.1 → sumB R d.2.2.2.1 d.1 ≤ d.2.2.2.2 → ∀ g, g < d.1 → R.testBit g = true → J 162 (10 * R + g) = fS d c R g) → aE z mX5_draw (rK 4) Q 82 [some (.ref 147), some (.ref 1), some (.int (nI s)), some (.int (nI (2 ^ d.1))), l4, l5] [] (nn true) (MM J sp true) 0 0) : ∀ (n u : Nat), u + n = 2 ^ d.1 → u ≠ 0 → ∀ (I : Nat → Nat → Int32) (l5 : Option Value), (∀ q i, q ≠ 162 → q ≠ 163 → I q i = I0 q i) → (∀ R, R ≠ 0 → R < u → I 163 R = if rS d c R then lS d c R else 1000000) → (∀ R, R < u → sumB R d.2.2.2.1 d.1 ≤ d.2.2.2.2 → ∀ g, g < d.1 → R.testBit g = true → I 162 (10 * R + g) = fS d c R g) → aE z mX5_draw (rK 4) Q 16 [some (.ref 147), some (.ref 1), some (.int (nI s)), some (.int (nI (2 ^ d.1))), some (.int (nI u)), l5] [] (nn true) (MM I sp true) 0 0 := by
  have h10 := hD.2.1
  have hp := pow10' h10
  intro n
  induction n with
  | zero =>
    intro u hu hu0 I l5 hfr hln htb
    have hu : u = 2 ^ d.1 := by omega
    subst hu
    refine aE_iload dX5_draw_16 rfl ?_
    refine aE_iload_n dX5_draw_18 rfl rfl ?_
    refine aE_icmp_ge (tgt := 82) dX5_draw_19 (by decide) (fun h19 => ?_) (fun h19 => absurd (Int32.le_refl _) h19)
    exact k0 I _ _ hfr hln htb
  | succ n ih =>
    intro u hu hu0 I l5 hfr hln htb
    have hfr2 : ∀ q i, q ≠ 162 → q ≠ 163 → iu I 163 u 1000000 q i = I0 q i := fun q i a b => (iu_ne (by omega)).trans (hfr q i a b)
    have hD2 : CD (iu I 163 u 1000000) d c := CD_fr hD (fun q i h1 h2 => hfr2 q i (by omega) (by omega))
    have h75 : ∀ (J : Nat → Nat → Int32) (l5 : Option Value), (∀ q i, q ≠ 162 → q ≠ 163 → J q i = I0 q i) → (∀ R, R ≠ 0 → R < u → J 163 R = if rS d c R then lS d c R else 1000000) → J 163 u = (if rS d c u then lS d c u else 1000000) → (∀ R, R < (u + 1) → sumB R d.2.2.2.1 d.1 ≤ d.2.2.2.2 → ∀ g, g < d.1 → R.testBit g = true → J 162 (10 * R + g) = fS d c R g) → aE z mX5_draw (rK 4) Q 76 [some (.ref 147), some (.ref 1), some (.int (nI s)), some (.int (nI (2 ^ d.1))), some (.int (nI u)), l5] [] (nn true) (MM J sp true) 0 0 := by
      intro J l5 j1 j2 j3 j4
      have ih2 := fun l5 => ih (u + 1) (by omega) (by omega) J l5 j1 (fun R hR0 hR => by
        by_cases q : R = u
        · subst q; exact j3
        · exact j2 R hR0 (by omega)) j4
      refine aE_iinc dX5_draw_76 rfl (a_inc _) (by decide) rfl (aE_loc (ls' := [_, _, _, _, _, _]) rfl ?_)
      refine aE_goto (tgt := 16) dX5_draw_79 (by decide) ?_
      exact ih2 _
    by_cases hse2 : sumB u d.2.2.2.1 d.1 ≤ d.2.2.2.2
    · have hle2 : ∀ R, bdiff R u = 0 → sumB R d.2.2.2.1 d.1 ≤ d.2.2.2.2 := fun R hR => by
        have := (sumB_mono hR d.1 h10 hpu).2.1
        rw [Int32.le_iff_toInt_le] at hse2 ⊢; omega
      have htb2 : ∀ R g, R < u → bdiff R u = 0 → g < d.1 → R.testBit g = true → iu I 163 u 1000000 162 (10 * R + g) = fS d c R g := fun R g a b c2 e => (iu_ne (by omega)).trans (htb R a (hle2 R b) g c2 e)
      refine aE_iload dX5_draw_16 rfl ?_
      refine aE_iload_n dX5_draw_18 rfl rfl ?_
      refine aE_icmp_ge (tgt := 82) dX5_draw_19 (by decide) (fun h19 => absurd h19 (nI_ge (by omega) (by omega))) (fun h19 => ?_)
      refine aE_aload_n dX5_draw_22 rfl rfl ?_
      refine aE_getf (v := .ref 163) dX5_draw_23 fw_X5_29 (lt_nt (by decide)) rfl rfl ?_
      refine aE_iload dX5_draw_26 rfl ?_
      refine aE_ldc dX5_draw_28 ct_X5_46 ?_
      refine aE_istM dX5_draw_30 (lt_nt (by decide)) rfl (by decide) rfl (by omega) ?_
      refine aE_aload_n dX5_draw_31 rfl rfl ?_
      refine aE_iload dX5_draw_32 rfl ?_
      refine aE_cVi dX5_draw_34 lk_X5_47 mv_X5_load (c_load d c u (by omega) hD2) rfl (lt_nt (by decide)) rfl rfl ⟨by decide, by decide⟩ (Nat.le_of_ble_eq_true rfl) ⟨rfl, rfl⟩ ⟨by decide, by decide⟩ ?_
      refine aE_aload_n dX5_draw_37 rfl rfl ?_
      refine aE_geti dX5_draw_38 fw_X5_51 (lt_nn (by decide)) rfl (by decide) rfl ?_
      refine aE_top ((hfr2 1 6 (by omega) (by omega)).trans hse) ?_
      refine aE_icmp_gt (tgt := 76) dX5_draw_41 (by decide) (fun h41 => absurd h41 (Int32.not_lt.mpr hse2)) (fun h41 => ?_)
      refine aE_aload_n dX5_draw_44 rfl rfl ?_
      refine aE_iload dX5_draw_45 rfl ?_
      refine aE_cVq dX5_draw_47 lk_X5_56 mv_X5_shortest (c_shortest (Q := (fun r n' m' => r = some (.int (lS d c u)) ∧ n' = nn true ∧ ∃ J, m' = MM J sp true ∧ (∀ q i, ¬ (q = 162 ∧ 10 * u ≤ i ∧ i < 10 * u + 10) → J q i = iu I 163 u 1000000 q i) ∧ ∀ g, g < d.1 → u.testBit g = true → J 162 (10 * u + g) = fS d c u g)) d c u (by omega) hd hD2 htb2 (fun J h1 h2 => ⟨rfl, rfl, J, rfl, h1, h2⟩)) rfl (lt_nt (by decide)) rfl rfl ⟨by decide, by decide⟩ (Nat.le_of_ble_eq_true rfl) ⟨rfl, rfl⟩ ⟨by decide, by decide⟩ ?_
      rintro r n' m' ⟨rfl, rfl, J, rfl, j1, j2⟩
      have jf : ∀ q i, q ≠ 162 → q ≠ 163 → J q i = I0 q i := fun q i a b => (j1 q i (by omega)).trans (hfr2 q i a b)
      refine aE_istore dX5_draw_50 (by decide) rfl (aE_loc (ls' := [_, _, _, _, _, _]) rfl ?_)
      refine aE_aload_n dX5_draw_52 rfl rfl ?_
      refine aE_getf (v := .ref 163) dX5_draw_53 fw_X5_29 (lt_nt (by decide)) rfl rfl ?_
      refine aE_iload dX5_draw_56 rfl ?_
      refine aE_iload dX5_draw_58 rfl ?_
      refine aE_aload_n dX5_draw_60 rfl rfl ?_
      refine aE_iload_n dX5_draw_61 rfl rfl ?_
      refine aE_cVi dX5_draw_62 lk_X5_59 mv_X0_longest (c_longest s hs) rfl (lt_nn (by decide)) rfl rfl ⟨by decide, by decide⟩ (Nat.le_of_ble_eq_true rfl) ⟨rfl, rfl⟩ ⟨by decide, by decide⟩ ?_
      refine aE_top (x' := c.2) (by rw [jf (28 + 4 * s) 0 (by omega) (by omega), jf 1 7 (by omega) (by omega)]; exact hlo) ?_
      refine aE_icmp_gt (tgt := 73) dX5_draw_65 (by decide) (fun h65 => ?_) (fun h65 => ?_)
      · skip
        have hrs : rS d c u = false := by unfold rS rtB; rw [decide_eq_false (Int32.not_le.mpr h65)]; rfl
        refine aE_ldc dX5_draw_73 ct_X5_46 ?_
        refine aE_istM dX5_draw_75 (lt_nt (by decide)) rfl (by decide) rfl (by omega) ?_
        refine h75 _ _ (fun q i a b => (iu_ne (by omega)).trans (jf q i a b)) (fun R hR0 hR => ?_) (by rw [iu_eq, hrs]; rfl) (fun R hR hRl g hg hb => ?_)
        · rw [iu_ne (by omega), j1 163 R (by omega), iu_ne (by omega)]; exact hln R hR0 hR
        · rw [iu_ne (by omega)]
          by_cases q : R = u
          · subst q; exact j2 g hg hb
          · rw [j1 162 _ (by omega), iu_ne (by omega)]; exact htb R (by omega) hRl g hg hb
      · skip
        have hrs : rS d c u = true := by unfold rS rtB; rw [decide_eq_true (Int32.not_lt.mp h65), decide_eq_true hse2]; rfl
        refine aE_iload dX5_draw_68 rfl ?_
        refine aE_goto (tgt := 75) dX5_draw_70 (by decide) ?_
        refine aE_istM dX5_draw_75 (lt_nt (by decide)) rfl (by decide) rfl (by omega) ?_
        refine h75 _ _ (fun q i a b => (iu_ne (by omega)).trans (jf q i a b)) (fun R hR0 hR => ?_) (by rw [iu_eq, hrs]; rfl) (fun R hR hRl g hg hb => ?_)
        · rw [iu_ne (by omega), j1 163 R (by omega), iu_ne (by omega)]; exact hln R hR0 hR
        · rw [iu_ne (by omega)]
          by_cases q : R = u
          · subst q; exact j2 g hg hb
          · rw [j1 162 _ (by omega), iu_ne (by omega)]; exact htb R (by omega) hRl g hg hb
    · have hrs : rS d c u = false := by unfold rS rtB; rw [decide_eq_false hse2, Bool.and_false]
      refine aE_iload dX5_draw_16 rfl ?_
      refine aE_iload_n dX5_draw_18 rfl rfl ?_
      refine aE_icmp_ge (tgt := 82) dX5_draw_19 (by decide) (fun h19 => absurd h19 (nI_ge (by omega) (by omega))) (fun h19 => ?_)
      refine aE_aload_n dX5_draw_22 rfl rfl ?_
      refine aE_getf (v := .ref 163) dX5_draw_23 fw_X5_29 (lt_nt (by decide)) rfl rfl ?_
      refine aE_iload dX5_draw_26 rfl ?_
      refine aE_ldc dX5_draw_28 ct_X5_46 ?_
      refine aE_istM dX5_draw_30 (lt_nt (by decide)) rfl (by decide) rfl (by omega) ?_
      refine aE_aload_n dX5_draw_31 rfl rfl ?_
      refine aE_iload dX5_draw_32 rfl ?_
      refine aE_cVi dX5_draw_34 lk_X5_47 mv_X5_load (c_load d c u (by omega) hD2) rfl (lt_nt (by decide)) rfl rfl ⟨by decide, by decide⟩ (Nat.le_of_ble_eq_true rfl) ⟨rfl, rfl⟩ ⟨by decide, by decide⟩ ?_
      refine aE_aload_n dX5_draw_37 rfl rfl ?_
      refine aE_geti dX5_draw_38 fw_X5_51 (lt_nn (by decide)) rfl (by decide) rfl ?_
      refine aE_top ((hfr2 1 6 (by omega) (by omega)).trans hse) ?_
      refine aE_icmp_gt (tgt := 76) dX5_draw_41 (by decide) (fun h41 => ?_) (fun h41 => absurd (Int32.not_le.mp hse2) h41)
      refine h75 _ _ hfr2 (fun R hR0 hR => (iu_ne (by omega)).trans (hln R hR0 hR)) (by rw [iu_eq, hrs]; rfl) (fun R hR hRl g hg hb => ?_)
      by_cases q : R = u
      · subst q; exact absurd hRl hse2
      · exact (iu_ne (by omega)).trans (htb R (by omega) hRl g hg hb)
theorem l_draw2 (d : pD) (c : pC) (s : Nat) (hd : d01 d) (hc : c.2.toInt ≤ 90) (h10 : d.1 ≤ 10) (I1 : Nat → Nat → Int32) (hln : (∀ R, R ≠ 0 → R < 2 ^ d.1 → I1 163 R = if rS d c R then lS d c R else 1000000)) (k0 : ∀ (J : Nat → Nat → Int32) (l4 l5 : Option Value), (∀ q i, q ≠ 164 → q ≠ 165 → J q i = I1 q i) → (∀ R, R < 2 ^ d.1 → J 164 R = vC d c R) ∧ (∀ R, R ≠ 0 → R < 2 ^ d.1 → (pS d c R).1 < 1000000 → J 165 R = nI (pS d c R).2.2) → aE z mX5_draw (rK 4) Q 110 [some (.ref 147), some (.ref 1), some (.int (nI s)), some (.int (nI (2 ^ d.1))), l4, l5] [] (nn true) (MM J sp true) 0 0) : ∀ (n u : Nat), u + n = 2 ^ d.1 → u ≠ 0 → ∀ (I : Nat → Nat → Int32) (l5 : Option Value), (∀ q i, q ≠ 164 → q ≠ 165 → I q i = I1 q i) → (∀ R, R < u → I 164 R = vC d c R) ∧ (∀ R, R ≠ 0 → R < u → (pS d c R).1 < 1000000 → I 165 R = nI (pS d c R).2.2) → aE z mX5_draw (rK 4) Q 92 [some (.ref 147), some (.ref 1), some (.int (nI s)), some (.int (nI (2 ^ d.1))), some (.int (nI u)), l5] [] (nn true) (MM I sp true) 0 0 := by
  have hp := pow10' h10
  intro n
  induction n with
  | zero =>
    intro u hu hu0 I l5 hfr hvl
    have hu : u = 2 ^ d.1 := by omega
    subst hu
    refine aE_iload dX5_draw_92 rfl ?_
    refine aE_iload_n dX5_draw_94 rfl rfl ?_
    refine aE_icmp_ge (tgt := 110) dX5_draw_95 (by decide) (fun h95 => ?_) (fun h95 => absurd (Int32.le_refl _) h95)
    exact k0 I _ _ hfr hvl
  | succ n ih =>
    intro u hu hu0 I l5 hfr hvl
    refine aE_iload dX5_draw_92 rfl ?_
    refine aE_iload_n dX5_draw_94 rfl rfl ?_
    refine aE_icmp_ge (tgt := 110) dX5_draw_95 (by decide) (fun h95 => absurd h95 (nI_ge (by omega) (by omega))) (fun h95 => ?_)
    refine aE_aload_n dX5_draw_98 rfl rfl ?_
    refine aE_iload dX5_draw_99 rfl ?_
    refine aE_cVq dX5_draw_101 lk_X5_62 mv_X5_part (c_part (Q := (fun r n' m' => r = none ∧ n' = nn true ∧ ∃ J, m' = MM J sp true ∧ (∀ q i, ¬ ((q = 164 ∨ q = 165) ∧ i = u) → J q i = I q i) ∧ J 164 u = vC d c u ∧ ((pS d c u).1 < 1000000 → J 165 u = nI (pS d c u).2.2))) d c u (by omega) hu0 hd hc (fun R h0 hR => (hfr 163 R (by omega) (by omega)).trans (hln R h0 (by have := bsub_le hR; omega))) (fun R hR _ => hvl.1 R hR) (fun J h1 h2 h3 => ⟨rfl, rfl, J, rfl, h1, h2, h3⟩)) rfl (lt_nt (by decide)) rfl rfl ⟨by decide, by decide⟩ (Nat.le_of_ble_eq_true rfl) ⟨rfl, rfl⟩ ⟨by decide, by decide⟩ ?_
    rintro r n' m' ⟨rfl, rfl, J, rfl, j1, j2, j3⟩
    refine aE_iinc dX5_draw_104 rfl (a_inc _) (by decide) rfl (aE_loc (ls' := [_, _, _, _, _, _]) rfl ?_)
    refine aE_goto (tgt := 92) dX5_draw_107 (by decide) ?_
    exact ih (u + 1) (by omega) (by omega) J _ (fun q i a b => (j1 q i (by omega)).trans (hfr q i a b)) ⟨fun R hR => by
        by_cases q : R = u
        · subst q; exact j2
        · exact (j1 164 R (by omega)).trans (hvl.1 R (by omega)), fun R h0 hR hq => by
        by_cases q : R = u
        · subst q; exact j3 hq
        · exact (j1 165 R (by omega)).trans (hvl.2 R h0 (by omega) hq)⟩
theorem c_draw (hW : CW I sp ns nstr nc d cs fr to) (s : Nat) (hs : s < ns) (hQ : ∀ J, (∀ q i, ¬ (147 ≤ q) → ¬ (8 ≤ q ∧ q < 16) → ¬ (q = 2 ∧ i = 8) → ¬ (q = 28 + 4 * s ∧ (i = 3 ∨ i = 4)) → ¬ (29 + 4 * s ≤ q ∧ q ≤ 31 + 4 * s) → J q i = I q i) → CW J sp ns nstr nc d cs fr to → PlC J s d (cs s) (setOf (fun k => I (sp k) 0) (nI s) d.1) → Q none (nn true) (MM J sp true)) : aRuns mX5_draw (rK 4) [.ref 147, .ref 1, .int (nI s)] (nn true) (MM I sp true) Q := by
  have h4 := hW.1.2
  have h10 := hW.2.2.2.2.2.2.1.2
  have hEM := stE_EM (f := (fun k => I (sp k) 0)) (x := nI s) h10
  have hph := stE_ph (f := (fun k => I (sp k) 0)) (x := nI s) h10
  have hcol := fun (Q : Option Value → Nat → aM → Prop) => c_collect (Q := Q) hW s hs
  revert hEM hph hcol
  generalize (stE (fun k => I (sp k) 0) (nI s) d.1) = e
  generalize (stN (fun k => I (sp k) 0) (nI s) d.1) = m
  intro hEM hph hcol
  have hd0 := CW_d01 hW
  have hd : d01 (cpD d e m) := hd0
  have hc := (hW.2.2.2.2.2.2.2.2.2.2.1 s hs).2.2.2
  have hm10 : (cpD d e m).1 ≤ 10 := hEM.2.2.1
  have hp := pow10' hm10
  have hpos := Nat.two_pow_pos (cpD d e m).1
  have hpu : ∀ k, k < (cpD d e m).1 → 0 ≤ ((cpD d e m).2.2.2.1 k).toInt ∧ ((cpD d e m).2.2.2.1 k).toInt ≤ 30 := fun k hk => (hW.2.2.2.2.2.2.2.2.1 (e k) (hEM.2.1 k hk)).2.2.2
  refine aRuns_of pn_X5_draw (Nat.le_of_ble_eq_true rfl) (fun z => aE_loc (ls' := [_, _, _, _, _, _]) rfl ?_)
  refine aE_aload_n dX5_draw_0 rfl rfl ?_
  refine aE_aload_n dX5_draw_1 rfl rfl ?_
  refine aE_iload_n dX5_draw_2 rfl rfl ?_
  refine aE_cVq dX5_draw_3 lk_X5_38 mv_X5_collect (hcol (fun r n' m' => r = none ∧ n' = nn true ∧ ∃ J, m' = MM J sp true ∧ (∀ q i, ¬ (147 ≤ q) → ¬ (8 ≤ q ∧ q < 16) → ¬ (q = 2 ∧ i = 8) → J q i = I q i) ∧ CW J sp ns nstr nc d cs fr to ∧ CD J (cpD d e m) (cs s) ∧ (∀ i, i < m → J 148 i = nI (e i))) (fun J h1 h2 h3 h4 => ⟨rfl, rfl, J, rfl, h1, h2, h3, h4⟩)) rfl (lt_nt (by decide)) rfl rfl ⟨by decide, by decide⟩ (Nat.le_of_ble_eq_true rfl) ⟨rfl, rfl⟩ ⟨by decide, by decide⟩ ?_
  rintro r n' m' ⟨rfl, rfl, J, rfl, j1, j2, j3, j4⟩
  refine aE_iconst (v := 1) dX5_draw_6 rfl ?_
  refine aE_aload_n dX5_draw_7 rfl rfl ?_
  refine aE_geti dX5_draw_8 fw_X5_42 (lt_nt (by decide)) rfl (by decide) rfl ?_
  refine aE_top j3.1 ?_
  refine aE_ishl dX5_draw_11 ?_
  refine aE_top (nb_1shl (k := (cpD d e m).1) (by omega)) ?_
  refine aE_istore_n dX5_draw_12 rfl (by decide) rfl (aE_loc (ls' := [_, _, _, _, _, _]) rfl ?_)
  refine aE_iconst (v := 1) dX5_draw_13 rfl ?_
  refine aE_istore dX5_draw_14 (by decide) rfl (aE_loc (ls' := [_, _, _, _, _, _]) rfl ?_)
  refine l_draw1 (cpD d e m) (cs s) s (by omega) hd hpu J j3 j2.2.2.2.2.2.2.2.2.2.1 (j2.2.2.2.2.2.2.2.2.2.2.1 s hs).2.2.1 (fun K l4 l5 k1 k2 k3 => ?_) (2 ^ (cpD d e m).1 - 1) 1 (by omega) (by omega) J _ (fun _ _ _ _ => rfl) (fun R h0 hR => absurd hR (by omega)) (fun R hR _ g hg hb => absurd hb (by rw [show R = 0 by omega]; simp))
  have hl2 := l_draw2 (Q := Q) (z := z) (sp := sp) (cpD d e m) (cs s) s hd hc hm10 (iu K 164 0 0) (fun R h0 hR => (iu_ne (by omega)).trans (k2 R h0 hR)) (fun K2 l4 l5 m1 m2 => ?_) (2 ^ (cpD d e m).1 - 1) 1 (by omega) (by omega) (iu K 164 0 0)
  · skip
    refine aE_aload_n dX5_draw_82 rfl rfl ?_
    refine aE_getf (v := .ref 164) dX5_draw_83 fw_X5_32 (lt_nt (by decide)) rfl rfl ?_
    refine aE_iconst (v := 0) dX5_draw_86 rfl ?_
    refine aE_iconst (v := 0) dX5_draw_87 rfl ?_
    refine aE_istM dX5_draw_88 (lt_nt (by decide)) rfl (by decide) rfl (by decide) ?_
    refine aE_iconst (v := 1) dX5_draw_89 rfl ?_
    refine aE_istore dX5_draw_90 (by decide) rfl (aE_loc (ls' := [_, _, _, _, _, _]) rfl ?_)
    exact hl2 _ (fun _ _ _ _ => rfl) ⟨fun R hR => by
        rw [show R = 0 by omega, iu_eq]
        unfold vC
        rw [show pS (cpD d e m) (cs s) 0 = (0, 0, 0) from pB_0]
        rfl, fun R h0 hR => absurd hR (by omega)⟩
  · have f2 : ∀ q i, q < 162 → K2 q i = J q i := fun q i hq => (m1 q i (by omega) (by omega)).trans ((iu_ne (by omega)).trans (k1 q i (by omega) (by omega)))
    have f3 : ∀ q i, q = 162 ∨ q = 163 → K2 q i = K q i := fun q i hq => (m1 q i (by omega) (by omega)).trans (iu_ne (by omega))
    refine aE_aload_n dX5_draw_110 rfl rfl ?_
    refine aE_aload_n dX5_draw_111 rfl rfl ?_
    refine aE_getf (v := .ref 25) dX5_draw_112 fw_X5_66 (lt_nn (by decide)) rfl rfl ?_
    refine aE_iload_n dX5_draw_115 rfl rfl ?_
    refine aE_aald (t := 102) dX5_draw_116 (lt_nn (by decide)) ⟨by decide, by decide⟩ rfl (by decide) rfl (show s < 4 by omega) (mm_schs (show s < 4 by omega)) ?_
    refine aE_iload_n dX5_draw_117 rfl rfl ?_
    refine aE_iconst (v := 1) dX5_draw_118 rfl ?_
    refine aE_isub dX5_draw_119 ?_
    refine aE_top (x' := nI (2 ^ (cpD d e m).1 - 1)) (by obtain ⟨u, hu⟩ : ∃ u, 2 ^ (cpD d e m).1 = u + 1 := ⟨2 ^ (cpD d e m).1 - 1, by omega⟩; rw [hu, nI_pred]; rfl) ?_
    refine aE_cVq dX5_draw_120 lk_X5_70 mv_X5_record (c_record (Q := (fun r n' m' => r = none ∧ n' = nn true ∧ ∃ J, m' = MM J sp true ∧ (∀ q i, ¬ (q = 28 + 4 * s ∧ (i = 3 ∨ i = 4)) → ¬ (29 + 4 * s ≤ q ∧ q ≤ 31 + 4 * s) → J q i = K2 q i) ∧ J (28 + 4 * s) 3 = (if (pS (cpD d e m) (cs s) (2 ^ (cpD d e m).1 - 1)).1 < 1000000 then 1 else 0) ∧ RowE J s (cpD d e m) (cs s) e (RLs (cpD d e m) (cs s) (2 ^ (cpD d e m).1 - 1)))) (cpD d e m) (cs s) e s (by omega) hd hc (CD_fr j3 (fun q i a b => f2 q i (by omega))) (fun i hi => (f2 148 i (by omega)).trans (j4 i hi)) (fun R h0 hR => (f3 163 R (by omega)).trans (k2 R h0 hR)) (fun R h0 hR => m2.2 R h0 hR) (fun P hP hrs R g h1 h2 h3 => (f3 162 _ (by omega)).trans (k3 R (by have := bsub_le h1; omega) (by
          have h5 := (sumB_mono h1 (cpD d e m).1 hm10 hpu).2.1
          have h6 : sumB P (cpD d e m).2.2.2.1 (cpD d e m).1 ≤ (cpD d e m).2.2.2.2 := by
            unfold rS rtB at hrs
            rw [Bool.and_eq_true, decide_eq_true_eq, decide_eq_true_eq] at hrs
            exact hrs.2
          rw [Int32.le_iff_toInt_le] at h6 ⊢; omega) g h2 h3)) (m2.1 _ (by omega)) (fun J h1 h2 h3 => ⟨rfl, rfl, J, rfl, h1, h2, h3⟩)) rfl (lt_nt (by decide)) rfl rfl ⟨by decide, by decide⟩ (Nat.le_of_ble_eq_true rfl) ⟨rfl, rfl⟩ ⟨by decide, by decide⟩ ?_
    rintro r n' m' ⟨rfl, rfl, L, rfl, n1, n2, n3⟩
    refine aE_vret dX5_draw_123 rfl ⟨by decide, by decide⟩ ?_
    have hm1 : 2 ^ m - 1 < 2 ^ m := by have : 2 ^ m = 2 ^ (cpD d e m).1 := rfl; omega
    have fL : ∀ q i, ¬ (147 ≤ q) → ¬ (q = 28 + 4 * s ∧ (i = 3 ∨ i = 4)) → ¬ (29 + 4 * s ≤ q ∧ q ≤ 31 + 4 * s) → L q i = J q i := fun q i a b c => (n1 q i b c).trans (f2 q i (by omega))
    refine hQ L (fun q i a b c e1 e2 => (fL q i a e1 e2).trans (j1 q i a b c)) (CW_fr j2 (fun q i a b c d e f => fL q i a (by omega) (by omega)) (fun hm a b ha hb => ?_)) ⟨?_, ?_⟩
    · have h8 := hW.2.1.2
      rw [fL 2 8 (by omega) (by omega) (by omega)] at hm
      rw [fL _ _ (by omega) (by omega) (by omega)]
      exact j2.2.2.2.2.2.2.2.2.2.2.2 hm a b ha hb
    · rw [← hph, pS_ph hEM _ hm1]; exact n2
    · rw [← hph, RLs_ph hEM hm1]
      refine RowE_ph hEM (fun S hS => ?_) n3
      unfold RLs at hS
      split at hS
      · rename_i hq
        exact rtL_lt hEM.2.2.1 10 _ hm1 hq S hS
      · simp at hS
end CDRAW2
