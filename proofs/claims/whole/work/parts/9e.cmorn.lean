section CMORN
variable {z : Nat × (Nat → Int32)} {n : Nat} {mem : aM} {I : Nat → Nat → Int32} {sp : Nat → Nat} {pl : Bool} {Q : Option Value → Nat → aM → Prop} {R : Room}variable {ns nstr nc : Nat} {d : pD} {cs : Nat → pC} {fr to : Nat → Nat} {al : Nat → Nat}

theorem c_lengthOn (hW : CW I sp ns nstr nc d cs fr to) (hA : AlOK d cs al ns) (hP : PCs I ns d cs al) (hR : FlR I (RI d cs al ns)) (r s S : Nat) (hr : (RR d cs al ns)[r]? = some (s, S)) (D : tT) (hT : ∀ a b, a < nc → b < nc → I (17 + a) b = D a b) : aRuns mX1_lengthOn (rK 1) [.ref 54, .ref 1, .int (nI r), .ref 16] (nn pl) (MM I sp pl) (a_ri (swA D d (cs s) S 10) (nn pl) (MM I sp pl)) := by
  obtain ⟨i, i1, i2, i3, i4, i5, i6, i7, i8, i9, i10, i11⟩ := FlR_get hA hR hr
  have h10 := hW.2.2.2.2.2.2.1.2
  have hs : s < 4 := by have := hW.1.2; omega
  have hRow := (hP s i3).2
  have hbl := bgn_le (hA.1 s) i6
  have hil := (List.getElem?_eq_some_iff.mp i6).1
  have hsw : swA D d (cs s) S (cdB S 10) - swA D d (cs s) S 0 = swA D d (cs s) S 10 := by
    rw [sw_len h10]
    show swA D d (cs s) S 10 - 0 = _
    exact Int32.sub_zero _
  refine aRuns_of pn_X1_lengthOn (Nat.le_of_ble_eq_true rfl) (fun z => aE_loc (ls' := [_, _, _, _, _]) rfl ?_)
  refine aE_aload_n dX1_lengthOn_0 rfl rfl ?_
  refine aE_aload_n dX1_lengthOn_1 rfl rfl ?_
  refine aE_iload_n dX1_lengthOn_2 rfl rfl ?_
  refine aE_cVr dX1_lengthOn_3 lk_X1_81 mv_X1_schoolOf (c_schoolOf r s i2 hs i4) rfl (lt_nn (by decide)) rfl rfl ⟨by decide, by decide⟩ (Nat.le_of_ble_eq_true rfl) ⟨rfl, rfl⟩ ⟨by decide, by decide⟩ ?_
  refine aE_astore dX1_lengthOn_6 (by decide) rfl (aE_loc (ls' := [_, _, _, _, _]) rfl ?_)
  refine aE_aload_n dX1_lengthOn_8 rfl rfl ?_
  refine aE_aload dX1_lengthOn_9 rfl ?_
  refine aE_aload_n dX1_lengthOn_11 rfl rfl ?_
  refine aE_getf (v := .ref 57) dX1_lengthOn_12 fw_X1_18 (lt_nn (by decide)) rfl rfl ?_
  refine aE_iload_n dX1_lengthOn_15 rfl rfl ?_
  refine aE_ildM dX1_lengthOn_16 (lt_nn (by decide)) rfl (by decide) rfl i2 ?_
  refine aE_top i5 ?_
  refine aE_aload dX1_lengthOn_17 rfl ?_
  refine aE_getf dX1_lengthOn_19 fw_X1_105 (lt_nn (by omega)) (sh_sch hs) (mm_beg hs) ?_
  refine aE_aload_n dX1_lengthOn_22 rfl rfl ?_
  refine aE_getf (v := .ref 57) dX1_lengthOn_23 fw_X1_18 (lt_nn (by decide)) rfl rfl ?_
  refine aE_iload_n dX1_lengthOn_26 rfl rfl ?_
  refine aE_ildM dX1_lengthOn_27 (lt_nn (by decide)) rfl (by decide) rfl i2 ?_
  refine aE_top i5 ?_
  refine aE_ildM dX1_lengthOn_28 (lt_nn (by omega)) (sh_beg hs) (by decide) rfl (by omega) ?_
  refine aE_top (hRow.2.1 i (by omega)) ?_
  refine aE_aload_n dX1_lengthOn_29 rfl rfl ?_
  refine aE_cVi dX1_lengthOn_30 lk_X1_114 mv_X0_minutesFrom (c_minutesFrom hW hA hP s i S i3 i6 16 17 (Or.inr ⟨rfl, rfl⟩) D hT 0 (Nat.zero_le _)) rfl (lt_nn (by decide)) rfl rfl ⟨by decide, by decide⟩ (Nat.le_of_ble_eq_true rfl) ⟨rfl, rfl⟩ ⟨by decide, by decide⟩ ?_
  refine aE_top hsw ?_
  refine aE_iret dX1_lengthOn_33 rfl ⟨by decide, by decide⟩ ?_
  exact ⟨rfl, rfl, rfl⟩
theorem c_pupilsOn (hW : CW I sp ns nstr nc d cs fr to) (hA : AlOK d cs al ns) (hP : PCs I ns d cs al) (hR : FlR I (RI d cs al ns)) (r s S : Nat) (hr : (RR d cs al ns)[r]? = some (s, S)) : aRuns mX1_pupilsOn (rK 1) [.ref 54, .ref 1, .int (nI r)] (nn pl) (MM I sp pl) (a_ri (sumB S d.2.2.2.1 d.1) (nn pl) (MM I sp pl)) := by
  obtain ⟨i, i1, i2, i3, i4, i5, i6, i7, i8, i9, i10, i11⟩ := FlR_get hA hR hr
  have h10 := hW.2.2.2.2.2.2.1.2
  have hs : s < 4 := by have := hW.1.2; omega
  have hRow := (hP s i3).2
  have hbl := bgn_le (hA.1 s) i6
  have hil := (List.getElem?_eq_some_iff.mp i6).1
  have hor : ∀ k g, (oS d (cs s) S k).2 = some g → I (30 + 4 * s) ((bgn (RLs d (cs s) (al s)) i) + k) = nI g := fun k g h => (hRow.2.2 i S i6).2 k g h
  have hsp := hW.2.2.2.2.2.2.2.1
  have hbs := bgn_s _ _ i6
  have loop : ∀ z (m k : Nat), k + m = cdB S 10 → aE z mX1_pupilsOn (rK 1) (a_ri (sumB S d.2.2.2.1 d.1) (nn pl) (MM I sp pl)) 23 [some (.ref 54), some (.ref 1), some (.int (nI r)), some (.ref (28 + 4 * s)), some (.int (poA d.2.2.2.1 d (cs s) S k)), some (.int (nI ((bgn (RLs d (cs s) (al s)) i) + k)))] [] (nn pl) (MM I sp pl) 0 0 := by
    intro z m
    induction m with
    | zero =>
      intro k hk
      have hk : k = cdB S 10 := by omega
      subst hk
      rw [poA_all h10 i9]
      refine aE_iload dX1_pupilsOn_23 rfl ?_
      refine aE_aload_n dX1_pupilsOn_25 rfl rfl ?_
      refine aE_getf dX1_pupilsOn_26 fw_X1_105 (lt_nn (by omega)) (sh_sch hs) (mm_beg hs) ?_
      refine aE_aload_n dX1_pupilsOn_29 rfl rfl ?_
      refine aE_getf (v := .ref 57) dX1_pupilsOn_30 fw_X1_18 (lt_nn (by decide)) rfl rfl ?_
      refine aE_iload_n dX1_pupilsOn_33 rfl rfl ?_
      refine aE_ildM dX1_pupilsOn_34 (lt_nn (by decide)) rfl (by decide) rfl i2 ?_
      refine aE_top i5 ?_
      refine aE_iconst (v := 1) dX1_pupilsOn_35 rfl ?_
      refine aE_iadd dX1_pupilsOn_36 ?_
      refine aE_top (nI_1 _) ?_
      refine aE_ildM dX1_pupilsOn_37 (lt_nn (by omega)) (sh_beg hs) (by decide) rfl (by omega) ?_
      refine aE_top (hRow.2.1 (i + 1) (by omega)) ?_
      refine aE_icmp_ge (tgt := 67) dX1_pupilsOn_38 (by decide) (fun h38 => ?_) (fun h38 => absurd (by rw [hbs]; exact Int32.le_refl _) h38)
      refine aE_iload dX1_pupilsOn_67 rfl ?_
      refine aE_iret dX1_pupilsOn_69 rfl ⟨by decide, by decide⟩ ?_
      exact ⟨rfl, rfl, rfl⟩
    | succ m ih =>
      intro k hk
      obtain ⟨g, hg⟩ := oS_ex (c := cs s) (k := k) h10 i9 (by omega)
      have hgl := (oS_lt h10 hg).2.2
      obtain ⟨-, -, g3, -⟩ := hW.2.2.2.2.2.2.2.2.1 g hgl
      have ih2 := ih (k + 1) (by omega)
      rw [show poA d.2.2.2.1 d (cs s) S (k + 1) = poA d.2.2.2.1 d (cs s) S k + d.2.2.2.1 g by simp only [poA, hg]] at ih2
      refine aE_iload dX1_pupilsOn_23 rfl ?_
      refine aE_aload_n dX1_pupilsOn_25 rfl rfl ?_
      refine aE_getf dX1_pupilsOn_26 fw_X1_105 (lt_nn (by omega)) (sh_sch hs) (mm_beg hs) ?_
      refine aE_aload_n dX1_pupilsOn_29 rfl rfl ?_
      refine aE_getf (v := .ref 57) dX1_pupilsOn_30 fw_X1_18 (lt_nn (by decide)) rfl rfl ?_
      refine aE_iload_n dX1_pupilsOn_33 rfl rfl ?_
      refine aE_ildM dX1_pupilsOn_34 (lt_nn (by decide)) rfl (by decide) rfl i2 ?_
      refine aE_top i5 ?_
      refine aE_iconst (v := 1) dX1_pupilsOn_35 rfl ?_
      refine aE_iadd dX1_pupilsOn_36 ?_
      refine aE_top (nI_1 _) ?_
      refine aE_ildM dX1_pupilsOn_37 (lt_nn (by omega)) (sh_beg hs) (by decide) rfl (by omega) ?_
      refine aE_top (hRow.2.1 (i + 1) (by omega)) ?_
      refine aE_icmp_ge (tgt := 67) dX1_pupilsOn_38 (by decide) (fun h38 => absurd h38 (nI_ge (by omega) (by omega))) (fun h38 => ?_)
      refine aE_iload dX1_pupilsOn_41 rfl ?_
      refine aE_aload_n dX1_pupilsOn_43 rfl rfl ?_
      refine aE_getf (v := .ref 27) dX1_pupilsOn_44 fw_X1_98 (lt_nn (by decide)) rfl rfl ?_
      refine aE_aload_n dX1_pupilsOn_47 rfl rfl ?_
      refine aE_getf dX1_pupilsOn_48 fw_X1_102 (lt_nn (by omega)) (sh_sch hs) (mm_ord hs) ?_
      refine aE_iload dX1_pupilsOn_51 rfl ?_
      refine aE_ildM dX1_pupilsOn_53 (lt_nn (by omega)) (sh_ord hs) (by decide) rfl (by omega) ?_
      refine aE_top (hor k g hg) ?_
      refine aE_aald (t := 103) dX1_pupilsOn_54 (lt_nn (by decide)) ⟨by decide, by decide⟩ rfl (by decide) rfl (show g < 10 by omega) mm_stop ?_
      refine aE_geti dX1_pupilsOn_55 fw_X1_122 (lt_nn (by have := (hsp g (by omega)); omega)) (sh_stop (hsp g (by omega))) (mc_stop (i := 2) (hsp g (by omega))).1 (mc_stop (i := 2) (hsp g (by omega))).2 ?_
      refine aE_top g3 ?_
      refine aE_iadd dX1_pupilsOn_58 ?_
      refine aE_istore dX1_pupilsOn_59 (by decide) rfl (aE_loc (ls' := [_, _, _, _, _, _]) rfl ?_)
      refine aE_iinc dX1_pupilsOn_61 rfl (a_inc _) (by decide) rfl (aE_loc (ls' := [_, _, _, _, _, _]) rfl ?_)
      refine aE_goto (tgt := 23) dX1_pupilsOn_64 (by decide) ?_
      exact ih2
  refine aRuns_of pn_X1_pupilsOn (Nat.le_of_ble_eq_true rfl) (fun z => aE_loc (ls' := [_, _, _, _, _, _]) rfl ?_)
  refine aE_aload_n dX1_pupilsOn_0 rfl rfl ?_
  refine aE_aload_n dX1_pupilsOn_1 rfl rfl ?_
  refine aE_iload_n dX1_pupilsOn_2 rfl rfl ?_
  refine aE_cVr dX1_pupilsOn_3 lk_X1_81 mv_X1_schoolOf (c_schoolOf r s i2 hs i4) rfl (lt_nn (by decide)) rfl rfl ⟨by decide, by decide⟩ (Nat.le_of_ble_eq_true rfl) ⟨rfl, rfl⟩ ⟨by decide, by decide⟩ ?_
  refine aE_astore_n dX1_pupilsOn_6 rfl (by decide) rfl (aE_loc (ls' := [_, _, _, _, _, _]) rfl ?_)
  refine aE_iconst (v := 0) dX1_pupilsOn_7 rfl ?_
  refine aE_istore dX1_pupilsOn_8 (by decide) rfl (aE_loc (ls' := [_, _, _, _, _, _]) rfl ?_)
  refine aE_aload_n dX1_pupilsOn_10 rfl rfl ?_
  refine aE_getf dX1_pupilsOn_11 fw_X1_105 (lt_nn (by omega)) (sh_sch hs) (mm_beg hs) ?_
  refine aE_aload_n dX1_pupilsOn_14 rfl rfl ?_
  refine aE_getf (v := .ref 57) dX1_pupilsOn_15 fw_X1_18 (lt_nn (by decide)) rfl rfl ?_
  refine aE_iload_n dX1_pupilsOn_18 rfl rfl ?_
  refine aE_ildM dX1_pupilsOn_19 (lt_nn (by decide)) rfl (by decide) rfl i2 ?_
  refine aE_top i5 ?_
  refine aE_ildM dX1_pupilsOn_20 (lt_nn (by omega)) (sh_beg hs) (by decide) rfl (by omega) ?_
  refine aE_top (hRow.2.1 i (by omega)) ?_
  refine aE_istore dX1_pupilsOn_21 (by decide) rfl (aE_loc (ls' := [_, _, _, _, _, _]) rfl ?_)
  exact loop z (cdB S 10) 0 (by omega)
theorem l_bus (hA : AlOK d cs al ns) (D : tT) (route late : Int32) (nx : Nat → Option Nat) (hnb : ∀ a b, a < (RR d cs al ns).length → nx a = some b → b < (RR d cs al ns).length) (I0 : Nat → Nat → Int32) (hW : CW I0 sp ns nstr nc d cs fr to) (hP : PCs I0 ns d cs al) (hR : FlR I0 (RI d cs al ns)) (hT : ∀ a b, a < nc → b < nc → I0 (17 + a) b = D a b) (hn : I0 90 0 = nI (RR d cs al ns).length) (hnx : ∀ a, a < (RR d cs al ns).length → I0 56 a = rv (nx a)) (fi : Int32) : ∀ (m st : Nat) (fr2 : Option Nat) (ob : Option Nat) (x : (Nat → Int32) × Int32) (I : Nat → Nat → Int32) (rd : Int32), st + m = (RR d cs al ns).length → (∀ r, ob = some r → r < (RR d cs al ns).length ∧ rd = rdV (mpM d cs (RR d cs al ns) D (fun s => I0 26 s) d.2.2.2.1 route late) x.1 fr2 r) → (∀ q i, q ≠ 91 → I q i = I0 q i) → (∀ r, r < (RR d cs al ns).length → I 91 r = x.1 r) → (∀ J, (∀ q i, q ≠ 91 → J q i = I0 q i) → (∀ r, r < (RR d cs al ns).length → J 91 r = (drC (mpM d cs (RR d cs al ns) D (fun s => I0 26 s) d.2.2.2.1 route late) nx m x fr2 ob).1 r) → Q none (nn pl) (MM J sp pl)) → ∀ l10 l11 l12, aE z mX4_driveBus (rK 3) Q 14 [some (.ref 90), some (.ref 1), some (.ref 54), some (.int fi), some (.int route), some (.int late), some (.ref 16), some (.int (rv ob)), some (.int rd), some (.int (nI st)), l10, l11, l12] [] (nn pl) (MM I sp pl) 0 0 := by
  have hA10 := hA.2.1
  intro m
  induction m with
  | zero =>
    intro st fr2 ob x I rd hst hob hfr hrow hQ l10 l11 l12
    have hQ2 := hQ I hfr hrow
    refine aE_iload dX4_driveBus_14 rfl ?_
    refine aE_aload_n dX4_driveBus_16 rfl rfl ?_
    refine aE_geti dX4_driveBus_17 fw_X4_33 (lt_nn (by decide)) rfl (by decide) rfl ?_
    refine aE_icmp_ge (tgt := 134) dX4_driveBus_20 (by decide) (fun h20 => ?_) (fun h20 => absurd (by rw [hfr 90 0 (by omega), hn, show st = (RR d cs al ns).length by omega]; exact Int32.le_refl _) h20)
    refine aE_vret dX4_driveBus_134 rfl ⟨by decide, by decide⟩ ?_
    exact hQ2
  | succ m ih =>
    intro st fr2 ob x I rd hst hob hfr hrow hQ l10 l11 l12
    cases ob with
    | none =>
      rw [drC_none] at hQ
      have hQ2 := hQ I hfr hrow
      refine aE_iload dX4_driveBus_14 rfl ?_
      refine aE_aload_n dX4_driveBus_16 rfl rfl ?_
      refine aE_geti dX4_driveBus_17 fw_X4_33 (lt_nn (by decide)) rfl (by decide) rfl ?_
      refine aE_icmp_ge (tgt := 134) dX4_driveBus_20 (by decide) (fun h20 => absurd h20 (by rw [hfr 90 0 (by omega), hn]; exact nI_ge (by omega) (by omega))) (fun h20 => ?_)
      refine aE_iload dX4_driveBus_23 rfl ?_
      refine aE_if_lt (tgt := 134) dX4_driveBus_25 (by decide) (fun h25 => ?_) (fun h25 => absurd (by decide) h25)
      refine aE_vret dX4_driveBus_134 rfl ⟨by decide, by decide⟩ ?_
      exact hQ2
    | some r =>
      obtain ⟨hr, hrd⟩ := hob r rfl
      subst hrd
      have hW2 : CW I sp ns nstr nc d cs fr to := CW_fr2 hW (fun q i h => hfr q i (by omega)) (fun hm a b ha hb => by
        have h8 := hW.2.1.2
        rw [hfr 2 8 (by omega)] at hm
        rw [hfr _ _ (by omega)]
        exact hW.2.2.2.2.2.2.2.2.2.2.2 hm a b ha hb)
      have hP2 : PCs I ns d cs al := PCs_fr hW.1.2 hP (fun q i h => hfr q i (by omega))
      have hR2 : FlR I (RI d cs al ns) := fun r s i hr => ⟨(hfr _ _ (by omega)).trans (hR r s i hr).1, (hfr _ _ (by omega)).trans (hR r s i hr).2⟩
      have e26 : (fun s => I 26 s) = (fun s => I0 26 s) := funext fun s => hfr 26 s (by omega)
      obtain ⟨s, S, hpr⟩ : ∃ a b, rt0 (RR d cs al ns) r = (a, b) := ⟨_, _, rfl⟩
      have hrt := rt0_ex hr
      rw [hpr] at hrt
      obtain ⟨i, i1, i2, i3, i4, i5, i6, i7, i8, i9, i10, i11⟩ := FlR_get hA hR2 hrt
      have hs4 : s < 4 := by have := hW.1.2; omega
      have hst1 : st1 d cs (fun s => I 26 s) (s, S) = (mpM d cs (RR d cs al ns) D (fun s => I0 26 s) d.2.2.2.1 route late).1 r := by rw [e26]; show _ = st1 d cs _ (rt0 (RR d cs al ns) r); rw [hpr]
      have hlen : swA D d (cs s) S 10 = (mpM d cs (RR d cs al ns) D (fun s => I0 26 s) d.2.2.2.1 route late).2.2.1 r := by show _ = swA D d (cs (rt0 (RR d cs al ns) r).1) (rt0 (RR d cs al ns) r).2 10; rw [hpr]
      have hlt : (if nI r = route then late else 0) = (mpM d cs (RR d cs al ns) D (fun s => I0 26 s) d.2.2.2.1 route late).2.2.2.1 r := rfl
      have hcm := rdV_cm (mpM d cs (RR d cs al ns) D (fun s => I0 26 s) d.2.2.2.1 route late) x.1 fr2 r
      have ed : drC (mpM d cs (RR d cs al ns) D (fun s => I0 26 s) d.2.2.2.1 route late) nx (m + 1) x fr2 (some r) = drC (mpM d cs (RR d cs al ns) D (fun s => I0 26 s) d.2.2.2.1 route late) nx m (fup x.1 r (cmV (mpM d cs (RR d cs al ns) D (fun s => I0 26 s) d.2.2.2.1 route late) x.1 fr2 r), x.2 + ltV (mpM d cs (RR d cs al ns) D (fun s => I0 26 s) d.2.2.2.1 route late) (cmV (mpM d cs (RR d cs al ns) D (fun s => I0 26 s) d.2.2.2.1 route late) x.1 fr2 r) r) (some r) (nx r) := rfl
      rw [ed] at hQ
      have hfr1 : ∀ v q i, q ≠ 91 → iu I 91 r v q i = I0 q i := fun v q i h => (iu_ne (by omega)).trans (hfr q i h)
      have hrow1 : ∀ r', r' < (RR d cs al ns).length → iu I 91 r (cmV (mpM d cs (RR d cs al ns) D (fun s => I0 26 s) d.2.2.2.1 route late) x.1 fr2 r) 91 r' = fup x.1 r (cmV (mpM d cs (RR d cs al ns) D (fun s => I0 26 s) d.2.2.2.1 route late) x.1 fr2 r) r' := fun r' h => by
        by_cases e : r' = r
        · rw [e, iu_eq, fup_eq]
        · rw [iu_ne (by omega), fup_ne e]; exact hrow r' h
      obtain ⟨cor1, cor2, -, -⟩ := hW.2.2.2.2.2.2.2.2.2.2.1 s i3
      have h8 := hW.2.1.2
      have tail : ∀ (l10 : Int32) l12, aE z mX4_driveBus (rK 3) Q 75 [some (.ref 90), some (.ref 1), some (.ref 54), some (.int fi), some (.int route), some (.int late), some (.ref 16), some (.int (nI r)), some (.int (rdV (mpM d cs (RR d cs al ns) D (fun s => I0 26 s) d.2.2.2.1 route late) x.1 fr2 r)), some (.int (nI st)), some (.int l10), l11, l12] [] (nn pl) (MM (iu I 91 r (cmV (mpM d cs (RR d cs al ns) D (fun s => I0 26 s) d.2.2.2.1 route late) x.1 fr2 r)) sp pl) 0 0 := by
        intro l10 l12
        cases hnr : nx r with
        | none =>
          have ih2 := ih (st + 1) (some r) none _ (iu I 91 r (cmV (mpM d cs (RR d cs al ns) D (fun s => I0 26 s) d.2.2.2.1 route late) x.1 fr2 r)) (rdV (mpM d cs (RR d cs al ns) D (fun s => I0 26 s) d.2.2.2.1 route late) x.1 fr2 r) (by omega) (fun b hb => by cases hb) (hfr1 _) hrow1 (by rw [hnr] at hQ; exact hQ)
          refine aE_aload_n dX4_driveBus_75 rfl rfl ?_
          refine aE_getf (v := .ref 56) dX4_driveBus_76 fw_X4_66 (lt_nn (by decide)) rfl rfl ?_
          refine aE_iload dX4_driveBus_79 rfl ?_
          refine aE_ildM dX4_driveBus_81 (lt_nn (by decide)) rfl (by decide) rfl (by omega) ?_
          refine aE_top (x' := rv none) ((hfr1 _ 56 r (by omega)).trans ((hnx r hr).trans (by rw [hnr]))) ?_
          refine aE_istore dX4_driveBus_82 (by decide) rfl (aE_loc (ls' := [_, _, _, _, _, _, _, _, _, _, _, _, _]) rfl ?_)
          refine aE_iload dX4_driveBus_84 rfl ?_
          refine aE_if_lt (tgt := 124) dX4_driveBus_86 (by decide) (fun h86 => ?_) (fun h86 => absurd (by decide) h86)
          refine aE_iload dX4_driveBus_124 rfl ?_
          refine aE_istore dX4_driveBus_126 (by decide) rfl (aE_loc (ls' := [_, _, _, _, _, _, _, _, _, _, _, _, _]) rfl ?_)
          refine aE_iinc dX4_driveBus_128 rfl (a_inc _) (by decide) rfl (aE_loc (ls' := [_, _, _, _, _, _, _, _, _, _, _, _, _]) rfl ?_)
          refine aE_goto (tgt := 14) dX4_driveBus_131 (by decide) ?_
          exact ih2 _ _ _
        | some r' =>
          have hr' := hnb r r' hr hnr
          obtain ⟨s', S', hpr'⟩ : ∃ a b, rt0 (RR d cs al ns) r' = (a, b) := ⟨_, _, rfl⟩
          have hrt' := rt0_ex hr'
          rw [hpr'] at hrt'
          obtain ⟨j, j1, j2, j3, j4, j5, j6, j7, j8, j9, j10, j11⟩ := FlR_get hA hR2 hrt'
          obtain ⟨f1, f2⟩ := fs1_some (d := d) (c := cs s') j7 j9
          obtain ⟨c3, -, -, -⟩ := hW.2.2.2.2.2.2.2.2.1 _ f2
          have hway : cmV (mpM d cs (RR d cs al ns) D (fun s => I0 26 s) d.2.2.2.1 route late) x.1 fr2 r + D (cs s).1 (d.2.1 (fs1 d (cs s') S')) = rdV (mpM d cs (RR d cs al ns) D (fun s => I0 26 s) d.2.2.2.1 route late) (fup x.1 r (cmV (mpM d cs (RR d cs al ns) D (fun s => I0 26 s) d.2.2.2.1 route late) x.1 fr2 r)) (some r) r' := by
            show _ = fup x.1 r (cmV (mpM d cs (RR d cs al ns) D (fun s => I0 26 s) d.2.2.2.1 route late) x.1 fr2 r) r + D (cs (rt0 (RR d cs al ns) r).1).1 (d.2.1 (fs1 d (cs (rt0 (RR d cs al ns) r').1) (rt0 (RR d cs al ns) r').2))
            rw [fup_eq, hpr, hpr']
          have hW3 : CW (iu I 91 r (cmV (mpM d cs (RR d cs al ns) D (fun s => I0 26 s) d.2.2.2.1 route late) x.1 fr2 r)) sp ns nstr nc d cs fr to := CW_fr2 hW (fun q i h => hfr1 _ q i (by omega)) (fun hm a b ha hb => by
            rw [hfr1 _ 2 8 (by omega)] at hm
            rw [hfr1 _ _ _ (by omega)]
            exact hW.2.2.2.2.2.2.2.2.2.2.2 hm a b ha hb)
          have hP3 : PCs (iu I 91 r (cmV (mpM d cs (RR d cs al ns) D (fun s => I0 26 s) d.2.2.2.1 route late) x.1 fr2 r)) ns d cs al := PCs_fr hW.1.2 hP (fun q i h => hfr1 _ q i (by omega))
          have hR3 : FlR (iu I 91 r (cmV (mpM d cs (RR d cs al ns) D (fun s => I0 26 s) d.2.2.2.1 route late) x.1 fr2 r)) (RI d cs al ns) := fun r s i hr => ⟨(hfr1 _ _ _ (by omega)).trans (hR r s i hr).1, (hfr1 _ _ _ (by omega)).trans (hR r s i hr).2⟩
          have ih2 := ih (st + 1) (some r) (some r') _ (iu I 91 r (cmV (mpM d cs (RR d cs al ns) D (fun s => I0 26 s) d.2.2.2.1 route late) x.1 fr2 r)) _ (by omega) (fun b hb => by cases hb; exact ⟨hr', rfl⟩) (hfr1 _) hrow1 (by rw [hnr] at hQ; exact hQ)
          refine aE_aload_n dX4_driveBus_75 rfl rfl ?_
          refine aE_getf (v := .ref 56) dX4_driveBus_76 fw_X4_66 (lt_nn (by decide)) rfl rfl ?_
          refine aE_iload dX4_driveBus_79 rfl ?_
          refine aE_ildM dX4_driveBus_81 (lt_nn (by decide)) rfl (by decide) rfl (by omega) ?_
          refine aE_top (x' := nI r') ((hfr1 _ 56 r (by omega)).trans ((hnx r hr).trans (by rw [hnr]; rfl))) ?_
          refine aE_istore dX4_driveBus_82 (by decide) rfl (aE_loc (ls' := [_, _, _, _, _, _, _, _, _, _, _, _, _]) rfl ?_)
          refine aE_iload dX4_driveBus_84 rfl ?_
          refine aE_if_lt (tgt := 124) dX4_driveBus_86 (by decide) (fun h86 => absurd h86 (nI_pos (by omega))) (fun h86 => ?_)
          refine aE_aload_n dX4_driveBus_89 rfl rfl ?_
          refine aE_aload_n dX4_driveBus_90 rfl rfl ?_
          refine aE_iload dX4_driveBus_91 rfl ?_
          refine aE_cVr dX4_driveBus_93 lk_X4_69 mv_X1_schoolOf (c_schoolOf r s i2 hs4 ((iu_ne (by omega)).trans i4)) rfl (lt_nn (by decide)) rfl rfl ⟨by decide, by decide⟩ (Nat.le_of_ble_eq_true rfl) ⟨rfl, rfl⟩ ⟨by decide, by decide⟩ ?_
          refine aE_geti dX4_driveBus_96 fw_X4_73 (lt_nn (by omega)) (sh_sch hs4) (mc_sch (i := 1) hs4 (by decide)).1 (mc_sch (i := 1) hs4 (by decide)).2 ?_
          refine aE_top ((hfr1 _ _ 1 (by omega)).trans cor2) ?_
          refine aE_istore dX4_driveBus_99 (by decide) rfl (aE_loc (ls' := [_, _, _, _, _, _, _, _, _, _, _, _, _]) rfl ?_)
          refine aE_aload_n dX4_driveBus_101 rfl rfl ?_
          refine aE_getf (v := .ref 91) dX4_driveBus_102 fw_X4_9 (lt_nn (by decide)) rfl rfl ?_
          refine aE_iload dX4_driveBus_105 rfl ?_
          refine aE_ildM dX4_driveBus_107 (lt_nn (by decide)) rfl (by decide) rfl (by omega) ?_
          refine aE_top iu_eq ?_
          refine aE_aload dX4_driveBus_108 rfl ?_
          refine aE_iload dX4_driveBus_110 rfl ?_
          refine aE_aald (t := 105) dX4_driveBus_112 (lt_nn (by decide)) ⟨by decide, by decide⟩ rfl (by decide) rfl (show (cs s).1 < 8 by omega) (mm_snowy (show (cs s).1 < 8 by omega)) ?_
          refine aE_aload_n dX4_driveBus_113 rfl rfl ?_
          refine aE_aload_n dX4_driveBus_114 rfl rfl ?_
          refine aE_iload dX4_driveBus_115 rfl ?_
          refine aE_cVi dX4_driveBus_117 lk_X4_78 mv_X1_firstCorner (c_firstCorner hW3 hA hP3 hR3 r' s' S' hrt') rfl (lt_nn (by decide)) rfl rfl ⟨by decide, by decide⟩ (Nat.le_of_ble_eq_true rfl) ⟨rfl, rfl⟩ ⟨by decide, by decide⟩ ?_
          refine aE_ildM dX4_driveBus_120 (lt_nn (by omega)) (sh_snowy (show (cs s).1 < 8 by omega)) (by decide) rfl (by omega) ?_
          refine aE_top ((hfr1 _ _ _ (by omega)).trans (hT _ _ cor1 c3)) ?_
          refine aE_iadd dX4_driveBus_121 ?_
          refine aE_top hway ?_
          refine aE_istore dX4_driveBus_122 (by decide) rfl (aE_loc (ls' := [_, _, _, _, _, _, _, _, _, _, _, _, _]) rfl ?_)
          refine aE_iload dX4_driveBus_124 rfl ?_
          refine aE_istore dX4_driveBus_126 (by decide) rfl (aE_loc (ls' := [_, _, _, _, _, _, _, _, _, _, _, _, _]) rfl ?_)
          refine aE_iinc dX4_driveBus_128 rfl (a_inc _) (by decide) rfl (aE_loc (ls' := [_, _, _, _, _, _, _, _, _, _, _, _, _]) rfl ?_)
          refine aE_goto (tgt := 14) dX4_driveBus_131 (by decide) ?_
          exact ih2 _ _ _
      refine aE_iload dX4_driveBus_14 rfl ?_
      refine aE_aload_n dX4_driveBus_16 rfl rfl ?_
      refine aE_geti dX4_driveBus_17 fw_X4_33 (lt_nn (by decide)) rfl (by decide) rfl ?_
      refine aE_icmp_ge (tgt := 134) dX4_driveBus_20 (by decide) (fun h20 => absurd h20 (by rw [hfr 90 0 (by omega), hn]; exact nI_ge (by omega) (by omega))) (fun h20 => ?_)
      refine aE_iload dX4_driveBus_23 rfl ?_
      refine aE_if_lt (tgt := 134) dX4_driveBus_25 (by decide) (fun h25 => absurd h25 (nI_pos (by omega))) (fun h25 => ?_)
      refine aE_iload dX4_driveBus_28 rfl ?_
      refine aE_aload_n dX4_driveBus_30 rfl rfl ?_
      refine aE_aload_n dX4_driveBus_31 rfl rfl ?_
      refine aE_iload dX4_driveBus_32 rfl ?_
      refine aE_cVi dX4_driveBus_34 lk_X4_53 mv_X1_startOf (c_startOf hA hW.1.2 hP2 hR2 r s S hrt) rfl (lt_nn (by decide)) rfl rfl ⟨by decide, by decide⟩ (Nat.le_of_ble_eq_true rfl) ⟨rfl, rfl⟩ ⟨by decide, by decide⟩ ?_
      refine aE_top hst1 ?_
      refine aE_max dX4_driveBus_37 mm_X4_56 ⟨by decide, by decide⟩ ⟨by decide, by decide⟩ (Nat.le_of_ble_eq_true rfl) ?_
      refine aE_iload dX4_driveBus_40 rfl ?_
      refine aE_iload dX4_driveBus_42 rfl ?_
      refine aE_icmp_ne (tgt := 52) dX4_driveBus_44 (by decide) (fun h44 => ?_) (fun h44 => ?_)
      · skip
        refine aE_iconst (v := 0) dX4_driveBus_52 rfl ?_
        refine aE_top (x' := (mpM d cs (RR d cs al ns) D (fun s => I0 26 s) d.2.2.2.1 route late).2.2.2.1 r) (by first | exact if_pos (by first | exact h44 | exact Classical.not_not.mp h44) | exact (if_neg h44).symm | exact (if_pos (by first | exact h44 | exact Classical.not_not.mp h44)).symm) ?_
        refine aE_iadd dX4_driveBus_53 ?_
        refine aE_istore dX4_driveBus_54 (by decide) rfl (aE_loc (ls' := [_, _, _, _, _, _, _, _, _, _, _, _, _]) rfl ?_)
        refine aE_aload_n dX4_driveBus_56 rfl rfl ?_
        refine aE_getf (v := .ref 91) dX4_driveBus_57 fw_X4_9 (lt_nn (by decide)) rfl rfl ?_
        refine aE_iload dX4_driveBus_60 rfl ?_
        refine aE_iload dX4_driveBus_62 rfl ?_
        refine aE_aload_n dX4_driveBus_64 rfl rfl ?_
        refine aE_aload_n dX4_driveBus_65 rfl rfl ?_
        refine aE_iload dX4_driveBus_66 rfl ?_
        refine aE_aload dX4_driveBus_68 rfl ?_
        refine aE_cVi dX4_driveBus_70 lk_X4_62 mv_X1_lengthOn (c_lengthOn hW2 hA hP2 hR2 r s S hrt D (fun a b ha hb => (hfr _ _ (by omega)).trans (hT a b ha hb))) rfl (lt_nn (by decide)) rfl rfl ⟨by decide, by decide⟩ (Nat.le_of_ble_eq_true rfl) ⟨rfl, rfl⟩ ⟨by decide, by decide⟩ ?_
        refine aE_top hlen ?_
        refine aE_iadd dX4_driveBus_73 ?_
        refine aE_top hcm ?_
        refine aE_istM dX4_driveBus_74 (lt_nn (by decide)) rfl (by decide) rfl (by omega) ?_
        exact tail _ _
      · skip
        refine aE_iload dX4_driveBus_47 rfl ?_
        refine aE_goto (tgt := 53) dX4_driveBus_49 (by decide) ?_
        refine aE_top (x' := (mpM d cs (RR d cs al ns) D (fun s => I0 26 s) d.2.2.2.1 route late).2.2.2.1 r) (by first | exact if_pos (by first | exact h44 | exact Classical.not_not.mp h44) | exact (if_neg h44).symm | exact (if_pos (by first | exact h44 | exact Classical.not_not.mp h44)).symm) ?_
        refine aE_iadd dX4_driveBus_53 ?_
        refine aE_istore dX4_driveBus_54 (by decide) rfl (aE_loc (ls' := [_, _, _, _, _, _, _, _, _, _, _, _, _]) rfl ?_)
        refine aE_aload_n dX4_driveBus_56 rfl rfl ?_
        refine aE_getf (v := .ref 91) dX4_driveBus_57 fw_X4_9 (lt_nn (by decide)) rfl rfl ?_
        refine aE_iload dX4_driveBus_60 rfl ?_
        refine aE_iload dX4_driveBus_62 rfl ?_
        refine aE_aload_n dX4_driveBus_64 rfl rfl ?_
        refine aE_aload_n dX4_driveBus_65 rfl rfl ?_
        refine aE_iload dX4_driveBus_66 rfl ?_
        refine aE_aload dX4_driveBus_68 rfl ?_
        refine aE_cVi dX4_driveBus_70 lk_X4_62 mv_X1_lengthOn (c_lengthOn hW2 hA hP2 hR2 r s S hrt D (fun a b ha hb => (hfr _ _ (by omega)).trans (hT a b ha hb))) rfl (lt_nn (by decide)) rfl rfl ⟨by decide, by decide⟩ (Nat.le_of_ble_eq_true rfl) ⟨rfl, rfl⟩ ⟨by decide, by decide⟩ ?_
        refine aE_top hlen ?_
        refine aE_iadd dX4_driveBus_73 ?_
        refine aE_top hcm ?_
        refine aE_istM dX4_driveBus_74 (lt_nn (by decide)) rfl (by decide) rfl (by omega) ?_
        exact tail _ _
theorem c_driveBus (hA : AlOK d cs al ns) (D : tT) (route late : Int32) (nx : Nat → Option Nat) (hnb : ∀ a b, a < (RR d cs al ns).length → nx a = some b → b < (RR d cs al ns).length) (hW : CW I sp ns nstr nc d cs fr to) (hP : PCs I ns d cs al) (hR : FlR I (RI d cs al ns)) (hT : ∀ a b, a < nc → b < nc → I (17 + a) b = D a b) (hn : I 90 0 = nI (RR d cs al ns).length) (hnx : ∀ a, a < (RR d cs al ns).length → I 56 a = rv (nx a)) (f0 : Nat) (hf0 : f0 < (RR d cs al ns).length) (x : (Nat → Int32) × Int32) (hrow : ∀ r, r < (RR d cs al ns).length → I 91 r = x.1 r) (hQ : ∀ J, (∀ q i, q ≠ 91 → J q i = I q i) → (∀ r, r < (RR d cs al ns).length → J 91 r = (drC (mpM d cs (RR d cs al ns) D (fun s => I 26 s) d.2.2.2.1 route late) nx (RR d cs al ns).length x none (some f0)).1 r) → Q none (nn pl) (MM J sp pl)) : aRuns mX4_driveBus (rK 3) [.ref 90, .ref 1, .ref 54, .int (nI f0), .int route, .int late, .ref 16] (nn pl) (MM I sp pl) Q := by
  obtain ⟨s, S, hpr⟩ : ∃ a b, rt0 (RR d cs al ns) f0 = (a, b) := ⟨_, _, rfl⟩
  have hrt := rt0_ex hf0
  rw [hpr] at hrt
  have hst1 : st1 d cs (fun s => I 26 s) (s, S) = rdV (mpM d cs (RR d cs al ns) D (fun s => I 26 s) d.2.2.2.1 route late) x.1 none f0 := by show _ = st1 d cs _ (rt0 (RR d cs al ns) f0); rw [hpr]
  refine aRuns_of pn_X4_driveBus (Nat.le_of_ble_eq_true rfl) (fun z => aE_loc (ls' := [_, _, _, _, _, _, _, _, _, _, _, _, _]) rfl ?_)
  refine aE_iload_n dX4_driveBus_0 rfl rfl ?_
  refine aE_istore dX4_driveBus_1 (by decide) rfl (aE_loc (ls' := [_, _, _, _, _, _, _, _, _, _, _, _, _]) rfl ?_)
  refine aE_aload_n dX4_driveBus_3 rfl rfl ?_
  refine aE_aload_n dX4_driveBus_4 rfl rfl ?_
  refine aE_iload_n dX4_driveBus_5 rfl rfl ?_
  refine aE_cVi dX4_driveBus_6 lk_X4_53 mv_X1_startOf (c_startOf hA hW.1.2 hP hR f0 s S hrt) rfl (lt_nn (by decide)) rfl rfl ⟨by decide, by decide⟩ (Nat.le_of_ble_eq_true rfl) ⟨rfl, rfl⟩ ⟨by decide, by decide⟩ ?_
  refine aE_top hst1 ?_
  refine aE_istore dX4_driveBus_9 (by decide) rfl (aE_loc (ls' := [_, _, _, _, _, _, _, _, _, _, _, _, _]) rfl ?_)
  refine aE_iconst (v := 0) dX4_driveBus_11 rfl ?_
  refine aE_istore dX4_driveBus_12 (by decide) rfl (aE_loc (ls' := [_, _, _, _, _, _, _, _, _, _, _, _, _]) rfl ?_)
  exact l_bus hA D route late nx hnb I hW hP hR hT hn hnx (nI f0) (RR d cs al ns).length 0 none (some f0) x I _ (by omega) (fun r hr => by cases hr; exact ⟨hf0, rfl⟩) (fun _ _ _ => rfl) hrow hQ _ _ _
theorem l_drv1 (hA : AlOK d cs al ns) (D : tT) (route late : Int32) (nx : Nat → Option Nat) (hnb : ∀ a b, a < (RR d cs al ns).length → nx a = some b → b < (RR d cs al ns).length) (I0 : Nat → Nat → Int32) (hW : CW I0 sp ns nstr nc d cs fr to) (hP : PCs I0 ns d cs al) (hR : FlR I0 (RI d cs al ns)) (hT : ∀ a b, a < nc → b < nc → I0 (17 + a) b = D a b) (hn : I0 90 0 = nI (RR d cs al ns).length) (hnx : ∀ a, a < (RR d cs al ns).length → I0 56 a = rv (nx a)) (snow : Int32) (T : Nat) (hTk : I0 54 8 = nI T) (hT2 : T < 1024) (fin : Nat → Int32) (k0 : ∀ (J : Nat → Nat → Int32) (l8 : Option Value), (∀ q i, q ≠ 91 → J q i = I0 q i) → (∀ r, r < (RR d cs al ns).length → J 91 r = fin r) → aE z mX4_drive (rK 4) Q 62 [some (.ref 90), some (.ref 1), some (.ref 54), some (.int route), some (.int late), some (.int snow), some (.ref 16), some (.int 0), l8] [] (nn pl) (MM J sp pl) 0 0) : ∀ (e f0 : Nat) (x : (Nat → Int32) × Int32) (I : Nat → Nat → Int32), f0 + e = (RR d cs al ns).length → (∀ q i, q ≠ 91 → I q i = I0 q i) → (∀ r, r < (RR d cs al ns).length → I 91 r = x.1 r) → (∀ r, (drA (mpM d cs (RR d cs al ns) D (fun s => I0 26 s) d.2.2.2.1 route late) nx (fun r => !T.testBit r) (RR d cs al ns).length e x).1 r = fin r) → aE z mX4_drive (rK 4) Q 25 [some (.ref 90), some (.ref 1), some (.ref 54), some (.int route), some (.int late), some (.int snow), some (.ref 16), some (.int 0), some (.int (nI f0))] [] (nn pl) (MM I sp pl) 0 0 := by
  have hA10 := hA.2.1
  have h8 := hW.2.1.2
  intro e
  induction e with
  | zero =>
    intro f0 x I hf hfr hrow hfin
    refine aE_iload dX4_drive_25 rfl ?_
    refine aE_aload_n dX4_drive_27 rfl rfl ?_
    refine aE_geti dX4_drive_28 fw_X4_33 (lt_nn (by decide)) rfl (by decide) rfl ?_
    refine aE_icmp_ge (tgt := 62) dX4_drive_31 (by decide) (fun h31 => ?_) (fun h31 => absurd (by rw [hfr 90 0 (by omega), hn, show f0 = (RR d cs al ns).length by omega]; exact Int32.le_refl _) h31)
    exact k0 I _ hfr (fun r hr => (hrow r hr).trans (hfin r))
  | succ e ih =>
    intro f0 x I hf hfr hrow hfin
    have e26 : (fun s => I 26 s) = (fun s => I0 26 s) := funext fun s => hfr 26 s (by omega)
    rw [drA_s, show (RR d cs al ns).length - (e + 1) = f0 by omega] at hfin
    have hW2 : CW I sp ns nstr nc d cs fr to := CW_fr2 hW (fun q i h => hfr q i (by omega)) (fun hm a b ha hb => by
      have h8 := hW.2.1.2
      rw [hfr 2 8 (by omega)] at hm
      rw [hfr _ _ (by omega)]
      exact hW.2.2.2.2.2.2.2.2.2.2.2 hm a b ha hb)
    have hP2 : PCs I ns d cs al := PCs_fr hW.1.2 hP (fun q i h => hfr q i (by omega))
    have hR2 : FlR I (RI d cs al ns) := fun r s i hr => ⟨(hfr _ _ (by omega)).trans (hR r s i hr).1, (hfr _ _ (by omega)).trans (hR r s i hr).2⟩
    by_cases hf1 : (!T.testBit f0) = true
    · rw [if_pos hf1] at hfin
      refine aE_iload dX4_drive_25 rfl ?_
      refine aE_aload_n dX4_drive_27 rfl rfl ?_
      refine aE_geti dX4_drive_28 fw_X4_33 (lt_nn (by decide)) rfl (by decide) rfl ?_
      refine aE_icmp_ge (tgt := 62) dX4_drive_31 (by decide) (fun h31 => absurd h31 (by rw [hfr 90 0 (by omega), hn]; exact nI_ge (by omega) (by omega))) (fun h31 => ?_)
      refine aE_aload_n dX4_drive_34 rfl rfl ?_
      refine aE_iload dX4_drive_35 rfl ?_
      refine aE_cVi dX4_drive_37 lk_X4_34 mv_X1_isFirst (c_isFirst T f0 ((hfr 54 8 (by omega)).trans hTk) hT2 (by omega)) rfl (lt_nn (by decide)) rfl rfl ⟨by decide, by decide⟩ (Nat.le_of_ble_eq_true rfl) ⟨rfl, rfl⟩ ⟨by decide, by decide⟩ ?_
      rw [hf1]
      refine aE_if_eq (tgt := 56) dX4_drive_40 (by decide) (fun h40 => absurd h40 (by decide)) (fun h40 => ?_)
      refine aE_aload_n dX4_drive_43 rfl rfl ?_
      refine aE_aload_n dX4_drive_44 rfl rfl ?_
      refine aE_aload_n dX4_drive_45 rfl rfl ?_
      refine aE_iload dX4_drive_46 rfl ?_
      refine aE_iload_n dX4_drive_48 rfl rfl ?_
      refine aE_iload dX4_drive_49 rfl ?_
      refine aE_aload dX4_drive_51 rfl ?_
      refine aE_cVq dX4_drive_53 lk_X4_38 mv_X4_driveBus (c_driveBus (Q := (fun (r : Option Value) (n' : Nat) (m' : aM) => r = none ∧ n' = nn pl ∧ ∃ J, m' = MM J sp pl ∧ (∀ q i, q ≠ 91 → J q i = I q i) ∧ (∀ r, r < (RR d cs al ns).length → J 91 r = (drC (mpM d cs (RR d cs al ns) D (fun s => I 26 s) d.2.2.2.1 route late) nx (RR d cs al ns).length x none (some f0)).1 r))) hA D route late nx hnb hW2 hP2 hR2 (fun a b ha hb => (hfr _ _ (by omega)).trans (hT a b ha hb)) ((hfr 90 0 (by omega)).trans hn) (fun a ha => (hfr 56 a (by omega)).trans (hnx a ha)) f0 (by omega) x hrow (fun J a b => ⟨rfl, rfl, J, rfl, a, b⟩)) rfl (lt_nn (by decide)) rfl rfl ⟨by decide, by decide⟩ (Nat.le_of_ble_eq_true rfl) ⟨rfl, rfl⟩ ⟨by decide, by decide⟩ ?_
      rintro r n' m' ⟨rfl, rfl, J, rfl, j1, j2⟩
      rw [e26] at j2
      refine aE_iinc dX4_drive_56 rfl (a_inc _) (by decide) rfl (aE_loc (ls' := [_, _, _, _, _, _, _, _, _]) rfl ?_)
      refine aE_goto (tgt := 25) dX4_drive_59 (by decide) ?_
      exact ih (f0 + 1) _ J (by omega) (fun q i h => (j1 q i h).trans (hfr q i h)) j2 hfin
    · rw [if_neg hf1] at hfin
      have hf2 : (!T.testBit f0) = false := Bool.eq_false_iff.mpr hf1
      refine aE_iload dX4_drive_25 rfl ?_
      refine aE_aload_n dX4_drive_27 rfl rfl ?_
      refine aE_geti dX4_drive_28 fw_X4_33 (lt_nn (by decide)) rfl (by decide) rfl ?_
      refine aE_icmp_ge (tgt := 62) dX4_drive_31 (by decide) (fun h31 => absurd h31 (by rw [hfr 90 0 (by omega), hn]; exact nI_ge (by omega) (by omega))) (fun h31 => ?_)
      refine aE_aload_n dX4_drive_34 rfl rfl ?_
      refine aE_iload dX4_drive_35 rfl ?_
      refine aE_cVi dX4_drive_37 lk_X4_34 mv_X1_isFirst (c_isFirst T f0 ((hfr 54 8 (by omega)).trans hTk) hT2 (by omega)) rfl (lt_nn (by decide)) rfl rfl ⟨by decide, by decide⟩ (Nat.le_of_ble_eq_true rfl) ⟨rfl, rfl⟩ ⟨by decide, by decide⟩ ?_
      rw [hf2]
      refine aE_if_eq (tgt := 56) dX4_drive_40 (by decide) (fun h40 => ?_) (fun h40 => absurd (rfl) h40)
      refine aE_iinc dX4_drive_56 rfl (a_inc _) (by decide) rfl (aE_loc (ls' := [_, _, _, _, _, _, _, _, _]) rfl ?_)
      refine aE_goto (tgt := 25) dX4_drive_59 (by decide) ?_
      exact ih (f0 + 1) x I (by omega) hfr hrow hfin
theorem l_drv2 (hA : AlOK d cs al ns) (D : tT) (route late : Int32) (nx : Nat → Option Nat) (hnb : ∀ a b, a < (RR d cs al ns).length → nx a = some b → b < (RR d cs al ns).length) (hW : CW I sp ns nstr nc d cs fr to) (hP : PCs I ns d cs al) (hR : FlR I (RI d cs al ns)) (hT : ∀ a b, a < nc → b < nc → I (17 + a) b = D a b) (hn : I 90 0 = nI (RR d cs al ns).length) (hnx : ∀ a, a < (RR d cs al ns).length → I 56 a = rv (nx a)) (snow : Int32) (fin : Nat → Int32) (hrow : ∀ r, r < (RR d cs al ns).length → I 91 r = fin r) (hQ : qi Q (cSum (fun r => ltV (mpM d cs (RR d cs al ns) D (fun s => I 26 s) d.2.2.2.1 route late) (fin r) r) (RR d cs al ns).length) I sp pl) : ∀ (e r : Nat), r + e = (RR d cs al ns).length → aE z mX4_drive (rK 4) Q 65 [some (.ref 90), some (.ref 1), some (.ref 54), some (.int route), some (.int late), some (.int snow), some (.ref 16), some (.int (cSum (fun r => ltV (mpM d cs (RR d cs al ns) D (fun s => I 26 s) d.2.2.2.1 route late) (fin r) r) r)), some (.int (nI r))] [] (nn pl) (MM I sp pl) 0 0 := by
  have hA10 := hA.2.1
  intro e
  induction e with
  | zero =>
    intro r hr
    have hr : r = (RR d cs al ns).length := by omega
    subst hr
    refine aE_iload dX4_drive_65 rfl ?_
    refine aE_aload_n dX4_drive_67 rfl rfl ?_
    refine aE_geti dX4_drive_68 fw_X4_33 (lt_nn (by decide)) rfl (by decide) rfl ?_
    refine aE_icmp_ge (tgt := 113) dX4_drive_71 (by decide) (fun h71 => ?_) (fun h71 => absurd (by rw [hn]; exact Int32.le_refl _) h71)
    refine aE_iload dX4_drive_113 rfl ?_
    refine aE_iret dX4_drive_115 rfl ⟨by decide, by decide⟩ ?_
    exact hQ
  | succ e ih =>
    intro r hr
    have hrn : r < (RR d cs al ns).length := by omega
    have ih2 := ih (r + 1) (by omega)
    obtain ⟨s, S, hpr⟩ : ∃ a b, rt0 (RR d cs al ns) r = (a, b) := ⟨_, _, rfl⟩
    have hrt := rt0_ex hrn
    rw [hpr] at hrt
    obtain ⟨i, i1, i2, i3, i4, i5, i6, i7, i8, i9, i10, i11⟩ := FlR_get hA hR hrt
    have hs4 : s < 4 := by have := hW.1.2; omega
    have e1 : cSum (fun r => ltV (mpM d cs (RR d cs al ns) D (fun s => I 26 s) d.2.2.2.1 route late) (fin r) r) (r + 1) = cSum (fun r => ltV (mpM d cs (RR d cs al ns) D (fun s => I 26 s) d.2.2.2.1 route late) (fin r) r) r + (if 60 + 20 * I 26 s < fin r then sumB S d.2.2.2.1 d.1 else 0) := by
      show cSum (fun r => ltV (mpM d cs (RR d cs al ns) D (fun s => I 26 s) d.2.2.2.1 route late) (fin r) r) r + ltV (mpM d cs (RR d cs al ns) D (fun s => I 26 s) d.2.2.2.1 route late) (fin r) r = _
      congr 1
      show (if 60 + 20 * I 26 (rt0 (RR d cs al ns) r).1 < fin r then sumB (rt0 (RR d cs al ns) r).2 d.2.2.2.1 d.1 else 0) = _
      rw [hpr]
    rw [e1] at ih2
    by_cases hl : 60 + 20 * I 26 s < fin r
    · rw [if_pos hl] at ih2
      refine aE_iload dX4_drive_65 rfl ?_
      refine aE_aload_n dX4_drive_67 rfl rfl ?_
      refine aE_geti dX4_drive_68 fw_X4_33 (lt_nn (by decide)) rfl (by decide) rfl ?_
      refine aE_icmp_ge (tgt := 113) dX4_drive_71 (by decide) (fun h71 => absurd h71 (by rw [hn]; exact nI_ge (by omega) (by omega))) (fun h71 => ?_)
      refine aE_aload_n dX4_drive_74 rfl rfl ?_
      refine aE_getf (v := .ref 91) dX4_drive_75 fw_X4_9 (lt_nn (by decide)) rfl rfl ?_
      refine aE_iload dX4_drive_78 rfl ?_
      refine aE_ildM dX4_drive_80 (lt_nn (by decide)) rfl (by decide) rfl (by omega) ?_
      refine aE_top (hrow r hrn) ?_
      refine aE_aload_n dX4_drive_81 rfl rfl ?_
      refine aE_aload_n dX4_drive_82 rfl rfl ?_
      refine aE_getf (v := .ref 55) dX4_drive_83 fw_X4_42 (lt_nn (by decide)) rfl rfl ?_
      refine aE_iload dX4_drive_86 rfl ?_
      refine aE_ildM dX4_drive_88 (lt_nn (by decide)) rfl (by decide) rfl (by omega) ?_
      refine aE_top i4 ?_
      refine aE_cVi dX4_drive_89 lk_X4_45 mv_X0_rings (c_rings s hs4) rfl (lt_nn (by decide)) rfl rfl ⟨by decide, by decide⟩ (Nat.le_of_ble_eq_true rfl) ⟨rfl, rfl⟩ ⟨by decide, by decide⟩ ?_
      refine aE_icmp_le (tgt := 107) dX4_drive_92 (by decide) (fun h92 => absurd h92 (Int32.not_le.mpr hl)) (fun h92 => ?_)
      refine aE_iload dX4_drive_95 rfl ?_
      refine aE_aload_n dX4_drive_97 rfl rfl ?_
      refine aE_aload_n dX4_drive_98 rfl rfl ?_
      refine aE_iload dX4_drive_99 rfl ?_
      refine aE_cVi dX4_drive_101 lk_X4_49 mv_X1_pupilsOn (c_pupilsOn hW hA hP hR r s S hrt) rfl (lt_nn (by decide)) rfl rfl ⟨by decide, by decide⟩ (Nat.le_of_ble_eq_true rfl) ⟨rfl, rfl⟩ ⟨by decide, by decide⟩ ?_
      refine aE_iadd dX4_drive_104 ?_
      refine aE_istore dX4_drive_105 (by decide) rfl (aE_loc (ls' := [_, _, _, _, _, _, _, _, _]) rfl ?_)
      refine aE_iinc dX4_drive_107 rfl (a_inc _) (by decide) rfl (aE_loc (ls' := [_, _, _, _, _, _, _, _, _]) rfl ?_)
      refine aE_goto (tgt := 65) dX4_drive_110 (by decide) ?_
      exact ih2
    · rw [if_neg hl, Int32.add_zero] at ih2
      refine aE_iload dX4_drive_65 rfl ?_
      refine aE_aload_n dX4_drive_67 rfl rfl ?_
      refine aE_geti dX4_drive_68 fw_X4_33 (lt_nn (by decide)) rfl (by decide) rfl ?_
      refine aE_icmp_ge (tgt := 113) dX4_drive_71 (by decide) (fun h71 => absurd h71 (by rw [hn]; exact nI_ge (by omega) (by omega))) (fun h71 => ?_)
      refine aE_aload_n dX4_drive_74 rfl rfl ?_
      refine aE_getf (v := .ref 91) dX4_drive_75 fw_X4_9 (lt_nn (by decide)) rfl rfl ?_
      refine aE_iload dX4_drive_78 rfl ?_
      refine aE_ildM dX4_drive_80 (lt_nn (by decide)) rfl (by decide) rfl (by omega) ?_
      refine aE_top (hrow r hrn) ?_
      refine aE_aload_n dX4_drive_81 rfl rfl ?_
      refine aE_aload_n dX4_drive_82 rfl rfl ?_
      refine aE_getf (v := .ref 55) dX4_drive_83 fw_X4_42 (lt_nn (by decide)) rfl rfl ?_
      refine aE_iload dX4_drive_86 rfl ?_
      refine aE_ildM dX4_drive_88 (lt_nn (by decide)) rfl (by decide) rfl (by omega) ?_
      refine aE_top i4 ?_
      refine aE_cVi dX4_drive_89 lk_X4_45 mv_X0_rings (c_rings s hs4) rfl (lt_nn (by decide)) rfl rfl ⟨by decide, by decide⟩ (Nat.le_of_ble_eq_true rfl) ⟨rfl, rfl⟩ ⟨by decide, by decide⟩ ?_
      refine aE_icmp_le (tgt := 107) dX4_drive_92 (by decide) (fun h92 => ?_) (fun h92 => absurd (Int32.not_lt.mp hl) h92)
      refine aE_iinc dX4_drive_107 rfl (a_inc _) (by decide) rfl (aE_loc (ls' := [_, _, _, _, _, _, _, _, _]) rfl ?_)
      refine aE_goto (tgt := 65) dX4_drive_110 (by decide) ?_
      exact ih2
theorem c_drive (hW : CW I sp ns nstr nc d cs fr to) (hA : AlOK d cs al ns) (hP : PCs I ns d cs al) (hR : FlR I (RI d cs al ns)) (hn : I 54 1 = nI (RR d cs al ns).length) (f : Nat → Nat → Bool) (hch : ChC I f (RR d cs al ns).length) (dp : Nat → Nat) (hdp : dpOK (nxG f (RR d cs al ns).length) (RR d cs al ns).length dp) (hdn : ∀ r, r < (RR d cs al ns).length → dp r < (RR d cs al ns).length) (route late snow : Int32) (hsn : ∀ s, s < nstr → 0 ≤ (I 5 s + snow).toInt) (C : Nat → Int32) (hQ : ∀ J, (∀ q i, q ≠ 91 → ¬ (q = 90 ∧ i = 0) → ¬ (17 ≤ q ∧ q < 25) → J q i = I q i) → J 90 0 = nI (RR d cs al ns).length → (∀ r, r < (RR d cs al ns).length → J 91 r = (drA (mpM d cs (RR d cs al ns) (dTab fr to (I 5) (I 6) snow nstr) (fun s => I 26 s) d.2.2.2.1 route late) (nxG f (RR d cs al ns).length) (fun r => isF (nxG f (RR d cs al ns).length) r (RR d cs al ns).length) (RR d cs al ns).length (RR d cs al ns).length (C, 0)).1 r) → qi Q (drA (mpM d cs (RR d cs al ns) (dTab fr to (I 5) (I 6) snow nstr) (fun s => I 26 s) d.2.2.2.1 route late) (nxG f (RR d cs al ns).length) (fun r => isF (nxG f (RR d cs al ns).length) r (RR d cs al ns).length) (RR d cs al ns).length (RR d cs al ns).length (C, 0)).2 J sp pl) : aRuns mX4_drive (rK 4) [.ref 90, .ref 1, .ref 54, .int route, .int late, .int snow] (nn pl) (MM I sp pl) Q := by
  have hA10 := hA.2.1
  have h8 := hW.2.1.2
  have hp := pow10' hA10
  have htk := tkG_lt f (RR d cs al ns).length (RR d cs al ns).length
  have hCH := CHN_G hdp hdn
  have hfir : (fun r => isF (nxG f (RR d cs al ns).length) r (RR d cs al ns).length) = (fun r => !(tkG f (RR d cs al ns).length (RR d cs al ns).length).testBit r) := funext fun r => isF_tk
  have hC1 := drA_C (p := mpM d cs (RR d cs al ns) (dTab fr to (I 5) (I 6) snow nstr) (fun s => I 26 s) d.2.2.2.1 route late) hCH (fun r => I 91 r) C
  have hS1 := drA_sum (p := mpM d cs (RR d cs al ns) (dTab fr to (I 5) (I 6) snow nstr) (fun s => I 26 s) d.2.2.2.1 route late) hCH C
  refine aRuns_of pn_X4_drive (Nat.le_of_ble_eq_true rfl) (fun z => aE_loc (ls' := [_, _, _, _, _, _, _, _, _]) rfl ?_)
  refine aE_aload_n dX4_drive_0 rfl rfl ?_
  refine aE_getf (v := .ref 2) dX4_drive_1 fw_X4_15 (lt_nn (by decide)) rfl rfl ?_
  refine aE_iload dX4_drive_4 rfl ?_
  refine aE_cVr dX4_drive_6 lk_X4_21 mv_X10_tableWith (c_tableWith nc snow hW.2.1.1 h8 nstr fr to hW.2.2.1.1 hW.2.2.1.2 hW.2.2.2.1 (fun s hs => ⟨(hW.2.2.2.2.1 s hs).1, hsn s hs, (hW.2.2.2.2.1 s hs).2.2⟩)) rfl (lt_nn (by decide)) rfl rfl ⟨by decide, by decide⟩ (Nat.le_of_ble_eq_true rfl) ⟨rfl, rfl⟩ ⟨by decide, by decide⟩ ?_
  have hT : ∀ a b, a < nc → b < nc → putT I 17 nc (dTab fr to (I 5) (I 6) snow nstr) (17 + a) b = dTab fr to (I 5) (I 6) snow nstr a b := fun a b ha hb => putT_at ha (by omega)
  have ho : ∀ q i, ¬ (17 ≤ q ∧ q < 25) → putT I 17 nc (dTab fr to (I 5) (I 6) snow nstr) q i = I q i := fun q i h => putT_o (by omega)
  generalize putT I 17 nc (dTab fr to (I 5) (I 6) snow nstr) = I2 at *
  generalize dTab fr to (I 5) (I 6) snow nstr = D at *
  refine aE_astore dX4_drive_9 (by decide) rfl (aE_loc (ls' := [_, _, _, _, _, _, _, _, _]) rfl ?_)
  refine aE_iconst (v := 0) dX4_drive_11 rfl ?_
  refine aE_istore dX4_drive_12 (by decide) rfl (aE_loc (ls' := [_, _, _, _, _, _, _, _, _]) rfl ?_)
  refine aE_aload_n dX4_drive_14 rfl rfl ?_
  refine aE_aload_n dX4_drive_15 rfl rfl ?_
  refine aE_geti dX4_drive_16 fw_X4_27 (lt_nn (by decide)) rfl (by decide) rfl ?_
  refine aE_top ((ho 54 1 (by omega)).trans hn) ?_
  refine aE_puti dX4_drive_19 fp_X4_33 (Or.inl rfl) (lt_nn (by decide)) rfl (fun _ => ⟨rfl, rfl⟩) (by decide) rfl ?_
  refine aE_iconst (v := 0) dX4_drive_22 rfl ?_
  refine aE_istore dX4_drive_23 (by decide) rfl (aE_loc (ls' := [_, _, _, _, _, _, _, _, _]) rfl ?_)
  have u : ∀ q i, ¬ (q = 90 ∧ i = 0) → ¬ (17 ≤ q ∧ q < 25) → iu I2 90 0 (nI (RR d cs al ns).length) q i = I q i := fun q i a b => (iu_ne (by omega)).trans (ho q i b)
  have e26 : (fun s => iu I2 90 0 (nI (RR d cs al ns).length) 26 s) = (fun s => I 26 s) := funext fun s => u 26 s (by omega) (by omega)
  have hW2 : CW (iu I2 90 0 (nI (RR d cs al ns).length)) sp ns nstr nc d cs fr to := CW_fr2 hW (fun q i h => u q i (by omega) (by omega)) (fun hm a b ha hb => by
    rw [u 2 8 (by omega) (by omega)] at hm
    rw [u _ _ (by omega) (by omega)]
    exact hW.2.2.2.2.2.2.2.2.2.2.2 hm a b ha hb)
  have hP2 : PCs (iu I2 90 0 (nI (RR d cs al ns).length)) ns d cs al := PCs_fr hW.1.2 hP (fun q i h => u q i (by omega) (by omega))
  have hR2 : FlR (iu I2 90 0 (nI (RR d cs al ns).length)) (RI d cs al ns) := fun r s i hr => ⟨(u _ _ (by omega) (by omega)).trans (hR r s i hr).1, (u _ _ (by omega) (by omega)).trans (hR r s i hr).2⟩
  have hT2 : ∀ a b, a < nc → b < nc → iu I2 90 0 (nI (RR d cs al ns).length) (17 + a) b = D a b := fun a b ha hb => (iu_ne (by omega)).trans (hT a b ha hb)
  refine l_drv1 hA D route late (nxG f (RR d cs al ns).length) (fun a b ha hn => (nxG_some hn).1) (iu I2 90 0 (nI (RR d cs al ns).length)) hW2 hP2 hR2 hT2 iu_eq (fun a ha => (u 56 a (by omega) (by omega)).trans (hch.1 a ha)) snow (tkG f (RR d cs al ns).length (RR d cs al ns).length) ((u 54 8 (by omega) (by omega)).trans hch.2) (by omega) (fun r => (drA (mpM d cs (RR d cs al ns) D (fun s => I 26 s) d.2.2.2.1 route late) (nxG f (RR d cs al ns).length) (fun r => isF (nxG f (RR d cs al ns).length) r (RR d cs al ns).length) (RR d cs al ns).length (RR d cs al ns).length (fun r => I 91 r, 0)).1 r) (fun J l8 j1 j2 => ?_) (RR d cs al ns).length 0 ((fun r => I 91 r), 0) _ (by omega) (fun _ _ _ => rfl) (fun r hr => u 91 r (by omega) (by omega)) (fun r => by rw [e26, hfir])
  have e26b : (fun s => J 26 s) = (fun s => I 26 s) := funext fun s => (j1 26 s (by omega)).trans (u 26 s (by omega) (by omega))
  have hW3 : CW J sp ns nstr nc d cs fr to := CW_fr2 hW2 (fun q i h => j1 q i (by omega)) (fun hm a b ha hb => by
    rw [j1 2 8 (by omega)] at hm
    rw [j1 _ _ (by omega)]
    exact hW2.2.2.2.2.2.2.2.2.2.2.2 hm a b ha hb)
  have j3 : ∀ r, r < (RR d cs al ns).length → J 91 r = (drA (mpM d cs (RR d cs al ns) D (fun s => I 26 s) d.2.2.2.1 route late) (nxG f (RR d cs al ns).length) (fun r => isF (nxG f (RR d cs al ns).length) r (RR d cs al ns).length) (RR d cs al ns).length (RR d cs al ns).length (C, 0)).1 r := fun r hr => (j2 r hr).trans (hC1 r hr)
  have k2 := l_drv2 (z := z) (Q := Q) (pl := pl) (I := J) hA D route late (nxG f (RR d cs al ns).length) (fun a b ha hn => (nxG_some hn).1) hW3 (PCs_fr hW.1.2 hP2 (fun q i h => j1 q i (by omega))) (fun r s i hr => ⟨(j1 _ _ (by omega)).trans (hR2 r s i hr).1, (j1 _ _ (by omega)).trans (hR2 r s i hr).2⟩) (fun a b ha hb => (j1 _ _ (by omega)).trans (hT2 a b ha hb)) ((j1 90 0 (by omega)).trans iu_eq) (fun a ha => (j1 56 a (by omega)).trans ((u 56 a (by omega) (by omega)).trans (hch.1 a ha))) snow _ j3 (by
    rw [e26b, ← hS1]
    exact hQ J (fun q i a b c => (j1 q i a).trans (u q i b c)) ((j1 90 0 (by omega)).trans iu_eq) j3) (RR d cs al ns).length 0 (by omega)
  refine aE_iconst (v := 0) dX4_drive_62 rfl ?_
  refine aE_istore dX4_drive_63 (by decide) rfl (aE_loc (ls' := [_, _, _, _, _, _, _, _, _]) rfl ?_)
  exact k2
end CMORN
