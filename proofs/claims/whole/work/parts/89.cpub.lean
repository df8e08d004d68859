section CPUB
variable {z : Nat × (Nat → Int32)} {n : Nat} {mem : aM} {I : Nat → Nat → Int32} {sp : Nat → Nat} {pl : Bool} {Q : Option Value → Nat → aM → Prop} {R : Room}variable {ns nstr nc : Nat} {d : pD} {cs : Nat → pC} {fr to : Nat → Nat} {al : Nat → Nat}

theorem c_stopsIn (hW : CW I sp ns nstr nc d cs fr to) (hA : AlOK d cs al ns) (hP : PCs I ns d cs al) (s i S : Nat) (hs : s < ns) (hi : (RLs d (cs s) (al s))[i]? = some S) : aRuns mX7_stopsIn (rK 0) [.ref (28 + 4 * s), .int (nI i)] (nn pl) (MM I sp pl) (a_ri (nI (cdB S 10)) (nn pl) (MM I sp pl)) := by
  have h10 := hW.2.2.2.2.2.2.1.2
  have h8 := hW.2.1.2
  have hs4 : s < 4 := by have := hW.1.2; omega
  have hsp := hW.2.2.2.2.2.2.2.1
  have hstop := hW.2.2.2.2.2.2.2.2.1
  have hRow := (hP s hs).2
  have hbl := bgn_le (hA.1 s) hi
  have hil := (List.getElem?_eq_some_iff.mp hi).1
  have hcd := RLs_card (d := d) (c := cs s) (hA.1 s)
  have hcb := cdB_bound (al s) 10
  have hbs := bgn_s _ _ hi
  have hS : bdiff S (al s) = 0 ∧ rS d (cs s) S = true ∧ S ≠ 0 := by
    unfold RLs at hi
    split at hi
    · rename_i hq
      exact rtL_mem 10 (al s) S (hA.1 s) hq (List.mem_of_getElem? hi)
    · simp at hi
  have hSb : ∀ g, S.testBit g = true → g < d.1 := fun g hg => hA.2.2 s g (bsub_tb hS.1 hg)
  refine aRuns_of pn_X7_stopsIn (Nat.le_of_ble_eq_true rfl) (fun z => aE_loc (ls' := [_, _]) rfl ?_)
  refine aE_aload_n dX7_stopsIn_0 rfl rfl ?_
  refine aE_getf dX7_stopsIn_1 fw_X7_9 (lt_nn (by omega)) (sh_sch hs4) (mm_beg hs4) ?_
  refine aE_iload_n dX7_stopsIn_4 rfl rfl ?_
  refine aE_iconst (v := 1) dX7_stopsIn_5 rfl ?_
  refine aE_iadd dX7_stopsIn_6 ?_
  refine aE_top (nI_1 _) ?_
  refine aE_ildM dX7_stopsIn_7 (lt_nn (by omega)) (sh_beg hs4) (by decide) rfl (by omega) ?_
  refine aE_top (hRow.2.1 (i + 1) (by omega)) ?_
  refine aE_aload_n dX7_stopsIn_8 rfl rfl ?_
  refine aE_getf dX7_stopsIn_9 fw_X7_9 (lt_nn (by omega)) (sh_sch hs4) (mm_beg hs4) ?_
  refine aE_iload_n dX7_stopsIn_12 rfl rfl ?_
  refine aE_ildM dX7_stopsIn_13 (lt_nn (by omega)) (sh_beg hs4) (by decide) rfl (by omega) ?_
  refine aE_top (hRow.2.1 i (by omega)) ?_
  refine aE_isub dX7_stopsIn_14 ?_
  refine aE_top (x' := nI (cdB S 10)) (by rw [hbs, ← nI_add, Int32.add_comm, Int32.add_sub_cancel]) ?_
  refine aE_iret dX7_stopsIn_15 rfl ⟨by decide, by decide⟩ ?_
  exact ⟨rfl, rfl, rfl⟩
theorem l_minF (hW : CW I sp ns nstr nc d cs fr to) (hA : AlOK d cs al ns) (hP : PCs I ns d cs al) (s i S : Nat) (hs : s < ns) (hi : (RLs d (cs s) (al s))[i]? = some S) (tb bs : Nat) (htb : tbOK tb bs) (D : tT) (hT : ∀ a b, a < nc → b < nc → I (bs + a) b = D a b) (k0 : Nat) (hQ : qi Q (swA D d (cs s) S (cdB S 10) - swA D d (cs s) S k0) I sp pl) : ∀ (m k : Nat), k + m = cdB S 10 → ∀ (l8 l9 : Option Value), aE z mX0_minutesFrom (rK 0) Q 16 [some (.ref 1), some (.ref (28 + 4 * s)), some (.int (nI i)), some (.int (nI ((bgn (RLs d (cs s) (al s)) i) + k0))), some (.ref tb), some (.int (nI (bgn (RLs d (cs s) (al s)) (i + 1)))), some (.int (swA D d (cs s) S k - swA D d (cs s) S k0)), some (.int (nI ((bgn (RLs d (cs s) (al s)) i) + k))), l8, l9] [] (nn pl) (MM I sp pl) 0 0 := by
  have h10 := hW.2.2.2.2.2.2.1.2
  have h8 := hW.2.1.2
  have hs4 : s < 4 := by have := hW.1.2; omega
  have hsp := hW.2.2.2.2.2.2.2.1
  have hstop := hW.2.2.2.2.2.2.2.2.1
  have hRow := (hP s hs).2
  have hbl := bgn_le (hA.1 s) hi
  have hil := (List.getElem?_eq_some_iff.mp hi).1
  have hcd := RLs_card (d := d) (c := cs s) (hA.1 s)
  have hcb := cdB_bound (al s) 10
  have hbs := bgn_s _ _ hi
  have hS : bdiff S (al s) = 0 ∧ rS d (cs s) S = true ∧ S ≠ 0 := by
    unfold RLs at hi
    split at hi
    · rename_i hq
      exact rtL_mem 10 (al s) S (hA.1 s) hq (List.mem_of_getElem? hi)
    · simp at hi
  have hSb : ∀ g, S.testBit g = true → g < d.1 := fun g hg => hA.2.2 s g (bsub_tb hS.1 hg)
  have hor : ∀ k g, (oS d (cs s) S k).2 = some g → I (30 + 4 * s) ((bgn (RLs d (cs s) (al s)) i) + k) = nI g := fun k g h => (hRow.2.2 i S hi).2 k g h
  have hcor := hW.2.2.2.2.2.2.2.2.2.2.1 s hs
  intro m
  induction m with
  | zero =>
    intro k hk l8 l9
    have hk : k = cdB S 10 := by omega
    subst hk
    refine aE_iload dX0_minutesFrom_16 rfl ?_
    refine aE_iload dX0_minutesFrom_18 rfl ?_
    refine aE_icmp_ge (tgt := 96) dX0_minutesFrom_20 (by decide) (fun h20 => ?_) (fun h20 => absurd (by rw [hbs]; exact Int32.le_refl _) h20)
    refine aE_iload dX0_minutesFrom_96 rfl ?_
    refine aE_iret dX0_minutesFrom_98 rfl ⟨by decide, by decide⟩ ?_
    exact hQ
  | succ m ih =>
    intro k hk l8 l9
    obtain ⟨g, hg⟩ := oS_ex (c := cs s) (k := k) h10 hSb (by omega)
    have hgl := (oS_lt h10 hg).2.2
    obtain ⟨g1, g2, -, -⟩ := hstop g hgl
    have hsw := swA_s D d (cs s) S k
    have ih2 := ih (k + 1) (by omega)
    rw [hg] at hsw
    dsimp only at hsw
    have hz : ∀ a b w : Int32, (a - b) + w = (a + w) - b := by intro a b w; grind
    by_cases hl : k + 1 < cdB S 10
    · obtain ⟨g', hg'⟩ := oS_ex (c := cs s) (k := k + 1) h10 hSb hl
      have hgl' := (oS_lt h10 hg').2.2
      obtain ⟨g3, g4, -, -⟩ := hstop g' hgl'
      rw [hg'] at hsw
      dsimp only at hsw
      rw [hsw, ← hz] at ih2
      have hor2 : I (30 + 4 * s) ((bgn (RLs d (cs s) (al s)) i) + k + 1) = nI g' := hor (k + 1) g' hg'
      refine aE_iload dX0_minutesFrom_16 rfl ?_
      refine aE_iload dX0_minutesFrom_18 rfl ?_
      refine aE_icmp_ge (tgt := 96) dX0_minutesFrom_20 (by decide) (fun h20 => absurd h20 (nI_ge (by omega) (by omega))) (fun h20 => ?_)
      refine aE_aload_n dX0_minutesFrom_23 rfl rfl ?_
      refine aE_getf (v := .ref 27) dX0_minutesFrom_24 fw_X0_30 (lt_nn (by decide)) rfl rfl ?_
      refine aE_aload_n dX0_minutesFrom_27 rfl rfl ?_
      refine aE_getf dX0_minutesFrom_28 fw_X0_84 (lt_nn (by omega)) (sh_sch hs4) (mm_ord hs4) ?_
      refine aE_iload dX0_minutesFrom_31 rfl ?_
      refine aE_ildM dX0_minutesFrom_33 (lt_nn (by omega)) (sh_ord hs4) (by decide) rfl (by omega) ?_
      refine aE_top (hor k g hg) ?_
      refine aE_aald (t := 103) dX0_minutesFrom_34 (lt_nn (by decide)) ⟨by decide, by decide⟩ rfl (by decide) rfl (show g < 10 by omega) mm_stop ?_
      refine aE_geti dX0_minutesFrom_35 fw_X0_65 (lt_nn (by have := (hsp g (by omega)); omega)) (sh_stop (hsp g (by omega))) (mc_stop (i := 1) (hsp g (by omega))).1 (mc_stop (i := 1) (hsp g (by omega))).2 ?_
      refine aE_top g2 ?_
      refine aE_istore dX0_minutesFrom_38 (by decide) rfl (aE_loc (ls' := [_, _, _, _, _, _, _, _, _, _]) rfl ?_)
      refine aE_iload dX0_minutesFrom_40 rfl ?_
      refine aE_iconst (v := 1) dX0_minutesFrom_42 rfl ?_
      refine aE_iadd dX0_minutesFrom_43 ?_
      refine aE_top (nI_1 _) ?_
      refine aE_iload dX0_minutesFrom_44 rfl ?_
      refine aE_icmp_ge (tgt := 69) dX0_minutesFrom_46 (by decide) (fun h46 => absurd h46 (nI_ge (by omega) (by omega))) (fun h46 => ?_)
      refine aE_aload_n dX0_minutesFrom_49 rfl rfl ?_
      refine aE_getf (v := .ref 27) dX0_minutesFrom_50 fw_X0_30 (lt_nn (by decide)) rfl rfl ?_
      refine aE_aload_n dX0_minutesFrom_53 rfl rfl ?_
      refine aE_getf dX0_minutesFrom_54 fw_X0_84 (lt_nn (by omega)) (sh_sch hs4) (mm_ord hs4) ?_
      refine aE_iload dX0_minutesFrom_57 rfl ?_
      refine aE_iconst (v := 1) dX0_minutesFrom_59 rfl ?_
      refine aE_iadd dX0_minutesFrom_60 ?_
      refine aE_top (nI_1 _) ?_
      refine aE_ildM dX0_minutesFrom_61 (lt_nn (by omega)) (sh_ord hs4) (by decide) rfl (by omega) ?_
      refine aE_top hor2 ?_
      refine aE_aald (t := 103) dX0_minutesFrom_62 (lt_nn (by decide)) ⟨by decide, by decide⟩ rfl (by decide) rfl (show g' < 10 by omega) mm_stop ?_
      refine aE_geti dX0_minutesFrom_63 fw_X0_65 (lt_nn (by have := (hsp g' (by omega)); omega)) (sh_stop (hsp g' (by omega))) (mc_stop (i := 1) (hsp g' (by omega))).1 (mc_stop (i := 1) (hsp g' (by omega))).2 ?_
      refine aE_top g4 ?_
      refine aE_goto (tgt := 73) dX0_minutesFrom_66 (by decide) ?_
      refine aE_istore dX0_minutesFrom_73 (by decide) rfl (aE_loc (ls' := [_, _, _, _, _, _, _, _, _, _]) rfl ?_)
      refine aE_iload dX0_minutesFrom_75 rfl ?_
      refine aE_iconst (v := 1) dX0_minutesFrom_77 rfl ?_
      refine aE_aload dX0_minutesFrom_78 rfl ?_
      refine aE_iload dX0_minutesFrom_80 rfl ?_
      refine aE_aald (t := 105) dX0_minutesFrom_82 (tb_lt htb) ⟨by decide, by decide⟩ (sh_tb htb) (by decide) rfl (show d.2.1 g < 8 by omega) (mm_tb htb (show d.2.1 g < 8 by omega)) ?_
      refine aE_iload dX0_minutesFrom_83 rfl ?_
      refine aE_ildM dX0_minutesFrom_85 (trow_lt htb (show d.2.1 g < 8 by omega)) (sh_trow htb (show d.2.1 g < 8 by omega)) (by decide) rfl (by omega) ?_
      refine aE_top (hT _ _ g1 g3) ?_
      refine aE_iadd dX0_minutesFrom_86 ?_
      refine aE_iadd dX0_minutesFrom_87 ?_
      refine aE_istore dX0_minutesFrom_88 (by decide) rfl (aE_loc (ls' := [_, _, _, _, _, _, _, _, _, _]) rfl ?_)
      refine aE_iinc dX0_minutesFrom_90 rfl (a_inc _) (by decide) rfl (aE_loc (ls' := [_, _, _, _, _, _, _, _, _, _]) rfl ?_)
      refine aE_goto (tgt := 16) dX0_minutesFrom_93 (by decide) ?_
      exact ih2 _ _
    · have hn := oS_none (c := cs s) (S := S) (k := k + 1) h10 (by omega)
      rw [hn] at hsw
      dsimp only at hsw
      rw [hsw, ← hz] at ih2
      refine aE_iload dX0_minutesFrom_16 rfl ?_
      refine aE_iload dX0_minutesFrom_18 rfl ?_
      refine aE_icmp_ge (tgt := 96) dX0_minutesFrom_20 (by decide) (fun h20 => absurd h20 (nI_ge (by omega) (by omega))) (fun h20 => ?_)
      refine aE_aload_n dX0_minutesFrom_23 rfl rfl ?_
      refine aE_getf (v := .ref 27) dX0_minutesFrom_24 fw_X0_30 (lt_nn (by decide)) rfl rfl ?_
      refine aE_aload_n dX0_minutesFrom_27 rfl rfl ?_
      refine aE_getf dX0_minutesFrom_28 fw_X0_84 (lt_nn (by omega)) (sh_sch hs4) (mm_ord hs4) ?_
      refine aE_iload dX0_minutesFrom_31 rfl ?_
      refine aE_ildM dX0_minutesFrom_33 (lt_nn (by omega)) (sh_ord hs4) (by decide) rfl (by omega) ?_
      refine aE_top (hor k g hg) ?_
      refine aE_aald (t := 103) dX0_minutesFrom_34 (lt_nn (by decide)) ⟨by decide, by decide⟩ rfl (by decide) rfl (show g < 10 by omega) mm_stop ?_
      refine aE_geti dX0_minutesFrom_35 fw_X0_65 (lt_nn (by have := (hsp g (by omega)); omega)) (sh_stop (hsp g (by omega))) (mc_stop (i := 1) (hsp g (by omega))).1 (mc_stop (i := 1) (hsp g (by omega))).2 ?_
      refine aE_top g2 ?_
      refine aE_istore dX0_minutesFrom_38 (by decide) rfl (aE_loc (ls' := [_, _, _, _, _, _, _, _, _, _]) rfl ?_)
      refine aE_iload dX0_minutesFrom_40 rfl ?_
      refine aE_iconst (v := 1) dX0_minutesFrom_42 rfl ?_
      refine aE_iadd dX0_minutesFrom_43 ?_
      refine aE_top (nI_1 _) ?_
      refine aE_iload dX0_minutesFrom_44 rfl ?_
      refine aE_icmp_ge (tgt := 69) dX0_minutesFrom_46 (by decide) (fun h46 => ?_) (fun h46 => absurd (by rw [hbs, show bgn (RLs d (cs s) (al s)) i + k + 1 = bgn (RLs d (cs s) (al s)) i + cdB S 10 by omega]; exact Int32.le_refl _) h46)
      refine aE_aload_n dX0_minutesFrom_69 rfl rfl ?_
      refine aE_geti dX0_minutesFrom_70 fw_X0_56 (lt_nn (by omega)) (sh_sch hs4) (mc_sch (i := 1) hs4 (by decide)).1 (mc_sch (i := 1) hs4 (by decide)).2 ?_
      refine aE_top hcor.2.1 ?_
      refine aE_istore dX0_minutesFrom_73 (by decide) rfl (aE_loc (ls' := [_, _, _, _, _, _, _, _, _, _]) rfl ?_)
      refine aE_iload dX0_minutesFrom_75 rfl ?_
      refine aE_iconst (v := 1) dX0_minutesFrom_77 rfl ?_
      refine aE_aload dX0_minutesFrom_78 rfl ?_
      refine aE_iload dX0_minutesFrom_80 rfl ?_
      refine aE_aald (t := 105) dX0_minutesFrom_82 (tb_lt htb) ⟨by decide, by decide⟩ (sh_tb htb) (by decide) rfl (show d.2.1 g < 8 by omega) (mm_tb htb (show d.2.1 g < 8 by omega)) ?_
      refine aE_iload dX0_minutesFrom_83 rfl ?_
      refine aE_ildM dX0_minutesFrom_85 (trow_lt htb (show d.2.1 g < 8 by omega)) (sh_trow htb (show d.2.1 g < 8 by omega)) (by decide) rfl (by have := hcor.1; omega) ?_
      refine aE_top (hT _ _ g1 hcor.1) ?_
      refine aE_iadd dX0_minutesFrom_86 ?_
      refine aE_iadd dX0_minutesFrom_87 ?_
      refine aE_istore dX0_minutesFrom_88 (by decide) rfl (aE_loc (ls' := [_, _, _, _, _, _, _, _, _, _]) rfl ?_)
      refine aE_iinc dX0_minutesFrom_90 rfl (a_inc _) (by decide) rfl (aE_loc (ls' := [_, _, _, _, _, _, _, _, _, _]) rfl ?_)
      refine aE_goto (tgt := 16) dX0_minutesFrom_93 (by decide) ?_
      exact ih2 _ _
theorem c_minutesFrom (hW : CW I sp ns nstr nc d cs fr to) (hA : AlOK d cs al ns) (hP : PCs I ns d cs al) (s i S : Nat) (hs : s < ns) (hi : (RLs d (cs s) (al s))[i]? = some S) (tb bs : Nat) (htb : tbOK tb bs) (D : tT) (hT : ∀ a b, a < nc → b < nc → I (bs + a) b = D a b) (k0 : Nat) (hk0 : k0 ≤ cdB S 10) : aRuns mX0_minutesFrom (rK 0) [.ref 1, .ref (28 + 4 * s), .int (nI i), .int (nI ((bgn (RLs d (cs s) (al s)) i) + k0)), .ref tb] (nn pl) (MM I sp pl) (a_ri (swA D d (cs s) S (cdB S 10) - swA D d (cs s) S k0) (nn pl) (MM I sp pl)) := by
  have h10 := hW.2.2.2.2.2.2.1.2
  have h8 := hW.2.1.2
  have hs4 : s < 4 := by have := hW.1.2; omega
  have hsp := hW.2.2.2.2.2.2.2.1
  have hstop := hW.2.2.2.2.2.2.2.2.1
  have hRow := (hP s hs).2
  have hbl := bgn_le (hA.1 s) hi
  have hil := (List.getElem?_eq_some_iff.mp hi).1
  have hcd := RLs_card (d := d) (c := cs s) (hA.1 s)
  have hcb := cdB_bound (al s) 10
  have hbs := bgn_s _ _ hi
  have hS : bdiff S (al s) = 0 ∧ rS d (cs s) S = true ∧ S ≠ 0 := by
    unfold RLs at hi
    split at hi
    · rename_i hq
      exact rtL_mem 10 (al s) S (hA.1 s) hq (List.mem_of_getElem? hi)
    · simp at hi
  have hSb : ∀ g, S.testBit g = true → g < d.1 := fun g hg => hA.2.2 s g (bsub_tb hS.1 hg)
  refine aRuns_of pn_X0_minutesFrom (Nat.le_of_ble_eq_true rfl) (fun z => aE_loc (ls' := [_, _, _, _, _, _, _, _, _, _]) rfl ?_)
  refine aE_aload_n dX0_minutesFrom_0 rfl rfl ?_
  refine aE_getf dX0_minutesFrom_1 fw_X0_81 (lt_nn (by omega)) (sh_sch hs4) (mm_beg hs4) ?_
  refine aE_iload_n dX0_minutesFrom_4 rfl rfl ?_
  refine aE_iconst (v := 1) dX0_minutesFrom_5 rfl ?_
  refine aE_iadd dX0_minutesFrom_6 ?_
  refine aE_top (nI_1 _) ?_
  refine aE_ildM dX0_minutesFrom_7 (lt_nn (by omega)) (sh_beg hs4) (by decide) rfl (by omega) ?_
  refine aE_top (hRow.2.1 (i + 1) (by omega)) ?_
  refine aE_istore dX0_minutesFrom_8 (by decide) rfl (aE_loc (ls' := [_, _, _, _, _, _, _, _, _, _]) rfl ?_)
  refine aE_iconst (v := 0) dX0_minutesFrom_10 rfl ?_
  refine aE_istore dX0_minutesFrom_11 (by decide) rfl (aE_loc (ls' := [_, _, _, _, _, _, _, _, _, _]) rfl ?_)
  refine aE_iload_n dX0_minutesFrom_13 rfl rfl ?_
  refine aE_istore dX0_minutesFrom_14 (by decide) rfl (aE_loc (ls' := [_, _, _, _, _, _, _, _, _, _]) rfl ?_)
  have h := l_minF (Q := a_ri (swA D d (cs s) S (cdB S 10) - swA D d (cs s) S k0) (nn pl) (MM I sp pl)) (z := z) hW hA hP s i S hs hi tb bs htb D hT k0 ⟨rfl, rfl, rfl⟩ (cdB S 10 - k0) k0 (by omega)
  rw [Int32.sub_self] at h
  exact h _ _
theorem l_rideP {v : Int32} (hW : CW I sp ns nstr nc d cs fr to) (hA : AlOK d cs al ns) (hP : PCs I ns d cs al) (s t : Nat) (hs : s < ns) (ht : t < d.1) (i S : Nat) (hi : (RLs d (cs s) (al s))[i]? = some S) (k1 : ¬ S.testBit t = true → ∀ l4, aE z mX0_rideOf (rK 3) Q 79 [some (.ref 1), some (.int (nI t)), some (.ref (28 + 4 * s)), some (.int (nI i)), l4] [] (nn pl) (MM I sp pl) 0 0) (hQ : ∀ J, (∀ q w, ¬ (8 ≤ q ∧ q < 16) → ¬ (q = 2 ∧ w = 8) → J q w = I q w) → CW J sp ns nstr nc d cs fr to → qi Q v J sp pl) (hv : S.testBit t = true → v = rideP d (cs s) t 10 S none) : ∀ (m k : Nat), k + m = cdB S 10 → (∀ k', k' < k → (oS d (cs s) S k').2 ≠ some t) → aE z mX0_rideOf (rK 3) Q 33 [some (.ref 1), some (.int (nI t)), some (.ref (28 + 4 * s)), some (.int (nI i)), some (.int (nI ((bgn (RLs d (cs s) (al s)) i) + k)))] [] (nn pl) (MM I sp pl) 0 0 := by
  have h10 := hW.2.2.2.2.2.2.1.2
  have h8 := hW.2.1.2
  have hs4 : s < 4 := by have := hW.1.2; omega
  have hsp := hW.2.2.2.2.2.2.2.1
  have hstop := hW.2.2.2.2.2.2.2.2.1
  have hRow := (hP s hs).2
  have hbl := bgn_le (hA.1 s) hi
  have hil := (List.getElem?_eq_some_iff.mp hi).1
  have hcd := RLs_card (d := d) (c := cs s) (hA.1 s)
  have hcb := cdB_bound (al s) 10
  have hbs := bgn_s _ _ hi
  have hS : bdiff S (al s) = 0 ∧ rS d (cs s) S = true ∧ S ≠ 0 := by
    unfold RLs at hi
    split at hi
    · rename_i hq
      exact rtL_mem 10 (al s) S (hA.1 s) hq (List.mem_of_getElem? hi)
    · simp at hi
  have hSb : ∀ g, S.testBit g = true → g < d.1 := fun g hg => hA.2.2 s g (bsub_tb hS.1 hg)
  have hor : ∀ k g, (oS d (cs s) S k).2 = some g → I (30 + 4 * s) ((bgn (RLs d (cs s) (al s)) i) + k) = nI g := fun k g h => (hRow.2.2 i S hi).2 k g h
  have hd := CW_d01 hW
  intro m
  induction m with
  | zero =>
    intro k hk hno
    have hk : k = cdB S 10 := by omega
    have hnt : ¬ S.testBit t = true := fun q => by
      obtain ⟨k', hk'⟩ := oS_has (c := cs s) h10 hSb q
      exact hno k' (by have := (oS_lt h10 hk').1; omega) hk'
    refine aE_iload dX0_rideOf_33 rfl ?_
    refine aE_aload_n dX0_rideOf_35 rfl rfl ?_
    refine aE_getf dX0_rideOf_36 fw_X0_81 (lt_nn (by omega)) (sh_sch hs4) (mm_beg hs4) ?_
    refine aE_iload_n dX0_rideOf_39 rfl rfl ?_
    refine aE_iconst (v := 1) dX0_rideOf_40 rfl ?_
    refine aE_iadd dX0_rideOf_41 ?_
    refine aE_top (nI_1 _) ?_
    refine aE_ildM dX0_rideOf_42 (lt_nn (by omega)) (sh_beg hs4) (by decide) rfl (by omega) ?_
    refine aE_top (hRow.2.1 (i + 1) (by omega)) ?_
    refine aE_icmp_ge (tgt := 79) dX0_rideOf_43 (by decide) (fun h43 => ?_) (fun h43 => absurd (by rw [hbs, hk]; exact Int32.le_refl _) h43)
    exact k1 hnt _
  | succ m ih =>
    intro k hk hno
    obtain ⟨g, hg⟩ := oS_ex (c := cs s) (k := k) h10 hSb (by omega)
    have hgl := (oS_lt h10 hg).2.2
    by_cases hgt : g = t
    · subst hgt
      have hlf : (lS d (cs s) S).toInt < 1000000 := by have := rS_le hS.2.1; have := (hW.2.2.2.2.2.2.2.2.2.2.1 s hs).2.2.2; omega
      have hWJ := CW_tabI hW
      have hT := CW_tab hW
      have hTo : ∀ q i, (q < 8 ∨ 16 ≤ q) ∧ (q ≠ 2 ∨ i ≠ 8) → tabI I nc (dTab fr to (I 5) (I 6) 0 nstr) q i = I q i := fun q i h => tabI_o h8 h
      have hans : swA d.2.2.1 d (cs s) S (cdB S 10) - swA d.2.2.1 d (cs s) S k = v := by
        rw [sw_ride hd hlf h10 hSb (cdB S 10 - k - 1) k g (by omega) hg, hv (oS_tb h10 hg)]
        have := rideP_k (S := S) (c := cs s) (t := g) h10 k 10 0 none rfl (by rw [Nat.zero_add]; exact hg) (fun i hi => by rw [Nat.zero_add]; exact hno i hi) (oS_lt h10 hg).2.1
        rw [Nat.zero_add] at this
        exact this.symm
      refine aE_iload dX0_rideOf_33 rfl ?_
      refine aE_aload_n dX0_rideOf_35 rfl rfl ?_
      refine aE_getf dX0_rideOf_36 fw_X0_81 (lt_nn (by omega)) (sh_sch hs4) (mm_beg hs4) ?_
      refine aE_iload_n dX0_rideOf_39 rfl rfl ?_
      refine aE_iconst (v := 1) dX0_rideOf_40 rfl ?_
      refine aE_iadd dX0_rideOf_41 ?_
      refine aE_top (nI_1 _) ?_
      refine aE_ildM dX0_rideOf_42 (lt_nn (by omega)) (sh_beg hs4) (by decide) rfl (by omega) ?_
      refine aE_top (hRow.2.1 (i + 1) (by omega)) ?_
      refine aE_icmp_ge (tgt := 79) dX0_rideOf_43 (by decide) (fun h43 => absurd h43 (nI_ge (by omega) (by omega))) (fun h43 => ?_)
      refine aE_aload_n dX0_rideOf_46 rfl rfl ?_
      refine aE_getf dX0_rideOf_47 fw_X0_84 (lt_nn (by omega)) (sh_sch hs4) (mm_ord hs4) ?_
      refine aE_iload dX0_rideOf_50 rfl ?_
      refine aE_ildM dX0_rideOf_52 (lt_nn (by omega)) (sh_ord hs4) (by decide) rfl (by omega) ?_
      refine aE_top (hor k g hg) ?_
      refine aE_iload_n dX0_rideOf_53 rfl rfl ?_
      refine aE_icmp_ne (tgt := 73) dX0_rideOf_54 (by decide) (fun h54 => absurd (rfl) h54) (fun h54 => ?_)
      refine aE_aload_n dX0_rideOf_57 rfl rfl ?_
      refine aE_aload_n dX0_rideOf_58 rfl rfl ?_
      refine aE_iload_n dX0_rideOf_59 rfl rfl ?_
      refine aE_iload dX0_rideOf_60 rfl ?_
      refine aE_aload_n dX0_rideOf_62 rfl rfl ?_
      refine aE_getf (v := .ref 2) dX0_rideOf_63 fw_X0_12 (lt_nn (by decide)) rfl rfl ?_
      refine aE_cVr dX0_rideOf_66 lk_X0_90 mv_X10_table (c_table nc hW.2.1.1 h8 nstr fr to hW.2.2.1.1 hW.2.2.1.2 hW.2.2.2.1 hW.2.2.2.2.1) rfl (lt_nn (by decide)) rfl rfl ⟨by decide, by decide⟩ (Nat.le_of_ble_eq_true rfl) ⟨rfl, rfl⟩ ⟨by decide, by decide⟩ ?_
      generalize tabI I nc (dTab fr to (I 5) (I 6) 0 nstr) = I2 at *
      have hP2 : PCs I2 ns d cs al := PCs_fr hW.1.2 hP (fun q i h => hTo q i (by omega))
      refine aE_cVi dX0_rideOf_69 lk_X0_94 mv_X0_minutesFrom (c_minutesFrom hWJ hA hP2 s i S hs hi 7 8 (Or.inl ⟨rfl, rfl⟩) d.2.2.1 hT k (by omega)) rfl (lt_nn (by decide)) rfl rfl ⟨by decide, by decide⟩ (Nat.le_of_ble_eq_true rfl) ⟨rfl, rfl⟩ ⟨by decide, by decide⟩ ?_
      refine aE_top hans ?_
      refine aE_iret dX0_rideOf_72 rfl ⟨by decide, by decide⟩ ?_
      exact hQ I2 (fun q w h1 h2 => hTo q w (by omega)) hWJ
    · have ih2 := ih (k + 1) (by omega) (fun k' hk' => by
        by_cases e : k' = k
        · subst e; rw [hg]; exact fun q => hgt (Option.some.inj q)
        · exact hno k' (by omega))
      refine aE_iload dX0_rideOf_33 rfl ?_
      refine aE_aload_n dX0_rideOf_35 rfl rfl ?_
      refine aE_getf dX0_rideOf_36 fw_X0_81 (lt_nn (by omega)) (sh_sch hs4) (mm_beg hs4) ?_
      refine aE_iload_n dX0_rideOf_39 rfl rfl ?_
      refine aE_iconst (v := 1) dX0_rideOf_40 rfl ?_
      refine aE_iadd dX0_rideOf_41 ?_
      refine aE_top (nI_1 _) ?_
      refine aE_ildM dX0_rideOf_42 (lt_nn (by omega)) (sh_beg hs4) (by decide) rfl (by omega) ?_
      refine aE_top (hRow.2.1 (i + 1) (by omega)) ?_
      refine aE_icmp_ge (tgt := 79) dX0_rideOf_43 (by decide) (fun h43 => absurd h43 (nI_ge (by omega) (by omega))) (fun h43 => ?_)
      refine aE_aload_n dX0_rideOf_46 rfl rfl ?_
      refine aE_getf dX0_rideOf_47 fw_X0_84 (lt_nn (by omega)) (sh_sch hs4) (mm_ord hs4) ?_
      refine aE_iload dX0_rideOf_50 rfl ?_
      refine aE_ildM dX0_rideOf_52 (lt_nn (by omega)) (sh_ord hs4) (by decide) rfl (by omega) ?_
      refine aE_top (hor k g hg) ?_
      refine aE_iload_n dX0_rideOf_53 rfl rfl ?_
      refine aE_icmp_ne (tgt := 73) dX0_rideOf_54 (by decide) (fun h54 => ?_) (fun h54 => absurd h54 (fun q => hgt ((nI_eq (by omega) (by omega)).mp q)))
      refine aE_iinc dX0_rideOf_73 rfl (a_inc _) (by decide) rfl (aE_loc (ls' := [_, _, _, _, _]) rfl ?_)
      refine aE_goto (tgt := 33) dX0_rideOf_76 (by decide) ?_
      exact ih2
theorem l_rideO {v : Int32} (hW : CW I sp ns nstr nc d cs fr to) (hA : AlOK d cs al ns) (hP : PCs I ns d cs al) (s t : Nat) (hs : s < ns) (ht : t < d.1) (hQ : ∀ J, (∀ q w, ¬ (8 ≤ q ∧ q < 16) → ¬ (q = 2 ∧ w = 8) → J q w = I q w) → CW J sp ns nstr nc d cs fr to → qi Q v J sp pl) : ∀ (n i : Nat), i + n = (RLs d (cs s) (al s)).length → v = (rideS d (cs s) t ((RLs d (cs s) (al s)).drop i)) → ∀ (l4 : Option Value), aE z mX0_rideOf (rK 3) Q 17 [some (.ref 1), some (.int (nI t)), some (.ref (28 + 4 * s)), some (.int (nI i)), l4] [] (nn pl) (MM I sp pl) 0 0 := by
  have hs4 : s < 4 := by have := hW.1.2; omega
  have hRow := (hP s hs).2
  have hcd := RLs_card (d := d) (c := cs s) (hA.1 s)
  have hcb := cdB_bound (al s) 10
  intro n
  induction n with
  | zero =>
    intro i hn hv l4
    have hn : i = (RLs d (cs s) (al s)).length := by omega
    subst hn
    rw [List.drop_length] at hv
    have hv0 : v = 0 := hv
    subst hv0
    refine aE_iload_n dX0_rideOf_17 rfl rfl ?_
    refine aE_aload_n dX0_rideOf_18 rfl rfl ?_
    refine aE_geti dX0_rideOf_19 fw_X0_87 (lt_nn (by omega)) (sh_sch hs4) (mc_sch (i := 4) hs4 (by decide)).1 (mc_sch (i := 4) hs4 (by decide)).2 ?_
    refine aE_icmp_ge (tgt := 85) dX0_rideOf_22 (by decide) (fun h22 => ?_) (fun h22 => absurd (by rw [hRow.1]; exact Int32.le_refl _) h22)
    refine aE_iconst (v := 0) dX0_rideOf_85 rfl ?_
    refine aE_iret dX0_rideOf_86 rfl ⟨by decide, by decide⟩ ?_
    exact hQ I (fun _ _ _ _ => rfl) hW
  | succ n ih =>
    intro i hn hv l4
    obtain ⟨S, hi⟩ : ∃ S, (RLs d (cs s) (al s))[i]? = some S := ⟨(RLs d (cs s) (al s))[i]'(by omega), List.getElem?_eq_getElem (by omega)⟩
    have hdr : (RLs d (cs s) (al s)).drop i = S :: (RLs d (cs s) (al s)).drop (i + 1) := by
      rw [List.drop_eq_getElem_cons (by omega)]
      congr 1
      exact Option.some.inj ((List.getElem?_eq_getElem (by omega)).symm.trans hi)
    rw [hdr] at hv
    have hv2 : v = if S.testBit t then rideP d (cs s) t 10 S none else rideS d (cs s) t ((RLs d (cs s) (al s)).drop (i + 1)) := hv
    have inner := l_rideP (z := z) hW hA hP s t hs ht i S hi (v := v) (Q := Q) (pl := pl) (fun hnt l4 => by
      rw [if_neg hnt] at hv2
      have ih2 := ih (i + 1) (by omega) hv2
      refine aE_iinc dX0_rideOf_79 rfl (a_inc _) (by decide) rfl (aE_loc (ls' := [_, _, _, _, _]) rfl ?_)
      refine aE_goto (tgt := 17) dX0_rideOf_82 (by decide) ?_
      exact ih2 _) hQ (fun h => by rw [if_pos h] at hv2; exact hv2) (cdB S 10) 0 (by omega) (fun k' hk' => absurd hk' (by omega))
    refine aE_iload_n dX0_rideOf_17 rfl rfl ?_
    refine aE_aload_n dX0_rideOf_18 rfl rfl ?_
    refine aE_geti dX0_rideOf_19 fw_X0_87 (lt_nn (by omega)) (sh_sch hs4) (mc_sch (i := 4) hs4 (by decide)).1 (mc_sch (i := 4) hs4 (by decide)).2 ?_
    refine aE_icmp_ge (tgt := 85) dX0_rideOf_22 (by decide) (fun h22 => absurd h22 (by rw [hRow.1]; exact nI_ge (by omega) (by omega))) (fun h22 => ?_)
    refine aE_aload_n dX0_rideOf_25 rfl rfl ?_
    refine aE_getf dX0_rideOf_26 fw_X0_81 (lt_nn (by omega)) (sh_sch hs4) (mm_beg hs4) ?_
    refine aE_iload_n dX0_rideOf_29 rfl rfl ?_
    refine aE_ildM dX0_rideOf_30 (lt_nn (by omega)) (sh_beg hs4) (by decide) rfl (by omega) ?_
    refine aE_top (hRow.2.1 i (by omega)) ?_
    refine aE_istore dX0_rideOf_31 (by decide) rfl (aE_loc (ls' := [_, _, _, _, _]) rfl ?_)
    exact inner
theorem c_rideOf (hW : CW I sp ns nstr nc d cs fr to) (hA : AlOK d cs al ns) (hP : PCs I ns d cs al) (s t : Nat) (hs : s < ns) (ht : t < d.1) (hsc : I (sp t) 0 = nI s) (hQ : ∀ J, (∀ q w, ¬ (8 ≤ q ∧ q < 16) → ¬ (q = 2 ∧ w = 8) → J q w = I q w) → CW J sp ns nstr nc d cs fr to → qi Q (rideS d (cs s) t (RLs d (cs s) (al s))) J sp pl) : aRuns mX0_rideOf (rK 3) [.ref 1, .int (nI t)] (nn pl) (MM I sp pl) Q := by
  have hs4 : s < 4 := by have := hW.1.2; omega
  have h10 := hW.2.2.2.2.2.2.1.2
  have hsp := hW.2.2.2.2.2.2.2.1
  refine aRuns_of pn_X0_rideOf (Nat.le_of_ble_eq_true rfl) (fun z => aE_loc (ls' := [_, _, _, _, _]) rfl ?_)
  refine aE_aload_n dX0_rideOf_0 rfl rfl ?_
  refine aE_getf (v := .ref 25) dX0_rideOf_1 fw_X0_20 (lt_nn (by decide)) rfl rfl ?_
  refine aE_aload_n dX0_rideOf_4 rfl rfl ?_
  refine aE_getf (v := .ref 27) dX0_rideOf_5 fw_X0_30 (lt_nn (by decide)) rfl rfl ?_
  refine aE_iload_n dX0_rideOf_8 rfl rfl ?_
  refine aE_aald (t := 103) dX0_rideOf_9 (lt_nn (by decide)) ⟨by decide, by decide⟩ rfl (by decide) rfl (show t < 10 by omega) mm_stop ?_
  refine aE_geti dX0_rideOf_10 fw_X0_62 (lt_nn (by have := (hsp t (by omega)); omega)) (sh_stop (hsp t (by omega))) (mc_stop (i := 0) (hsp t (by omega))).1 (mc_stop (i := 0) (hsp t (by omega))).2 ?_
  refine aE_top hsc ?_
  refine aE_aald (t := 102) dX0_rideOf_13 (lt_nn (by decide)) ⟨by decide, by decide⟩ rfl (by decide) rfl hs4 (mm_schs hs4) ?_
  refine aE_astore_n dX0_rideOf_14 rfl (by decide) rfl (aE_loc (ls' := [_, _, _, _, _]) rfl ?_)
  refine aE_iconst (v := 0) dX0_rideOf_15 rfl ?_
  refine aE_istore_n dX0_rideOf_16 rfl (by decide) rfl (aE_loc (ls' := [_, _, _, _, _]) rfl ?_)
  exact l_rideO hW hA hP s t hs ht hQ (RLs d (cs s) (al s)).length 0 (by omega) rfl _
theorem c_rings (s : Nat) (hs : s < 4) : aRuns mX0_rings (rK 0) [.ref 1, .int (nI s)] (nn pl) (MM I sp pl) (a_ri (60 + 20 * I 26 s) (nn pl) (MM I sp pl)) := by
  refine aRuns_of pn_X0_rings (Nat.le_of_ble_eq_true rfl) (fun z => aE_loc (ls' := [_, _]) rfl ?_)
  refine aE_bipush (v := 60) dX0_rings_0 (by decide) ?_
  refine aE_bipush (v := 20) dX0_rings_2 (by decide) ?_
  refine aE_aload_n dX0_rings_4 rfl rfl ?_
  refine aE_getf (v := .ref 26) dX0_rings_5 fw_X0_24 (lt_nn (by decide)) rfl rfl ?_
  refine aE_iload_n dX0_rings_8 rfl rfl ?_
  refine aE_ildM dX0_rings_9 (lt_nn (by decide)) rfl (by decide) rfl hs ?_
  refine aE_imul dX0_rings_10 ?_
  refine aE_iadd dX0_rings_11 ?_
  refine aE_iret dX0_rings_12 rfl ⟨by decide, by decide⟩ ?_
  exact ⟨rfl, rfl, rfl⟩
theorem c_startOf (hA : AlOK d cs al ns) (hns : ns ≤ 4) (hP : PCs I ns d cs al) (hR : FlR I (RI d cs al ns)) (r s S : Nat) (hr : (RR d cs al ns)[r]? = some (s, S)) : aRuns mX1_startOf (rK 2) [.ref 54, .ref 1, .int (nI r)] (nn pl) (MM I sp pl) (a_ri (st1 d cs (fun s => I 26 s) (s, S)) (nn pl) (MM I sp pl)) := by
  obtain ⟨i, i1, i2, i3, i4, i5, i6, i7, i8, i9, i10, i11⟩ := FlR_get hA hR hr
  refine aRuns_of pn_X1_startOf (Nat.le_of_ble_eq_true rfl) (fun z => aE_loc (ls' := [_, _, _]) rfl ?_)
  refine aE_aload_n dX1_startOf_0 rfl rfl ?_
  refine aE_aload_n dX1_startOf_1 rfl rfl ?_
  refine aE_getf (v := .ref 55) dX1_startOf_2 fw_X1_9 (lt_nn (by decide)) rfl rfl ?_
  refine aE_iload_n dX1_startOf_5 rfl rfl ?_
  refine aE_ildM dX1_startOf_6 (lt_nn (by decide)) rfl (by decide) rfl i2 ?_
  refine aE_top i4 ?_
  refine aE_cVi dX1_startOf_7 lk_X1_118 mv_X0_rings (c_rings s (by omega)) rfl (lt_nn (by decide)) rfl rfl ⟨by decide, by decide⟩ (Nat.le_of_ble_eq_true rfl) ⟨rfl, rfl⟩ ⟨by decide, by decide⟩ ?_
  refine aE_aload_n dX1_startOf_10 rfl rfl ?_
  refine aE_aload_n dX1_startOf_11 rfl rfl ?_
  refine aE_iload_n dX1_startOf_12 rfl rfl ?_
  refine aE_cVi dX1_startOf_13 lk_X1_95 mv_X1_lengthOf (c_lengthOf hA hns hP hR r s S hr) rfl (lt_nn (by decide)) rfl rfl ⟨by decide, by decide⟩ (Nat.le_of_ble_eq_true rfl) ⟨rfl, rfl⟩ ⟨by decide, by decide⟩ ?_
  refine aE_isub dX1_startOf_16 ?_
  refine aE_iret dX1_startOf_17 rfl ⟨by decide, by decide⟩ ?_
  exact ⟨rfl, rfl, rfl⟩
theorem c_fhas (v : Int32) (n : Nat) (hn : I 54 1 = nI n) (h10 : n ≤ 10) (hN : (I 54 0 = 0 ∨ wi v 0 (nI n - 1) = 0) → qi Q 0 I sp pl) (hO : ¬ I 54 0 = 0 → ¬ wi v 0 (nI n - 1) = 0 → qi Q 1 I sp pl) : aRuns mX1_has (rK 1) [.ref 54, .int v] (nn pl) (MM I sp pl) Q := by
  refine aRuns_of pn_X1_has (Nat.le_of_ble_eq_true rfl) (fun z => aE_loc (ls' := [_, _]) rfl ?_)
  refine aE_aload_n dX1_has_0 rfl rfl ?_
  refine aE_geti dX1_has_1 fw_X1_33 (lt_nn (by decide)) rfl (by decide) rfl ?_
  refine aE_if_eq (tgt := 25) dX1_has_4 (by decide) (fun h4 => ?_) (fun h4 => ?_)
  · skip
    refine aE_iconst (v := 0) dX1_has_25 rfl ?_
    refine aE_zret dX1_has_26 rfl (by first | exact Or.inl rfl | exact Or.inr rfl | exact wi_or _ _ _ | assumption) ⟨by decide, by decide⟩ ?_
    first
      | exact hN (Or.inl h4)
      | exact hN (Or.inr h18)
      | exact hO h4 h18
  · skip
    refine aE_iload_n dX1_has_7 rfl rfl ?_
    refine aE_iconst (v := 0) dX1_has_8 rfl ?_
    refine aE_aload_n dX1_has_9 rfl rfl ?_
    refine aE_geti dX1_has_10 fw_X1_37 (lt_nn (by decide)) rfl (by decide) rfl ?_
    refine aE_top hn ?_
    refine aE_iconst (v := 1) dX1_has_13 rfl ?_
    refine aE_isub dX1_has_14 ?_
    refine aE_cSNi dX1_has_15 ln_X1_41 ms_X11_within (c_within _ _ _) rfl rfl ⟨by decide, by decide⟩ (Nat.le_of_ble_eq_true rfl) ⟨rfl, rfl⟩ ⟨by decide, by decide⟩ ?_
    refine aE_if_eq (tgt := 25) dX1_has_18 (by decide) (fun h18 => ?_) (fun h18 => ?_)
    · skip
      refine aE_iconst (v := 0) dX1_has_25 rfl ?_
      refine aE_zret dX1_has_26 rfl (by first | exact Or.inl rfl | exact Or.inr rfl | exact wi_or _ _ _ | assumption) ⟨by decide, by decide⟩ ?_
      first
        | exact hN (Or.inl h4)
        | exact hN (Or.inr h18)
        | exact hO h4 h18
    · skip
      refine aE_iconst (v := 1) dX1_has_21 rfl ?_
      refine aE_goto (tgt := 26) dX1_has_22 (by decide) ?_
      refine aE_zret dX1_has_26 rfl (by first | exact Or.inl rfl | exact Or.inr rfl | exact wi_or _ _ _ | assumption) ⟨by decide, by decide⟩ ?_
      first
        | exact hN (Or.inl h4)
        | exact hN (Or.inr h18)
        | exact hO h4 h18
theorem c_canFollow (ba : Nat) (hba : ba = 26 ∨ ba = 89) (hA : AlOK d cs al ns) (hns : ns ≤ 4) (hR : FlR I (RI d cs al ns)) (a b sa Sa sb Sb : Nat) (ra : (RR d cs al ns)[a]? = some (sa, Sa)) (rb : (RR d cs al ns)[b]? = some (sb, Sb)) (sl : Int32) (hg : I (59 + a) b = gapF d cs sl (RR d cs al ns) a b) : aRuns mX1_canFollow (rK 0) [.ref 54, .ref ba, .int (nI a), .int (nI b)] (nn pl) (MM I sp pl) (a_ri (if decide (gapF d cs sl (RR d cs al ns) a b ≤ 20 * (I ba sb - I ba sa)) then 1 else 0) (nn pl) (MM I sp pl)) := by
  obtain ⟨i, i1, i2, i3, i4, i5, i6, i7, i8, i9, i10, i11⟩ := FlR_get hA hR ra
  obtain ⟨j, j1, j2, j3, j4, j5, j6, j7, j8, j9, j10, j11⟩ := FlR_get hA hR rb
  have hsh : a_sh ba = (100, 4) := by rcases hba with rfl | rfl <;> rfl
  have hlt : ba < nn pl := by rcases hba with rfl | rfl <;> exact lt_nn (by decide)
  refine aRuns_of pn_X1_canFollow (Nat.le_of_ble_eq_true rfl) (fun z => aE_loc (ls' := [_, _, _, _]) rfl ?_)
  refine aE_bipush (v := 20) dX1_canFollow_0 (by decide) ?_
  refine aE_aload_n dX1_canFollow_2 rfl rfl ?_
  refine aE_aload_n dX1_canFollow_3 rfl rfl ?_
  refine aE_getf (v := .ref 55) dX1_canFollow_4 fw_X1_9 (lt_nn (by decide)) rfl rfl ?_
  refine aE_iload_n dX1_canFollow_7 rfl rfl ?_
  refine aE_ildM dX1_canFollow_8 (lt_nn (by decide)) rfl (by decide) rfl j2 ?_
  refine aE_top j4 ?_
  refine aE_ildM dX1_canFollow_9 hlt hsh (by decide) rfl (show sb < 4 by omega) ?_
  refine aE_aload_n dX1_canFollow_10 rfl rfl ?_
  refine aE_aload_n dX1_canFollow_11 rfl rfl ?_
  refine aE_getf (v := .ref 55) dX1_canFollow_12 fw_X1_9 (lt_nn (by decide)) rfl rfl ?_
  refine aE_iload_n dX1_canFollow_15 rfl rfl ?_
  refine aE_ildM dX1_canFollow_16 (lt_nn (by decide)) rfl (by decide) rfl i2 ?_
  refine aE_top i4 ?_
  refine aE_ildM dX1_canFollow_17 hlt hsh (by decide) rfl (show sa < 4 by omega) ?_
  refine aE_isub dX1_canFollow_18 ?_
  refine aE_imul dX1_canFollow_19 ?_
  refine aE_aload_n dX1_canFollow_20 rfl rfl ?_
  refine aE_getf (v := .ref 58) dX1_canFollow_21 fw_X1_23 (lt_nn (by decide)) rfl rfl ?_
  refine aE_iload_n dX1_canFollow_24 rfl rfl ?_
  refine aE_aald (t := 105) dX1_canFollow_25 (lt_nn (by decide)) ⟨by decide, by decide⟩ rfl (by decide) rfl (show a < 10 by omega) (mm_gap (show a < 10 by omega)) ?_
  refine aE_iload_n dX1_canFollow_26 rfl rfl ?_
  refine aE_ildM dX1_canFollow_27 (lt_nn (by omega)) (sh_gap (show a < 10 by omega)) (by decide) rfl (by omega) ?_
  refine aE_top hg ?_
  refine aE_icmp_lt (tgt := 35) dX1_canFollow_28 (by decide) (fun h28 => ?_) (fun h28 => ?_)
  · skip
    refine aE_iconst (v := 0) dX1_canFollow_35 rfl ?_
    refine aE_zret dX1_canFollow_36 rfl (by first | exact Or.inl rfl | exact Or.inr rfl | exact wi_or _ _ _ | assumption) ⟨by decide, by decide⟩ ?_
    first
      | exact a_rio (by rw [decide_eq_true (Int32.not_lt.mp h28)]; rfl) rfl
      | exact a_rio (by rw [decide_eq_false (Int32.not_le.mpr h28)]; rfl) rfl
  · skip
    refine aE_iconst (v := 1) dX1_canFollow_31 rfl ?_
    refine aE_goto (tgt := 36) dX1_canFollow_32 (by decide) ?_
    refine aE_zret dX1_canFollow_36 rfl (by first | exact Or.inl rfl | exact Or.inr rfl | exact wi_or _ _ _ | assumption) ⟨by decide, by decide⟩ ?_
    first
      | exact a_rio (by rw [decide_eq_true (Int32.not_lt.mp h28)]; rfl) rfl
      | exact a_rio (by rw [decide_eq_false (Int32.not_le.mpr h28)]; rfl) rfl
end CPUB
