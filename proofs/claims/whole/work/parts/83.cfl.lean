section CFL
variable {z : Nat × (Nat → Int32)} {n : Nat} {mem : aM} {I : Nat → Nat → Int32} {sp : Nat → Nat} {pl : Bool} {Q : Option Value → Nat → aM → Prop} {R : Room}variable {ns nstr nc : Nat} {d : pD} {cs : Nat → pC} {fr to : Nat → Nat} {al : Nat → Nat}

theorem c_schoolOf (r s : Nat) (hr : r < 10) (hs : s < 4) (h55 : I 55 r = nI s) : aRuns mX1_schoolOf (rK 0) [.ref 54, .ref 1, .int (nI r)] (nn pl) (MM I sp pl) (a_rr (28 + 4 * s) (nn pl) (MM I sp pl)) := by
  refine aRuns_of pn_X1_schoolOf (Nat.le_of_ble_eq_true rfl) (fun z => aE_loc (ls' := [_, _, _]) rfl ?_)
  refine aE_aload_n dX1_schoolOf_0 rfl rfl ?_
  refine aE_getf (v := .ref 25) dX1_schoolOf_1 fw_X1_53 (lt_nn (by decide)) rfl rfl ?_
  refine aE_aload_n dX1_schoolOf_4 rfl rfl ?_
  refine aE_getf (v := .ref 55) dX1_schoolOf_5 fw_X1_9 (lt_nn (by decide)) rfl rfl ?_
  refine aE_iload_n dX1_schoolOf_8 rfl rfl ?_
  refine aE_ildM dX1_schoolOf_9 (lt_nn (by decide)) rfl (by decide) rfl hr ?_
  refine aE_top h55 ?_
  refine aE_aald (t := 102) dX1_schoolOf_10 (lt_nn (by decide)) ⟨by decide, by decide⟩ rfl (by decide) rfl hs (mm_schs hs) ?_
  refine aE_aret dX1_schoolOf_11 rfl (by first | exact Or.inl ⟨_, rfl⟩ | exact Or.inr ⟨_, rfl⟩) ⟨by decide, by decide⟩ ?_
  exact ⟨rfl, rfl, rfl⟩
theorem c_lengthOf (hA : AlOK d cs al ns) (hns : ns ≤ 4) (hP : PCs I ns d cs al) (hR : FlR I (RI d cs al ns)) (r s S : Nat) (hr : (RR d cs al ns)[r]? = some (s, S)) : aRuns mX1_lengthOf (rK 1) [.ref 54, .ref 1, .int (nI r)] (nn pl) (MM I sp pl) (a_ri (lS d (cs s) S) (nn pl) (MM I sp pl)) := by
  obtain ⟨i, i1, i2, i3, i4, i5, i6, i7, i8, i9, i10, i11⟩ := FlR_get hA hR hr
  have hs : s < 4 := by omega
  have hRow := (hP s i3).2.2.2 i S i6
  refine aRuns_of pn_X1_lengthOf (Nat.le_of_ble_eq_true rfl) (fun z => aE_loc (ls' := [_, _, _]) rfl ?_)
  refine aE_aload_n dX1_lengthOf_0 rfl rfl ?_
  refine aE_aload_n dX1_lengthOf_1 rfl rfl ?_
  refine aE_iload_n dX1_lengthOf_2 rfl rfl ?_
  refine aE_cVr dX1_lengthOf_3 lk_X1_81 mv_X1_schoolOf (c_schoolOf r s i2 hs i4) rfl (lt_nn (by decide)) rfl rfl ⟨by decide, by decide⟩ (Nat.le_of_ble_eq_true rfl) ⟨rfl, rfl⟩ ⟨by decide, by decide⟩ ?_
  refine aE_getf dX1_lengthOf_6 fw_X1_111 (lt_nn (by omega)) (sh_sch hs) (mm_len hs) ?_
  refine aE_aload_n dX1_lengthOf_9 rfl rfl ?_
  refine aE_getf (v := .ref 57) dX1_lengthOf_10 fw_X1_18 (lt_nn (by decide)) rfl rfl ?_
  refine aE_iload_n dX1_lengthOf_13 rfl rfl ?_
  refine aE_ildM dX1_lengthOf_14 (lt_nn (by decide)) rfl (by decide) rfl i2 ?_
  refine aE_top i5 ?_
  refine aE_ildM dX1_lengthOf_15 (lt_nn (by omega)) (sh_len hs) (by decide) rfl i1 ?_
  refine aE_top hRow.1 ?_
  refine aE_iret dX1_lengthOf_16 rfl ⟨by decide, by decide⟩ ?_
  exact ⟨rfl, rfl, rfl⟩
theorem c_firstCorner (hW : CW I sp ns nstr nc d cs fr to) (hA : AlOK d cs al ns) (hP : PCs I ns d cs al) (hR : FlR I (RI d cs al ns)) (r s S : Nat) (hr : (RR d cs al ns)[r]? = some (s, S)) : aRuns mX1_firstCorner (rK 1) [.ref 54, .ref 1, .int (nI r)] (nn pl) (MM I sp pl) (a_ri (nI (d.2.1 (fs1 d (cs s) S))) (nn pl) (MM I sp pl)) := by
  obtain ⟨i, i1, i2, i3, i4, i5, i6, i7, i8, i9, i10, i11⟩ := FlR_get hA hR hr
  have h10 := hW.2.2.2.2.2.2.1.2
  have hs : s < 4 := by have := hW.1.2; omega
  obtain ⟨f1, f2⟩ := fs1_some (d := d) (c := cs s) i7 i9
  have hRow := (hP s i3).2
  have hOr : I (30 + 4 * s) (bgn (RLs d (cs s) (al s)) i) = nI (fs1 d (cs s) S) := (hRow.2.2 i S i6).2 0 (fs1 d (cs s) S) f1
  have hbl := bgn_le (hA.1 s) i6
  have hlt := (oS_lt h10 (show (oS d (cs s) S 0).2 = some _ from f1)).1
  have hi := (List.getElem?_eq_some_iff.mp i6).1
  obtain ⟨c1, c2, -, -⟩ := hW.2.2.2.2.2.2.2.2.1 (fs1 d (cs s) S) f2
  have hsp := hW.2.2.2.2.2.2.2.1
  refine aRuns_of pn_X1_firstCorner (Nat.le_of_ble_eq_true rfl) (fun z => aE_loc (ls' := [_, _, _, _]) rfl ?_)
  refine aE_aload_n dX1_firstCorner_0 rfl rfl ?_
  refine aE_aload_n dX1_firstCorner_1 rfl rfl ?_
  refine aE_iload_n dX1_firstCorner_2 rfl rfl ?_
  refine aE_cVr dX1_firstCorner_3 lk_X1_81 mv_X1_schoolOf (c_schoolOf r s i2 hs i4) rfl (lt_nn (by decide)) rfl rfl ⟨by decide, by decide⟩ (Nat.le_of_ble_eq_true rfl) ⟨rfl, rfl⟩ ⟨by decide, by decide⟩ ?_
  refine aE_astore_n dX1_firstCorner_6 rfl (by decide) rfl (aE_loc (ls' := [_, _, _, _]) rfl ?_)
  refine aE_aload_n dX1_firstCorner_7 rfl rfl ?_
  refine aE_getf (v := .ref 27) dX1_firstCorner_8 fw_X1_98 (lt_nn (by decide)) rfl rfl ?_
  refine aE_aload_n dX1_firstCorner_11 rfl rfl ?_
  refine aE_getf dX1_firstCorner_12 fw_X1_102 (lt_nn (by omega)) (sh_sch hs) (mm_ord hs) ?_
  refine aE_aload_n dX1_firstCorner_15 rfl rfl ?_
  refine aE_getf dX1_firstCorner_16 fw_X1_105 (lt_nn (by omega)) (sh_sch hs) (mm_beg hs) ?_
  refine aE_aload_n dX1_firstCorner_19 rfl rfl ?_
  refine aE_getf (v := .ref 57) dX1_firstCorner_20 fw_X1_18 (lt_nn (by decide)) rfl rfl ?_
  refine aE_iload_n dX1_firstCorner_23 rfl rfl ?_
  refine aE_ildM dX1_firstCorner_24 (lt_nn (by decide)) rfl (by decide) rfl i2 ?_
  refine aE_top i5 ?_
  refine aE_ildM dX1_firstCorner_25 (lt_nn (by omega)) (sh_beg hs) (by decide) rfl (by omega) ?_
  refine aE_top (hRow.2.1 i (by omega)) ?_
  refine aE_ildM dX1_firstCorner_26 (lt_nn (by omega)) (sh_ord hs) (by decide) rfl (show bgn (RLs d (cs s) (al s)) i < 10 by omega) ?_
  refine aE_top hOr ?_
  refine aE_aald (t := 103) dX1_firstCorner_27 (lt_nn (by decide)) ⟨by decide, by decide⟩ rfl (by decide) rfl (show fs1 d (cs s) S < 10 by omega) mm_stop ?_
  refine aE_geti dX1_firstCorner_28 fw_X1_108 (lt_nn (by have := (hsp (fs1 d (cs s) S) (by omega)); omega)) (sh_stop (hsp (fs1 d (cs s) S) (by omega))) (mc_stop (i := 1) (hsp (fs1 d (cs s) S) (by omega))).1 (mc_stop (i := 1) (hsp (fs1 d (cs s) S) (by omega))).2 ?_
  refine aE_top c2 ?_
  refine aE_iret dX1_firstCorner_31 rfl ⟨by decide, by decide⟩ ?_
  exact ⟨rfl, rfl, rfl⟩
theorem l_gath2 {x0 x2 : Int32} (I0 : Nat → Nat → Int32) (hA : AlOK d cs al ns) (hns : ns ≤ 4) (hP : PCs I0 ns d cs al) (s : Nat) (hs : s < ns) (hs4 : s < 4) (k0 : ∀ (J : Nat → Nat → Int32) (l4 : Option Value), (∀ q i, ¬ (q = 54 ∧ i < 3) → q ≠ 55 → q ≠ 57 → J q i = I0 q i) → J 54 0 = x0 → J 54 2 = x2 → J 54 1 = nI (RR d cs al (s + 1)).length → FlR J (RI d cs al (s + 1)) → aE z mX1_gather (rK 3) Q 128 [some (.ref 54), some (.ref 1), some (.int (nI s)), some (.ref (28 + 4 * s)), l4] [] (nn pl) (MM J sp pl) 0 0) : ∀ (n i : Nat), i + n = (RLs d (cs s) (al s)).length → ∀ (I : Nat → Nat → Int32), (∀ q i, ¬ (q = 54 ∧ i < 3) → q ≠ 55 → q ≠ 57 → I q i = I0 q i) → I 54 0 = x0 → I 54 2 = x2 → I 54 1 = nI ((RR d cs al s).length + i) → FlR I (RI d cs al s ++ (List.range i).map (fun j => (s, j))) → aE z mX1_gather (rK 3) Q 73 [some (.ref 54), some (.ref 1), some (.int (nI s)), some (.ref (28 + 4 * s)), some (.int (nI i))] [] (nn pl) (MM I sp pl) 0 0 := by
  have hrs := RR_s (d := d) (cs := cs) (al := al) s
  have hrm := RR_mono (d := d) (cs := cs) (al := al) (show s + 1 ≤ ns by omega)
  have hA10 := hA.2.1
  have hrc := (hP s hs).2.1
  intro n
  induction n with
  | zero =>
    intro i hi I hfr h0 h2 h1 hR
    have hi : i = (RLs d (cs s) (al s)).length := by omega
    subst hi
    refine aE_iload dX1_gather_73 rfl ?_
    refine aE_aload_n dX1_gather_75 rfl rfl ?_
    refine aE_geti dX1_gather_76 fw_X1_62 (lt_nn (by omega)) (sh_sch hs4) (mc_sch (i := 4) hs4 (by decide)).1 (mc_sch (i := 4) hs4 (by decide)).2 ?_
    refine aE_icmp_ge (tgt := 128) dX1_gather_79 (by decide) (fun h79 => ?_) (fun h79 => absurd (by rw [hfr (28 + 4 * s) 4 (by omega) (by omega) (by omega), hrc]; exact Int32.le_refl _) h79)
    exact k0 I _ hfr h0 h2 (by rw [hrs]; exact h1) hR
  | succ n ih =>
    intro i hi I hfr h0 h2 h1 hR
    have ih2 := ih (i + 1) (by omega) (iu (iu (iu I 55 ((RR d cs al s).length + i) (nI s)) 57 ((RR d cs al s).length + i) (nI i)) 54 1 (nI ((RR d cs al s).length + i + 1))) (fun q w a b c => by rw [iu_ne (by omega), iu_ne (by omega), iu_ne (by omega)]; exact hfr q w a b c) (by rw [iu_ne (by omega), iu_ne (by omega), iu_ne (by omega)]; exact h0) (by rw [iu_ne (by omega), iu_ne (by omega), iu_ne (by omega)]; exact h2) (by rw [iu_eq]; rfl) (fun r s' i' hr => by
      rw [List.range_succ, List.map_append, ← List.append_assoc] at hr
      have hlen : (RI d cs al s ++ (List.range i).map (fun j => (s, j))).length = (RR d cs al s).length + i := by rw [List.length_append, RI_len, List.length_map, List.length_range]
      rcases Nat.lt_trichotomy r ((RR d cs al s).length + i) with q | q | q
      · rw [List.getElem?_append_left (by rw [hlen]; exact q)] at hr
        have := hR r s' i' hr
        rw [iu_ne (by omega), iu_ne (by omega), iu_ne (by omega), iu_ne (by omega), iu_ne (by omega), iu_ne (by omega)]
        exact this
      · subst q
        rw [List.getElem?_append_right (by rw [hlen]; exact Nat.le_refl _), hlen, Nat.sub_self] at hr
        simp at hr
        obtain ⟨rfl, rfl⟩ := hr
        exact ⟨by rw [iu_ne (by omega), iu_ne (by omega), iu_eq], by rw [iu_ne (by omega), iu_eq]⟩
      · rw [List.getElem?_append_right (by rw [hlen]; omega), hlen] at hr
        obtain ⟨m, hm⟩ : ∃ m, r - ((RR d cs al s).length + i) = m + 1 := ⟨r - ((RR d cs al s).length + i) - 1, by omega⟩
        rw [hm] at hr
        simp at hr)
    refine aE_iload dX1_gather_73 rfl ?_
    refine aE_aload_n dX1_gather_75 rfl rfl ?_
    refine aE_geti dX1_gather_76 fw_X1_62 (lt_nn (by omega)) (sh_sch hs4) (mc_sch (i := 4) hs4 (by decide)).1 (mc_sch (i := 4) hs4 (by decide)).2 ?_
    refine aE_icmp_ge (tgt := 128) dX1_gather_79 (by decide) (fun h79 => absurd h79 (by rw [hfr (28 + 4 * s) 4 (by omega) (by omega) (by omega), hrc]; exact nI_ge (by omega) (by omega))) (fun h79 => ?_)
    refine aE_aload_n dX1_gather_82 rfl rfl ?_
    refine aE_geti dX1_gather_83 fw_X1_37 (lt_nn (by decide)) rfl (by decide) rfl ?_
    refine aE_top h1 ?_
    refine aE_bipush (v := 10) dX1_gather_86 (by decide) ?_
    refine aE_icmp_ge (tgt := 128) dX1_gather_88 (by decide) (fun h88 => absurd h88 (nI_ge (b := 10) (by omega) (by omega))) (fun h88 => ?_)
    refine aE_aload_n dX1_gather_91 rfl rfl ?_
    refine aE_getf (v := .ref 55) dX1_gather_92 fw_X1_9 (lt_nn (by decide)) rfl rfl ?_
    refine aE_aload_n dX1_gather_95 rfl rfl ?_
    refine aE_geti dX1_gather_96 fw_X1_37 (lt_nn (by decide)) rfl (by decide) rfl ?_
    refine aE_top h1 ?_
    refine aE_iload_n dX1_gather_99 rfl rfl ?_
    refine aE_istM dX1_gather_100 (lt_nn (by decide)) rfl (by decide) rfl (by omega) ?_
    refine aE_aload_n dX1_gather_101 rfl rfl ?_
    refine aE_getf (v := .ref 57) dX1_gather_102 fw_X1_18 (lt_nn (by decide)) rfl rfl ?_
    refine aE_aload_n dX1_gather_105 rfl rfl ?_
    refine aE_geti dX1_gather_106 fw_X1_37 (lt_nn (by decide)) rfl (by decide) rfl ?_
    refine aE_top ((iu_ne (by omega)).trans h1) ?_
    refine aE_iload dX1_gather_109 rfl ?_
    refine aE_istM dX1_gather_111 (lt_nn (by decide)) rfl (by decide) rfl (by omega) ?_
    refine aE_aload_n dX1_gather_112 rfl rfl ?_
    refine aE_dup dX1_gather_113 rfl ?_
    refine aE_geti dX1_gather_114 fw_X1_37 (lt_nn (by decide)) rfl (by decide) rfl ?_
    refine aE_top ((iu_ne (by omega)).trans ((iu_ne (by omega)).trans h1)) ?_
    refine aE_iconst (v := 1) dX1_gather_117 rfl ?_
    refine aE_iadd dX1_gather_118 ?_
    refine aE_top (nI_1 _) ?_
    refine aE_puti dX1_gather_119 fp_X1_37 (Or.inl rfl) (lt_nn (by decide)) rfl (fun _ => ⟨rfl, rfl⟩) (by decide) rfl ?_
    refine aE_iinc dX1_gather_122 rfl (a_inc _) (by decide) rfl (aE_loc (ls' := [_, _, _, _, _]) rfl ?_)
    refine aE_goto (tgt := 73) dX1_gather_125 (by decide) ?_
    exact ih2
theorem mx_nat (a b : Nat) (ha : a < 1000) (hb : b < 1000) : (if nI a < nI b then nI b else nI a) = nI (max a b) := by
  by_cases h : a < b
  · rw [if_pos (nI_lt h (by omega)), Nat.max_eq_right (by omega)]
  · rw [if_neg (fun q => by have := (nI_ge (a := b) (b := a)); rcases Nat.lt_or_ge b a with w | w; exact Int32.lt_irrefl (Int32.lt_trans q (nI_lt w (by omega))); exact Int32.lt_irrefl (by rw [show a = b by omega] at q; exact q)), Nat.max_eq_left (by omega)]
theorem mxL_le {d : pD} {cs : Nat → pC} {al : Nat → Nat} (hal : ∀ s, al s < 1024) : ∀ k, mxL d cs al k ≤ 10
  | 0 => Nat.zero_le _
  | k + 1 => by
    have := RLs_card (d := d) (c := cs k) (hal k)
    have := cdB_bound (al k) 10
    have := mxL_le (d := d) (cs := cs) hal k
    show max _ _ ≤ _
    omega
theorem l_gath1 (I0 : Nat → Nat → Int32) (hn : I0 1 4 = nI ns) (hA : AlOK d cs al ns) (hns : ns ≤ 4) (hP : PCs I0 ns d cs al) (k0 : ∀ (J : Nat → Nat → Int32) (l2 l3 l4 : Option Value), (∀ q i, ¬ (q = 54 ∧ i < 3) → q ≠ 55 → q ≠ 57 → J q i = I0 q i) → J 54 0 = (if allH d cs al ns then 1 else 0) → J 54 2 = nI (mxL d cs al ns) → J 54 1 = nI (RR d cs al ns).length → FlR J (RI d cs al ns) → aE z mX1_gather (rK 3) Q 134 [some (.ref 54), some (.ref 1), l2, l3, l4] [] (nn pl) (MM J sp pl) 0 0) : ∀ (n s : Nat), s + n = ns → ∀ (I : Nat → Nat → Int32) (l3 l4 : Option Value), (∀ q i, ¬ (q = 54 ∧ i < 3) → q ≠ 55 → q ≠ 57 → I q i = I0 q i) → I 54 0 = (if allH d cs al s then 1 else 0) → I 54 2 = nI (mxL d cs al s) → I 54 1 = nI (RR d cs al s).length → FlR I (RI d cs al s) → aE z mX1_gather (rK 3) Q 17 [some (.ref 54), some (.ref 1), some (.int (nI s)), l3, l4] [] (nn pl) (MM I sp pl) 0 0 := by
  intro n
  induction n with
  | zero =>
    intro s hs I l3 l4 hfr h0 h2 h1 hR
    have hs : s = ns := by omega
    subst hs
    refine aE_iload_n dX1_gather_17 rfl rfl ?_
    refine aE_aload_n dX1_gather_18 rfl rfl ?_
    refine aE_geti dX1_gather_19 fw_X1_48 (lt_nn (by decide)) rfl (by decide) rfl ?_
    refine aE_icmp_ge (tgt := 134) dX1_gather_22 (by decide) (fun h22 => ?_) (fun h22 => absurd (by rw [hfr 1 4 (by omega) (by omega) (by omega), hn]; exact Int32.le_refl _) h22)
    exact k0 I _ _ _ hfr h0 h2 h1 hR
  | succ n ih =>
    intro s hs I l3 l4 hfr h0 h2 h1 hR
    have hs4 : s < 4 := by omega
    have hmx := mxL_le (d := d) (cs := cs) hA.1 s
    have hcd := RLs_card (d := d) (c := cs s) (hA.1 s)
    have hcb := cdB_bound (al s) 10
    have hpl := (hP s (by omega)).1
    have hrc := (hP s (by omega)).2.1
    have hal2 : allH d cs al (s + 1) = (allH d cs al s && decide ((pS d (cs s) (al s)).1 < 1000000)) := rfl
    have inner : ∀ (x0 : Int32), x0 = (if allH d cs al (s + 1) then 1 else 0) → aE z mX1_gather (rK 3) Q 73 [some (.ref 54), some (.ref 1), some (.int (nI s)), some (.ref (28 + 4 * s)), some (.int (nI 0))] [] (nn pl) (MM (iu (iu I 54 0 x0) 54 2 (nI (mxL d cs al (s + 1)))) sp pl) 0 0 := by
      intro x0 hx0
      refine l_gath2 I0 hA hns hP s (by omega) hs4 (x0 := x0) (x2 := nI (mxL d cs al (s + 1))) (fun J l4 j1 j2 j3 j4 j5 => ?_) (RLs d (cs s) (al s)).length 0 (by omega) _ (fun q i a b c => by rw [iu_ne (by omega), iu_ne (by omega)]; exact hfr q i a b c) (by rw [iu_ne (by omega), iu_eq]) iu_eq (by rw [iu_ne (by omega), iu_ne (by omega)]; exact h1) (fun r s' i hr => by
        rw [iu_ne (by omega), iu_ne (by omega), iu_ne (by omega), iu_ne (by omega)]
        exact hR r s' i (by simpa using hr))
      have ih2 := fun l3 l4 => ih (s + 1) (by omega) J l3 l4 j1 (j2.trans hx0) j3 j4 j5
      refine aE_iinc dX1_gather_128 rfl (a_inc _) (by decide) rfl (aE_loc (ls' := [_, _, _, _, _]) rfl ?_)
      refine aE_goto (tgt := 17) dX1_gather_131 (by decide) ?_
      exact ih2 _ _
    have floorT : ∀ (x0 : Int32), x0 = (if allH d cs al (s + 1) then 1 else 0) → ∀ l4, aE z mX1_gather (rK 3) Q 55 [some (.ref 54), some (.ref 1), some (.int (nI s)), some (.ref (28 + 4 * s)), l4] [] (nn pl) (MM (iu I 54 0 x0) sp pl) 0 0 := by
      intro x0 hx0 l4
      refine aE_aload_n dX1_gather_55 rfl rfl ?_
      refine aE_aload_n dX1_gather_56 rfl rfl ?_
      refine aE_geti dX1_gather_57 fw_X1_45 (lt_nn (by decide)) rfl (by decide) rfl ?_
      refine aE_top ((iu_ne (by omega)).trans h2) ?_
      refine aE_aload_n dX1_gather_60 rfl rfl ?_
      refine aE_geti dX1_gather_61 fw_X1_62 (lt_nn (by omega)) (sh_sch hs4) (mc_sch (i := 4) hs4 (by decide)).1 (mc_sch (i := 4) hs4 (by decide)).2 ?_
      refine aE_top ((iu_ne (by omega)).trans ((hfr _ _ (by omega) (by omega) (by omega)).trans hrc)) ?_
      refine aE_max dX1_gather_64 mm_X1_65 ⟨by decide, by decide⟩ ⟨by decide, by decide⟩ (Nat.le_of_ble_eq_true rfl) ?_
      refine aE_top (mx_nat _ _ (by omega) (by omega)) ?_
      refine aE_puti dX1_gather_67 fp_X1_45 (Or.inl rfl) (lt_nn (by decide)) rfl (fun _ => ⟨rfl, rfl⟩) (by decide) rfl ?_
      refine aE_iconst (v := 0) dX1_gather_70 rfl ?_
      refine aE_istore dX1_gather_71 (by decide) rfl (aE_loc (ls' := [_, _, _, _, _]) rfl ?_)
      exact inner x0 hx0
    cases hal : allH d cs al s with
    | false =>
      rw [hal] at h0
      refine aE_iload_n dX1_gather_17 rfl rfl ?_
      refine aE_aload_n dX1_gather_18 rfl rfl ?_
      refine aE_geti dX1_gather_19 fw_X1_48 (lt_nn (by decide)) rfl (by decide) rfl ?_
      refine aE_icmp_ge (tgt := 134) dX1_gather_22 (by decide) (fun h22 => absurd h22 (by rw [hfr 1 4 (by omega) (by omega) (by omega), hn]; exact nI_ge (by omega) (by omega))) (fun h22 => ?_)
      refine aE_aload_n dX1_gather_25 rfl rfl ?_
      refine aE_getf (v := .ref 25) dX1_gather_26 fw_X1_53 (lt_nn (by decide)) rfl rfl ?_
      refine aE_iload_n dX1_gather_29 rfl rfl ?_
      refine aE_aald (t := 102) dX1_gather_30 (lt_nn (by decide)) ⟨by decide, by decide⟩ rfl (by decide) rfl hs4 (mm_schs hs4) ?_
      refine aE_astore_n dX1_gather_31 rfl (by decide) rfl (aE_loc (ls' := [_, _, _, _, _]) rfl ?_)
      refine aE_aload_n dX1_gather_32 rfl rfl ?_
      refine aE_aload_n dX1_gather_33 rfl rfl ?_
      refine aE_geti dX1_gather_34 fw_X1_33 (lt_nn (by decide)) rfl (by decide) rfl ?_
      refine aE_top h0 ?_
      refine aE_if_eq (tgt := 51) dX1_gather_37 (by decide) (fun h37 => ?_) (fun h37 => absurd (rfl) h37)
      refine aE_iconst (v := 0) dX1_gather_51 rfl ?_
      refine aE_puti dX1_gather_52 fp_X1_33 (Or.inl rfl) (lt_nn (by decide)) rfl (fun _ => a_narZ (by first | exact Or.inl rfl | exact Or.inr rfl | assumption)) (by decide) rfl ?_
      exact floorT 0 (by rw [hal2, hal]; rfl) _
    | true =>
      rw [hal] at h0
      by_cases hp : (pS d (cs s) (al s)).1 < 1000000
      · rw [if_pos hp] at hpl
        refine aE_iload_n dX1_gather_17 rfl rfl ?_
        refine aE_aload_n dX1_gather_18 rfl rfl ?_
        refine aE_geti dX1_gather_19 fw_X1_48 (lt_nn (by decide)) rfl (by decide) rfl ?_
        refine aE_icmp_ge (tgt := 134) dX1_gather_22 (by decide) (fun h22 => absurd h22 (by rw [hfr 1 4 (by omega) (by omega) (by omega), hn]; exact nI_ge (by omega) (by omega))) (fun h22 => ?_)
        refine aE_aload_n dX1_gather_25 rfl rfl ?_
        refine aE_getf (v := .ref 25) dX1_gather_26 fw_X1_53 (lt_nn (by decide)) rfl rfl ?_
        refine aE_iload_n dX1_gather_29 rfl rfl ?_
        refine aE_aald (t := 102) dX1_gather_30 (lt_nn (by decide)) ⟨by decide, by decide⟩ rfl (by decide) rfl hs4 (mm_schs hs4) ?_
        refine aE_astore_n dX1_gather_31 rfl (by decide) rfl (aE_loc (ls' := [_, _, _, _, _]) rfl ?_)
        refine aE_aload_n dX1_gather_32 rfl rfl ?_
        refine aE_aload_n dX1_gather_33 rfl rfl ?_
        refine aE_geti dX1_gather_34 fw_X1_33 (lt_nn (by decide)) rfl (by decide) rfl ?_
        refine aE_top h0 ?_
        refine aE_if_eq (tgt := 51) dX1_gather_37 (by decide) (fun h37 => absurd h37 (by decide)) (fun h37 => ?_)
        refine aE_aload_n dX1_gather_40 rfl rfl ?_
        refine aE_geti dX1_gather_41 fw_X1_57 (lt_nn (by omega)) (sh_sch hs4) (mc_sch (i := 3) hs4 (by decide)).1 (mc_sch (i := 3) hs4 (by decide)).2 ?_
        refine aE_top ((hfr _ _ (by omega) (by omega) (by omega)).trans hpl) ?_
        refine aE_if_eq (tgt := 51) dX1_gather_44 (by decide) (fun h44 => absurd h44 (by decide)) (fun h44 => ?_)
        refine aE_iconst (v := 1) dX1_gather_47 rfl ?_
        refine aE_goto (tgt := 52) dX1_gather_48 (by decide) ?_
        refine aE_puti dX1_gather_52 fp_X1_33 (Or.inl rfl) (lt_nn (by decide)) rfl (fun _ => a_narZ (by first | exact Or.inl rfl | exact Or.inr rfl | assumption)) (by decide) rfl ?_
        exact floorT 1 (by rw [hal2, hal, decide_eq_true hp]; rfl) _
      · rw [if_neg hp] at hpl
        refine aE_iload_n dX1_gather_17 rfl rfl ?_
        refine aE_aload_n dX1_gather_18 rfl rfl ?_
        refine aE_geti dX1_gather_19 fw_X1_48 (lt_nn (by decide)) rfl (by decide) rfl ?_
        refine aE_icmp_ge (tgt := 134) dX1_gather_22 (by decide) (fun h22 => absurd h22 (by rw [hfr 1 4 (by omega) (by omega) (by omega), hn]; exact nI_ge (by omega) (by omega))) (fun h22 => ?_)
        refine aE_aload_n dX1_gather_25 rfl rfl ?_
        refine aE_getf (v := .ref 25) dX1_gather_26 fw_X1_53 (lt_nn (by decide)) rfl rfl ?_
        refine aE_iload_n dX1_gather_29 rfl rfl ?_
        refine aE_aald (t := 102) dX1_gather_30 (lt_nn (by decide)) ⟨by decide, by decide⟩ rfl (by decide) rfl hs4 (mm_schs hs4) ?_
        refine aE_astore_n dX1_gather_31 rfl (by decide) rfl (aE_loc (ls' := [_, _, _, _, _]) rfl ?_)
        refine aE_aload_n dX1_gather_32 rfl rfl ?_
        refine aE_aload_n dX1_gather_33 rfl rfl ?_
        refine aE_geti dX1_gather_34 fw_X1_33 (lt_nn (by decide)) rfl (by decide) rfl ?_
        refine aE_top h0 ?_
        refine aE_if_eq (tgt := 51) dX1_gather_37 (by decide) (fun h37 => absurd h37 (by decide)) (fun h37 => ?_)
        refine aE_aload_n dX1_gather_40 rfl rfl ?_
        refine aE_geti dX1_gather_41 fw_X1_57 (lt_nn (by omega)) (sh_sch hs4) (mc_sch (i := 3) hs4 (by decide)).1 (mc_sch (i := 3) hs4 (by decide)).2 ?_
        refine aE_top ((hfr _ _ (by omega) (by omega) (by omega)).trans hpl) ?_
        refine aE_if_eq (tgt := 51) dX1_gather_44 (by decide) (fun h44 => ?_) (fun h44 => absurd (rfl) h44)
        refine aE_iconst (v := 0) dX1_gather_51 rfl ?_
        refine aE_puti dX1_gather_52 fp_X1_33 (Or.inl rfl) (lt_nn (by decide)) rfl (fun _ => a_narZ (by first | exact Or.inl rfl | exact Or.inr rfl | assumption)) (by decide) rfl ?_
        exact floorT 0 (by rw [hal2, hal, decide_eq_false hp]; rfl) _
theorem l_gap2 (I0 : Nat → Nat → Int32) (hW : CW I0 sp ns nstr nc d cs fr to) (hA : AlOK d cs al ns) (hP : PCs I0 ns d cs al) (hR : FlR I0 (RI d cs al ns)) (h1 : I0 54 1 = nI (RR d cs al ns).length) (a : Nat) (ha : a < (RR d cs al ns).length) (k0 : ∀ (J : Nat → Nat → Int32) (l3 l4 : Option Value), (∀ q i, ¬ (8 ≤ q ∧ q < 16) → ¬ (q = 2 ∧ i = 8) → ¬ (59 ≤ q ∧ q < 69) → J q i = I0 q i) → CW J sp ns nstr nc d cs fr to → (∀ a' b', a' < a + 1 → b' < (RR d cs al ns).length → J (59 + a') b' = gapF d cs (I0 1 8) (RR d cs al ns) a' b') → aE z mX1_gather (rK 3) Q 215 [some (.ref 54), some (.ref 1), some (.int (nI a)), l3, l4] [] (nn pl) (MM J sp pl) 0 0) : ∀ (n b : Nat), b + n = (RR d cs al ns).length → ∀ (I : Nat → Nat → Int32) (l4 : Option Value), (∀ q i, ¬ (8 ≤ q ∧ q < 16) → ¬ (q = 2 ∧ i = 8) → ¬ (59 ≤ q ∧ q < 69) → I q i = I0 q i) → CW I sp ns nstr nc d cs fr to → (∀ a' b', (a' < a ∧ b' < (RR d cs al ns).length) ∨ (a' = a ∧ b' < b) → I (59 + a') b' = gapF d cs (I0 1 8) (RR d cs al ns) a' b') → aE z mX1_gather (rK 3) Q 153 [some (.ref 54), some (.ref 1), some (.int (nI a)), some (.int (nI b)), l4] [] (nn pl) (MM I sp pl) 0 0 := by
  have hA10 := hA.2.1
  have hns := hW.1.2
  intro n
  induction n with
  | zero =>
    intro b hb I l4 hfr hWI hg
    have hb : b = (RR d cs al ns).length := by omega
    subst hb
    refine aE_iload_n dX1_gather_153 rfl rfl ?_
    refine aE_aload_n dX1_gather_154 rfl rfl ?_
    refine aE_geti dX1_gather_155 fw_X1_37 (lt_nn (by decide)) rfl (by decide) rfl ?_
    refine aE_icmp_ge (tgt := 215) dX1_gather_158 (by decide) (fun h158 => ?_) (fun h158 => absurd (by rw [hfr 54 1 (by omega) (by omega) (by omega), h1]; exact Int32.le_refl _) h158)
    exact k0 I _ _ hfr hWI (fun a' b' h1 h2 => hg a' b' (by omega))
  | succ n ih =>
    intro b hb I l4 hfr hWI hg
    have h8 := hWI.2.1.2
    have hWJ := CW_tabI hWI
    have hT := CW_tab hWI
    have hTo : ∀ q i, (q < 8 ∨ 16 ≤ q) ∧ (q ≠ 2 ∨ i ≠ 8) → tabI I nc (dTab fr to (I 5) (I 6) 0 nstr) q i = I q i := fun q i h => tabI_o h8 h
    have ra := rt0_ex ha
    have rb := rt0_ex (show b < (RR d cs al ns).length by omega)
    obtain ⟨sa, Sa, hpa⟩ : ∃ x y, rt0 (RR d cs al ns) a = (x, y) := ⟨_, _, rfl⟩
    obtain ⟨sb, Sb, hpb⟩ : ∃ x y, rt0 (RR d cs al ns) b = (x, y) := ⟨_, _, rfl⟩
    rw [hpa] at ra
    rw [hpb] at rb
    obtain ⟨i, i1, i2, i3, i4, i5, i6, i7, i8, i9, i10, i11⟩ := FlR_get hA hR ra
    obtain ⟨j, j1, j2, j3, j4, j5, j6, j7, j8, j9, j10, j11⟩ := FlR_get hA hR rb
    have hsa : sa < 4 := by omega
    obtain ⟨c1, c2, -, -⟩ := hWI.2.2.2.2.2.2.2.2.2.2.1 sa i3
    obtain ⟨f1, f2⟩ := fs1_some (d := d) (c := cs sb) j7 j9
    obtain ⟨c3, c4, -, -⟩ := hWI.2.2.2.2.2.2.2.2.1 _ f2
    have hgap : gapF d cs (I0 1 8) (RR d cs al ns) a b = d.2.2.1 (cs sa).1 (d.2.1 (fs1 d (cs sb) Sb)) + I0 1 8 + lS d (cs sb) Sb := by
      unfold gapF wy1; rw [hpa, hpb]
    have ih2 := fun l4 => ih (b + 1) (by omega) (iu (tabI I nc (dTab fr to (I 5) (I 6) 0 nstr)) (59 + a) b (gapF d cs (I0 1 8) (RR d cs al ns) a b)) l4 (fun q w x y z => by rw [iu_ne (by omega), hTo q w (by omega)]; exact hfr q w x y z) (CW_fr hWJ (fun q w _ _ _ _ _ _ => iu_ne (by omega)) (fun _ x y hx hy => (iu_ne (by omega)).trans (hT x y hx hy))) (fun a' b' hab => by
      by_cases q : a' = a ∧ b' = b
      · obtain ⟨rfl, rfl⟩ := q; exact iu_eq
      · rw [iu_ne (by omega), hTo _ _ (by omega)]
        exact hg a' b' (by omega))
    rw [hgap] at ih2
    have hfr1 : ∀ q i, 16 ≤ q → ¬ (59 ≤ q ∧ q < 69) → tabI I nc (dTab fr to (I 5) (I 6) 0 nstr) q i = I0 q i := fun q i a b => (hTo q i (by omega)).trans (hfr q i (by omega) (by omega) (by omega))
    have hsl : tabI I nc (dTab fr to (I 5) (I 6) 0 nstr) 1 8 = I0 1 8 := (hTo 1 8 (by omega)).trans (hfr 1 8 (by omega) (by omega) (by omega))
    have hcor : tabI I nc (dTab fr to (I 5) (I 6) 0 nstr) (28 + 4 * sa) 1 = nI (cs sa).1 := (hTo _ _ (by omega)).trans c2
    refine aE_iload_n dX1_gather_153 rfl rfl ?_
    refine aE_aload_n dX1_gather_154 rfl rfl ?_
    refine aE_geti dX1_gather_155 fw_X1_37 (lt_nn (by decide)) rfl (by decide) rfl ?_
    refine aE_icmp_ge (tgt := 215) dX1_gather_158 (by decide) (fun h158 => absurd h158 (by rw [hfr 54 1 (by omega) (by omega) (by omega), h1]; exact nI_ge (by omega) (by omega))) (fun h158 => ?_)
    refine aE_aload_n dX1_gather_161 rfl rfl ?_
    refine aE_getf (v := .ref 2) dX1_gather_162 fw_X1_71 (lt_nn (by decide)) rfl rfl ?_
    refine aE_cVr dX1_gather_165 lk_X1_75 mv_X10_table (c_table nc hWI.2.1.1 h8 nstr fr to hWI.2.2.1.1 hWI.2.2.1.2 hWI.2.2.2.1 hWI.2.2.2.2.1) rfl (lt_nn (by decide)) rfl rfl ⟨by decide, by decide⟩ (Nat.le_of_ble_eq_true rfl) ⟨rfl, rfl⟩ ⟨by decide, by decide⟩ ?_
    generalize tabI I nc (dTab fr to (I 5) (I 6) 0 nstr) = I2 at *
    have hP2 : PCs I2 ns d cs al := PCs_fr hns hP (fun q i h => hfr1 q i (by omega) (by omega))
    have hR2 : FlR I2 (RI d cs al ns) := fun r s i hr => ⟨(hfr1 55 r (by omega) (by omega)).trans (hR r s i hr).1, (hfr1 57 r (by omega) (by omega)).trans (hR r s i hr).2⟩
    refine aE_aload_n dX1_gather_168 rfl rfl ?_
    refine aE_aload_n dX1_gather_169 rfl rfl ?_
    refine aE_iload_n dX1_gather_170 rfl rfl ?_
    refine aE_cVr dX1_gather_171 lk_X1_81 mv_X1_schoolOf (c_schoolOf a sa (by omega) hsa ((hfr1 55 a (by omega) (by omega)).trans i4)) rfl (lt_nn (by decide)) rfl rfl ⟨by decide, by decide⟩ (Nat.le_of_ble_eq_true rfl) ⟨rfl, rfl⟩ ⟨by decide, by decide⟩ ?_
    refine aE_geti dX1_gather_174 fw_X1_85 (lt_nn (by omega)) (sh_sch hsa) (mc_sch (i := 1) hsa (by decide)).1 (mc_sch (i := 1) hsa (by decide)).2 ?_
    refine aE_top hcor ?_
    refine aE_aald (t := 105) dX1_gather_177 (lt_nn (by decide)) ⟨by decide, by decide⟩ rfl (by decide) rfl (show (cs sa).1 < 8 by omega) (mm_plain (show (cs sa).1 < 8 by omega)) ?_
    refine aE_aload_n dX1_gather_178 rfl rfl ?_
    refine aE_aload_n dX1_gather_179 rfl rfl ?_
    refine aE_iload_n dX1_gather_180 rfl rfl ?_
    refine aE_cVi dX1_gather_181 lk_X1_88 mv_X1_firstCorner (c_firstCorner hWJ hA hP2 hR2 b sb Sb rb) rfl (lt_nn (by decide)) rfl rfl ⟨by decide, by decide⟩ (Nat.le_of_ble_eq_true rfl) ⟨rfl, rfl⟩ ⟨by decide, by decide⟩ ?_
    refine aE_ildM dX1_gather_184 (lt_nn (by omega)) (sh_plain (show (cs sa).1 < 8 by omega)) (by decide) rfl (by omega) ?_
    refine aE_top (hT _ _ c1 c3) ?_
    refine aE_istore dX1_gather_185 (by decide) rfl (aE_loc (ls' := [_, _, _, _, _]) rfl ?_)
    refine aE_aload_n dX1_gather_187 rfl rfl ?_
    refine aE_getf (v := .ref 58) dX1_gather_188 fw_X1_23 (lt_nn (by decide)) rfl rfl ?_
    refine aE_iload_n dX1_gather_191 rfl rfl ?_
    refine aE_aald (t := 105) dX1_gather_192 (lt_nn (by decide)) ⟨by decide, by decide⟩ rfl (by decide) rfl (show a < 10 by omega) (mm_gap (show a < 10 by omega)) ?_
    refine aE_iload_n dX1_gather_193 rfl rfl ?_
    refine aE_iload dX1_gather_194 rfl ?_
    refine aE_aload_n dX1_gather_196 rfl rfl ?_
    refine aE_geti dX1_gather_197 fw_X1_92 (lt_nn (by decide)) rfl (by decide) rfl ?_
    refine aE_top hsl ?_
    refine aE_iadd dX1_gather_200 ?_
    refine aE_aload_n dX1_gather_201 rfl rfl ?_
    refine aE_aload_n dX1_gather_202 rfl rfl ?_
    refine aE_iload_n dX1_gather_203 rfl rfl ?_
    refine aE_cVi dX1_gather_204 lk_X1_95 mv_X1_lengthOf (c_lengthOf hA hns hP2 hR2 b sb Sb rb) rfl (lt_nn (by decide)) rfl rfl ⟨by decide, by decide⟩ (Nat.le_of_ble_eq_true rfl) ⟨rfl, rfl⟩ ⟨by decide, by decide⟩ ?_
    refine aE_iadd dX1_gather_207 ?_
    refine aE_istM dX1_gather_208 (lt_nn (by omega)) (sh_gap (show a < 10 by omega)) (by decide) rfl (by omega) ?_
    refine aE_iinc dX1_gather_209 rfl (a_inc _) (by decide) rfl (aE_loc (ls' := [_, _, _, _, _]) rfl ?_)
    refine aE_goto (tgt := 153) dX1_gather_212 (by decide) ?_
    exact ih2 _
theorem l_gap1 (I0 : Nat → Nat → Int32) (hW : CW I0 sp ns nstr nc d cs fr to) (hA : AlOK d cs al ns) (hP : PCs I0 ns d cs al) (hR : FlR I0 (RI d cs al ns)) (h1 : I0 54 1 = nI (RR d cs al ns).length) (h0 : I0 54 0 = (if allH d cs al ns then 1 else 0)) (hQ : ∀ (J : Nat → Nat → Int32), (∀ q i, ¬ (8 ≤ q ∧ q < 16) → ¬ (q = 2 ∧ i = 8) → ¬ (59 ≤ q ∧ q < 69) → J q i = I0 q i) → CW J sp ns nstr nc d cs fr to → (allH d cs al ns = true → (∀ a' b', a' < (RR d cs al ns).length → b' < (RR d cs al ns).length → J (59 + a') b' = gapF d cs (I0 1 8) (RR d cs al ns) a' b')) → Q none (nn pl) (MM J sp pl)) : ∀ (n a : Nat), a + n = (RR d cs al ns).length → ∀ (I : Nat → Nat → Int32) (l3 l4 : Option Value), (∀ q i, ¬ (8 ≤ q ∧ q < 16) → ¬ (q = 2 ∧ i = 8) → ¬ (59 ≤ q ∧ q < 69) → I q i = I0 q i) → CW I sp ns nstr nc d cs fr to → (allH d cs al ns = true → (∀ a' b', a' < a → b' < (RR d cs al ns).length → I (59 + a') b' = gapF d cs (I0 1 8) (RR d cs al ns) a' b')) → aE z mX1_gather (rK 3) Q 136 [some (.ref 54), some (.ref 1), some (.int (nI a)), l3, l4] [] (nn pl) (MM I sp pl) 0 0 := by
  have hA10 := hA.2.1
  cases hal : allH d cs al ns with
  | false =>
    rw [hal] at h0 hQ
    intro n a hn I l3 l4 hfr hWI hg
    refine aE_aload_n dX1_gather_136 rfl rfl ?_
    refine aE_geti dX1_gather_137 fw_X1_33 (lt_nn (by decide)) rfl (by decide) rfl ?_
    refine aE_top ((hfr 54 0 (by omega) (by omega) (by omega)).trans h0) ?_
    refine aE_if_eq (tgt := 221) dX1_gather_140 (by decide) (fun h140 => ?_) (fun h140 => absurd (rfl) h140)
    refine aE_vret dX1_gather_221 rfl ⟨by decide, by decide⟩ ?_
    exact hQ I hfr hWI (fun q => by cases q)
  | true =>
    rw [hal] at h0 hQ
    intro n
    induction n with
    | zero =>
      intro a hn I l3 l4 hfr hWI hg
      have hn : a = (RR d cs al ns).length := by omega
      subst hn
      refine aE_aload_n dX1_gather_136 rfl rfl ?_
      refine aE_geti dX1_gather_137 fw_X1_33 (lt_nn (by decide)) rfl (by decide) rfl ?_
      refine aE_top ((hfr 54 0 (by omega) (by omega) (by omega)).trans h0) ?_
      refine aE_if_eq (tgt := 221) dX1_gather_140 (by decide) (fun h140 => absurd h140 (by decide)) (fun h140 => ?_)
      refine aE_iload_n dX1_gather_143 rfl rfl ?_
      refine aE_aload_n dX1_gather_144 rfl rfl ?_
      refine aE_geti dX1_gather_145 fw_X1_37 (lt_nn (by decide)) rfl (by decide) rfl ?_
      refine aE_icmp_ge (tgt := 221) dX1_gather_148 (by decide) (fun h148 => ?_) (fun h148 => absurd (by rw [hfr 54 1 (by omega) (by omega) (by omega), h1]; exact Int32.le_refl _) h148)
      refine aE_vret dX1_gather_221 rfl ⟨by decide, by decide⟩ ?_
      exact hQ I hfr hWI hg
    | succ n ih =>
      intro a hn I l3 l4 hfr hWI hg
      refine aE_aload_n dX1_gather_136 rfl rfl ?_
      refine aE_geti dX1_gather_137 fw_X1_33 (lt_nn (by decide)) rfl (by decide) rfl ?_
      refine aE_top ((hfr 54 0 (by omega) (by omega) (by omega)).trans h0) ?_
      refine aE_if_eq (tgt := 221) dX1_gather_140 (by decide) (fun h140 => absurd h140 (by decide)) (fun h140 => ?_)
      refine aE_iload_n dX1_gather_143 rfl rfl ?_
      refine aE_aload_n dX1_gather_144 rfl rfl ?_
      refine aE_geti dX1_gather_145 fw_X1_37 (lt_nn (by decide)) rfl (by decide) rfl ?_
      refine aE_icmp_ge (tgt := 221) dX1_gather_148 (by decide) (fun h148 => absurd h148 (by rw [hfr 54 1 (by omega) (by omega) (by omega), h1]; exact nI_ge (by omega) (by omega))) (fun h148 => ?_)
      refine aE_iconst (v := 0) dX1_gather_151 rfl ?_
      refine aE_istore_n dX1_gather_152 rfl (by decide) rfl (aE_loc (ls' := [_, _, _, _, _]) rfl ?_)
      refine l_gap2 I0 hW hA hP hR h1 a (by omega) (fun J l3 l4 j1 j2 j3 => ?_) (RR d cs al ns).length 0 (by omega) I _ hfr hWI (fun a' b' h => hg rfl a' b' (by omega) (by omega))
      have ih2 := fun l3 l4 => ih (a + 1) (by omega) J l3 l4 j1 j2 (fun _ => j3)
      refine aE_iinc dX1_gather_215 rfl (a_inc _) (by decide) rfl (aE_loc (ls' := [_, _, _, _, _]) rfl ?_)
      refine aE_goto (tgt := 136) dX1_gather_218 (by decide) ?_
      exact ih2 _ _
theorem c_gather (hW : CW I sp ns nstr nc d cs fr to) (hA : AlOK d cs al ns) (hP : PCs I ns d cs al) (hQ : ∀ J, (∀ q i, ¬ (8 ≤ q ∧ q < 16) → ¬ (q = 2 ∧ i = 8) → ¬ (59 ≤ q ∧ q < 69) → ¬ (q = 54 ∧ i < 3) → q ≠ 55 → q ≠ 57 → J q i = I q i) → CW J sp ns nstr nc d cs fr to → FlC J ns d cs al (I 1 8) → Q none (nn pl) (MM J sp pl)) : aRuns mX1_gather (rK 3) [.ref 54, .ref 1] (nn pl) (MM I sp pl) Q := by
  have hns := hW.1.2
  have hA10 := hA.2.1
  refine aRuns_of pn_X1_gather (Nat.le_of_ble_eq_true rfl) (fun z => aE_loc (ls' := [_, _, _, _, _]) rfl ?_)
  refine aE_aload_n dX1_gather_0 rfl rfl ?_
  refine aE_iconst (v := 1) dX1_gather_1 rfl ?_
  refine aE_puti dX1_gather_2 fp_X1_33 (Or.inl rfl) (lt_nn (by decide)) rfl (fun _ => a_narZ (by first | exact Or.inl rfl | exact Or.inr rfl | assumption)) (by decide) rfl ?_
  refine aE_aload_n dX1_gather_5 rfl rfl ?_
  refine aE_iconst (v := 0) dX1_gather_6 rfl ?_
  refine aE_puti dX1_gather_7 fp_X1_37 (Or.inl rfl) (lt_nn (by decide)) rfl (fun _ => ⟨rfl, rfl⟩) (by decide) rfl ?_
  refine aE_aload_n dX1_gather_10 rfl rfl ?_
  refine aE_iconst (v := 0) dX1_gather_11 rfl ?_
  refine aE_puti dX1_gather_12 fp_X1_45 (Or.inl rfl) (lt_nn (by decide)) rfl (fun _ => ⟨rfl, rfl⟩) (by decide) rfl ?_
  refine aE_iconst (v := 0) dX1_gather_15 rfl ?_
  refine aE_istore_n dX1_gather_16 rfl (by decide) rfl (aE_loc (ls' := [_, _, _, _, _]) rfl ?_)
  refine l_gath1 I hW.1.1 hA hns hP (fun J l2 l3 l4 j1 j2 j3 j4 j5 => ?_) ns 0 (by omega) _ _ _ (fun q i a b c => by rw [iu_ne (by omega), iu_ne (by omega), iu_ne (by omega)]) (by rw [iu_ne (by omega), iu_ne (by omega), iu_eq]; rfl) (by rw [iu_eq]; rfl) (by rw [iu_ne (by omega), iu_eq]; rfl) (fun r s i hr => by simp [RI] at hr)
  have h8 := hW.2.1.2
  have hWJ : CW J sp ns nstr nc d cs fr to := CW_fr hW (fun q i a b c d e f => j1 q i (by omega) (by omega) (by omega)) (fun hm a b ha hb => by
    rw [j1 2 8 (by omega) (by omega) (by omega)] at hm
    rw [j1 _ _ (by omega) (by omega) (by omega)]
    exact hW.2.2.2.2.2.2.2.2.2.2.2 hm a b ha hb)
  have hPJ : PCs J ns d cs al := PCs_fr hns hP (fun q i h => j1 q i (by omega) (by omega) (by omega))
  have k2 := l_gap1 (z := z) (Q := Q) (pl := pl) J hWJ hA hPJ j5 j4 j2 (fun K k1 k2 k3 => by
    have f18 : J 1 8 = I 1 8 := j1 1 8 (by omega) (by omega) (by omega)
    rw [f18] at k3
    exact hQ K (fun q i a b c d e f => (k1 q i a b c).trans (j1 q i (by omega) (by omega) (by omega))) k2 ⟨(k1 _ _ (by omega) (by omega) (by omega)).trans j2, (k1 _ _ (by omega) (by omega) (by omega)).trans j4, (k1 _ _ (by omega) (by omega) (by omega)).trans j3, fun r s i hr => ⟨(k1 _ _ (by omega) (by omega) (by omega)).trans (j5 r s i hr).1, (k1 _ _ (by omega) (by omega) (by omega)).trans (j5 r s i hr).2⟩, fun h a b ha hb => k3 h a b ha hb⟩) (RR d cs al ns).length 0 (by omega) J
  refine aE_iconst (v := 0) dX1_gather_134 rfl ?_
  refine aE_istore_n dX1_gather_135 rfl (by decide) rfl (aE_loc (ls' := [_, _, _, _, _]) rfl ?_)
  exact k2 _ _ (fun _ _ _ _ _ => rfl) hWJ (fun _ a' b' h => absurd h (by omega))
end CFL
