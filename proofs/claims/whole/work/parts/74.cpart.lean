section CPL2
variable {z : Nat × (Nat → Int32)} {n : Nat} {mem : aM} {I : Nat → Nat → Int32} {sp : Nat → Nat} {pl : Bool} {Q : Option Value → Nat → aM → Prop} {R : Room}
theorem l_part (d : pD) (c : pC) (S : Nat) (hS : S < 1024) (h0 : S ≠ 0) (hd : d01 d) (hc : c.2.toInt ≤ 90) (I0 : Nat → Nat → Int32) (hlen : ∀ R, R ≠ 0 → bdiff R S = 0 → I0 163 R = if rS d c R then lS d c R else 1000000) (hval : ∀ R, R < S → bdiff R S = 0 → I0 164 R = vC d c R) (hQ : ∀ J, (∀ q i, ¬ ((q = 164 ∨ q = 165) ∧ i = S) → J q i = I0 q i) → J 164 S = vC d c S → ((pS d c S).1 < 1000000 → J 165 S = nI (pS d c S).2.2) → Q none (nn true) (MM J sp true)) : ∀ (t : Nat), bdiff t (bdiff S (2 ^ loI S)) = 0 → ∀ (I : Nat → Nat → Int32) (val : Int32) (pk : Nat) (l5 l6 : Option Value), (∀ q i, ¬ ((q = 164 ∨ q = 165) ∧ i = S) → I q i = I0 q i) → I 164 S = val → I 165 S = nI pk → DSC d c S (t + 1) val pk → aE z mX5_part (rK 0) Q 27 [some (.ref 147), some (.int (nI S)), some (.int (nI (2 ^ loI S))), some (.int (nI (bdiff S (2 ^ loI S)))), some (.int (nI t)), l5, l6] [] (nn true) (MM I sp true) 0 0 := by
  obtain ⟨lb1, lb2, lb3⟩ := loI_tb S hS h0
  intro t
  induction t using Nat.strongRecOn with
  | _ t ih =>
    intro hto I val pk l5 l6 hfr hv hp hD
    have hle := bdiff_le S (2 ^ loI S)
    have htle := bsub_le hto
    have hlo : ∀ X, (bdiff X (2 ^ loI S)).testBit (loI S) = false := fun X => by rw [bdiff_tb, Nat.testBit_two_pow_self]; simp
    have hPs : bdiff (2 ^ loI S ||| t) S = 0 := by
      apply Nat.eq_of_testBit_eq
      intro i
      rw [Nat.zero_testBit, bdiff_tb]
      cases hi : (2 ^ loI S ||| t).testBit i with
      | false => rfl
      | true =>
        have : S.testBit i = true := by
          rw [Nat.testBit_or, Nat.testBit_two_pow, Bool.or_eq_true, decide_eq_true_eq] at hi
          rcases hi with q | q
          · rw [← q]; exact lb1
          · exact bsub_tb (bdiff_sub S (2 ^ loI S)) (bsub_tb hto q)
        rw [this]; rfl
    have hPlo : (2 ^ loI S ||| t).testBit (loI S) = true := by rw [Nat.testBit_or, Nat.testBit_two_pow_self]; rfl
    have hP0 : (2 ^ loI S ||| t) ≠ 0 := fun q => by rw [q] at hPlo; simp at hPlo
    have hPle := bsub_le hPs
    have hrlt := bdiff_lt2 lb1 hPlo
    have hR := hlen (2 ^ loI S ||| t) hP0 hPs
    have hV := hval (bdiff S (2 ^ loI S ||| t)) hrlt (bdiff_sub _ _)
    have hcd : cdP (rS d c) S (2 ^ loI S ||| t) = rS d c (2 ^ loI S ||| t) := by unfold cdP; rw [decide_eq_true hPs, hPlo]; rfl
    have hvb := DSC_val hd hc hS hD
    have hl := lS_b (c := c) hd (2 ^ loI S ||| t)
    -- behind this subset
    have next : ∀ (K : Nat → Nat → Int32) (val2 : Int32) (pk2 : Nat) (l5 l6 : Option Value), (∀ q i, ¬ ((q = 164 ∨ q = 165) ∧ i = S) → K q i = I0 q i) → K 164 S = val2 → K 165 S = nI pk2 → DSC d c S t val2 pk2 → aE z mX5_part (rK 0) Q 100 [some (.ref 147), some (.int (nI S)), some (.int (nI (2 ^ loI S))), some (.int (nI (bdiff S (2 ^ loI S)))), some (.int (nI t)), l5, l6] [] (nn true) (MM K sp true) 0 0 := by
      intro K val2 pk2 l5 l6 k1 k2 k3 k4
      by_cases ht0 : t = 0
      · subst ht0
        obtain ⟨e1, e2⟩ := DSC_end hd hc hS h0 k4
        refine aE_iload dX5_part_100 rfl ?_
        refine aE_if_ne (tgt := 109) dX5_part_102 (by decide) (fun h102 => absurd (rfl) h102) (fun h102 => ?_)
        refine aE_iconst (v := -1) dX5_part_105 rfl ?_
        refine aE_goto (tgt := 115) dX5_part_106 (by decide) ?_
        refine aE_istore dX5_part_115 (by decide) rfl (aE_loc (ls' := [_, _, _, _, _, _, _]) rfl ?_)
        refine aE_goto (tgt := 27) dX5_part_117 (by decide) ?_
        refine aE_iload dX5_part_27 rfl ?_
        refine aE_if_lt (tgt := 120) dX5_part_29 (by decide) (fun h29 => ?_) (fun h29 => absurd (by decide) h29)
        refine aE_vret dX5_part_120 rfl ⟨by decide, by decide⟩ ?_
        exact hQ K k1 (k2.trans e1) (fun q => k3.trans (congrArg nI (e2 q)))
      · have hnx : nI t - 1 &&& nI (bdiff S (2 ^ loI S)) = nI ((t - 1) &&& bdiff S (2 ^ loI S)) := by
          obtain ⟨u, rfl⟩ : ∃ u, t = u + 1 := ⟨t - 1, by omega⟩
          rw [nI_pred, nb_and]; rfl
        have hsm : bdiff ((t - 1) &&& bdiff S (2 ^ loI S)) (bdiff S (2 ^ loI S)) = 0 := by
          apply Nat.eq_of_testBit_eq
          intro i
          rw [Nat.zero_testBit, bdiff_tb, Nat.testBit_and]
          cases (t - 1).testBit i <;> cases (bdiff S (2 ^ loI S)).testBit i <;> rfl
        have hltt : (t - 1) &&& bdiff S (2 ^ loI S) ≤ t - 1 := Nat.and_le_left
        have h27 := fun l5 l6 => ih ((t - 1) &&& bdiff S (2 ^ loI S)) (by omega) hsm K val2 pk2 l5 l6 k1 k2 k3 (DSC_down (by omega) ht0 hto k4)
        refine aE_iload dX5_part_100 rfl ?_
        refine aE_if_ne (tgt := 109) dX5_part_102 (by decide) (fun h102 => ?_) (fun h102 => absurd h102 (fun q => ht0 ((nI_eq (b := 0) (by omega) (by omega)).mp q)))
        refine aE_iload dX5_part_109 rfl ?_
        refine aE_iconst (v := 1) dX5_part_111 rfl ?_
        refine aE_isub dX5_part_112 ?_
        refine aE_iload_n dX5_part_113 rfl rfl ?_
        refine aE_iand dX5_part_114 ?_
        refine aE_top hnx ?_
        refine aE_istore dX5_part_115 (by decide) rfl (aE_loc (ls' := [_, _, _, _, _, _, _]) rfl ?_)
        refine aE_goto (tgt := 27) dX5_part_117 (by decide) ?_
        exact h27 _ _
    have skip1 : ¬ vd d c S (2 ^ loI S ||| t) → ∀ l5 l6, aE z mX5_part (rK 0) Q 100 [some (.ref 147), some (.int (nI S)), some (.int (nI (2 ^ loI S))), some (.int (nI (bdiff S (2 ^ loI S)))), some (.int (nI t)), l5, l6] [] (nn true) (MM I sp true) 0 0 := fun hno l5 l6 => next I val pk l5 l6 hfr hv hp (DSC_no hD (fun q => absurd q hno) (fun _ => hno))
    cases hrs : rS d c (2 ^ loI S ||| t) with
    | false =>
      have hR2 : I 163 (2 ^ loI S ||| t) = 1000000 := (hfr 163 _ (by omega)).trans (by rw [hR, hrs]; rfl)
      have hno : ¬ vd d c S (2 ^ loI S ||| t) := fun q => by have := q.1; rw [hcd, hrs] at this; cases this
      refine aE_iload dX5_part_27 rfl ?_
      refine aE_if_lt (tgt := 120) dX5_part_29 (by decide) (fun h29 => absurd h29 (nI_pos (by omega))) (fun h29 => ?_)
      refine aE_iload_n dX5_part_32 rfl rfl ?_
      refine aE_iload dX5_part_33 rfl ?_
      refine aE_ior dX5_part_35 ?_
      refine aE_top (nb_or _ _) ?_
      refine aE_istore dX5_part_36 (by decide) rfl (aE_loc (ls' := [_, _, _, _, _, _, _]) rfl ?_)
      refine aE_aload_n dX5_part_38 rfl rfl ?_
      refine aE_getf (v := .ref 163) dX5_part_39 fw_X5_29 (lt_nt (by decide)) rfl rfl ?_
      refine aE_iload dX5_part_42 rfl ?_
      refine aE_ildM dX5_part_44 (lt_nt (by decide)) rfl (by decide) rfl (by omega) ?_
      refine aE_top hR2 ?_
      refine aE_ldc dX5_part_45 ct_X5_46 ?_
      refine aE_icmp_ge (tgt := 100) dX5_part_47 (by decide) (fun h47 => ?_) (fun h47 => absurd (Int32.le_refl _) h47)
      exact skip1 hno _ _
    | true =>
      have hb2 := rS_le hrs
      have hR2 : I 163 (2 ^ loI S ||| t) = lS d c (2 ^ loI S ||| t) := (hfr 163 _ (by omega)).trans (by rw [hR, hrs]; rfl)
      have hV2 : I 164 (bdiff S (2 ^ loI S ||| t)) = vC d c (bdiff S (2 ^ loI S ||| t)) := (hfr 164 _ (by omega)).trans hV
      have hlt47 : ¬ (1000000 : Int32) ≤ lS d c (2 ^ loI S ||| t) := fun q => by rw [Int32.le_iff_toInt_le, i32_M] at q; omega
      have hw1 : (10000 + lS d c (2 ^ loI S ||| t)).toInt = 10000 + (lS d c (2 ^ loI S ||| t)).toInt := i_add (by rw [i32_T]; omega) (by rw [i32_T]; omega)
      by_cases hrp : (pS d c (bdiff S (2 ^ loI S ||| t))).1 < 1000000
      · have hvd : vd d c S (2 ^ loI S ||| t) := ⟨by rw [hcd, hrs], hrp⟩
        obtain ⟨m, hm, r1, r2, r3, r4⟩ := vC_i hd hc (S := bdiff S (2 ^ loI S ||| t)) (by omega) hrp
        have hw : (10000 + lS d c (2 ^ loI S ||| t) + vC d c (bdiff S (2 ^ loI S ||| t))).toInt = ky d c S (2 ^ loI S ||| t) := by
          rw [i_add (by omega) (by omega), hw1]; unfold ky; omega
        refine aE_iload dX5_part_27 rfl ?_
        refine aE_if_lt (tgt := 120) dX5_part_29 (by decide) (fun h29 => absurd h29 (nI_pos (by omega))) (fun h29 => ?_)
        refine aE_iload_n dX5_part_32 rfl rfl ?_
        refine aE_iload dX5_part_33 rfl ?_
        refine aE_ior dX5_part_35 ?_
        refine aE_top (nb_or _ _) ?_
        refine aE_istore dX5_part_36 (by decide) rfl (aE_loc (ls' := [_, _, _, _, _, _, _]) rfl ?_)
        refine aE_aload_n dX5_part_38 rfl rfl ?_
        refine aE_getf (v := .ref 163) dX5_part_39 fw_X5_29 (lt_nt (by decide)) rfl rfl ?_
        refine aE_iload dX5_part_42 rfl ?_
        refine aE_ildM dX5_part_44 (lt_nt (by decide)) rfl (by decide) rfl (by omega) ?_
        refine aE_top hR2 ?_
        refine aE_ldc dX5_part_45 ct_X5_46 ?_
        refine aE_icmp_ge (tgt := 100) dX5_part_47 (by decide) (fun h47 => absurd h47 (hlt47)) (fun h47 => ?_)
        refine aE_sipush (v := 10000) dX5_part_50 (by decide) ?_
        refine aE_aload_n dX5_part_53 rfl rfl ?_
        refine aE_getf (v := .ref 163) dX5_part_54 fw_X5_29 (lt_nt (by decide)) rfl rfl ?_
        refine aE_iload dX5_part_57 rfl ?_
        refine aE_ildM dX5_part_59 (lt_nt (by decide)) rfl (by decide) rfl (by omega) ?_
        refine aE_top hR2 ?_
        refine aE_iadd dX5_part_60 ?_
        refine aE_aload_n dX5_part_61 rfl rfl ?_
        refine aE_getf (v := .ref 164) dX5_part_62 fw_X5_32 (lt_nt (by decide)) rfl rfl ?_
        refine aE_iload_n dX5_part_65 rfl rfl ?_
        refine aE_iload dX5_part_66 rfl ?_
        refine aE_ixor dX5_part_68 ?_
        refine aE_top ((nb_xor _ _).trans (congrArg nI (xor_sub hPs))) ?_
        refine aE_ildM dX5_part_69 (lt_nt (by decide)) rfl (by decide) rfl (by omega) ?_
        refine aE_top hV2 ?_
        refine aE_iadd dX5_part_70 ?_
        refine aE_istore dX5_part_71 (by decide) rfl (aE_loc (ls' := [_, _, _, _, _, _, _]) rfl ?_)
        refine aE_iload dX5_part_73 rfl ?_
        refine aE_aload_n dX5_part_75 rfl rfl ?_
        refine aE_getf (v := .ref 164) dX5_part_76 fw_X5_32 (lt_nt (by decide)) rfl rfl ?_
        refine aE_iload_n dX5_part_79 rfl rfl ?_
        refine aE_ildM dX5_part_80 (lt_nt (by decide)) rfl (by decide) rfl (by omega) ?_
        refine aE_top hv ?_
        refine aE_icmp_gt (tgt := 100) dX5_part_81 (by decide) (fun h81 => ?_) (fun h81 => ?_)
        · skip
          have hgt : val.toInt < ky d c S (2 ^ loI S ||| t) := by rw [← hw]; exact Int32.lt_iff_toInt_lt.mp h81
          refine next I val pk _ _ hfr hv hp (DSC_no hD (fun _ => hgt) (fun q => absurd hgt (by rw [q, i32_M]; have := ky_b hd hc hS hvd; omega)))
        · skip
          refine aE_aload_n dX5_part_84 rfl rfl ?_
          refine aE_getf (v := .ref 164) dX5_part_85 fw_X5_32 (lt_nt (by decide)) rfl rfl ?_
          refine aE_iload_n dX5_part_88 rfl rfl ?_
          refine aE_iload dX5_part_89 rfl ?_
          refine aE_istM dX5_part_91 (lt_nt (by decide)) rfl (by decide) rfl (by omega) ?_
          refine aE_aload_n dX5_part_92 rfl rfl ?_
          refine aE_getf (v := .ref 165) dX5_part_93 fw_X5_35 (lt_nt (by decide)) rfl rfl ?_
          refine aE_iload_n dX5_part_96 rfl rfl ?_
          refine aE_iload dX5_part_97 rfl ?_
          refine aE_istM dX5_part_99 (lt_nt (by decide)) rfl (by decide) rfl (by omega) ?_
          refine next _ _ (2 ^ loI S ||| t) _ _ (fun q i h => (iu_ne (by omega)).trans ((iu_ne (by omega)).trans (hfr q i h))) ((iu_ne (by omega)).trans iu_eq) iu_eq (DSC_yes hD hto hvd hw (Int32.le_iff_toInt_le.mp (Int32.not_lt.mp h81)))
      · have hno : ¬ vd d c S (2 ^ loI S ||| t) := fun q => hrp q.2
        have hvn : vC d c (bdiff S (2 ^ loI S ||| t)) = 1000000 := by unfold vC; rw [if_neg hrp]
        have hw : (10000 + lS d c (2 ^ loI S ||| t) + vC d c (bdiff S (2 ^ loI S ||| t))).toInt = 1010000 + (lS d c (2 ^ loI S ||| t)).toInt := by
          rw [hvn, i_add (by rw [i32_M]; omega) (by rw [i32_M]; omega), hw1, i32_M]; omega
        refine aE_iload dX5_part_27 rfl ?_
        refine aE_if_lt (tgt := 120) dX5_part_29 (by decide) (fun h29 => absurd h29 (nI_pos (by omega))) (fun h29 => ?_)
        refine aE_iload_n dX5_part_32 rfl rfl ?_
        refine aE_iload dX5_part_33 rfl ?_
        refine aE_ior dX5_part_35 ?_
        refine aE_top (nb_or _ _) ?_
        refine aE_istore dX5_part_36 (by decide) rfl (aE_loc (ls' := [_, _, _, _, _, _, _]) rfl ?_)
        refine aE_aload_n dX5_part_38 rfl rfl ?_
        refine aE_getf (v := .ref 163) dX5_part_39 fw_X5_29 (lt_nt (by decide)) rfl rfl ?_
        refine aE_iload dX5_part_42 rfl ?_
        refine aE_ildM dX5_part_44 (lt_nt (by decide)) rfl (by decide) rfl (by omega) ?_
        refine aE_top hR2 ?_
        refine aE_ldc dX5_part_45 ct_X5_46 ?_
        refine aE_icmp_ge (tgt := 100) dX5_part_47 (by decide) (fun h47 => absurd h47 (hlt47)) (fun h47 => ?_)
        refine aE_sipush (v := 10000) dX5_part_50 (by decide) ?_
        refine aE_aload_n dX5_part_53 rfl rfl ?_
        refine aE_getf (v := .ref 163) dX5_part_54 fw_X5_29 (lt_nt (by decide)) rfl rfl ?_
        refine aE_iload dX5_part_57 rfl ?_
        refine aE_ildM dX5_part_59 (lt_nt (by decide)) rfl (by decide) rfl (by omega) ?_
        refine aE_top hR2 ?_
        refine aE_iadd dX5_part_60 ?_
        refine aE_aload_n dX5_part_61 rfl rfl ?_
        refine aE_getf (v := .ref 164) dX5_part_62 fw_X5_32 (lt_nt (by decide)) rfl rfl ?_
        refine aE_iload_n dX5_part_65 rfl rfl ?_
        refine aE_iload dX5_part_66 rfl ?_
        refine aE_ixor dX5_part_68 ?_
        refine aE_top ((nb_xor _ _).trans (congrArg nI (xor_sub hPs))) ?_
        refine aE_ildM dX5_part_69 (lt_nt (by decide)) rfl (by decide) rfl (by omega) ?_
        refine aE_top hV2 ?_
        refine aE_iadd dX5_part_70 ?_
        refine aE_istore dX5_part_71 (by decide) rfl (aE_loc (ls' := [_, _, _, _, _, _, _]) rfl ?_)
        refine aE_iload dX5_part_73 rfl ?_
        refine aE_aload_n dX5_part_75 rfl rfl ?_
        refine aE_getf (v := .ref 164) dX5_part_76 fw_X5_32 (lt_nt (by decide)) rfl rfl ?_
        refine aE_iload_n dX5_part_79 rfl rfl ?_
        refine aE_ildM dX5_part_80 (lt_nt (by decide)) rfl (by decide) rfl (by omega) ?_
        refine aE_top hv ?_
        refine aE_icmp_gt (tgt := 100) dX5_part_81 (by decide) (fun h81 => ?_) (fun h81 => absurd (by rw [Int32.lt_iff_toInt_lt, hw]; omega) h81)
        exact skip1 hno _ _
theorem c_part (d : pD) (c : pC) (S : Nat) (hS : S < 1024) (h0 : S ≠ 0) (hd : d01 d) (hc : c.2.toInt ≤ 90) (hlen : ∀ R, R ≠ 0 → bdiff R S = 0 → I 163 R = if rS d c R then lS d c R else 1000000) (hval : ∀ R, R < S → bdiff R S = 0 → I 164 R = vC d c R) (hQ : ∀ J, (∀ q i, ¬ ((q = 164 ∨ q = 165) ∧ i = S) → J q i = I q i) → J 164 S = vC d c S → ((pS d c S).1 < 1000000 → J 165 S = nI (pS d c S).2.2) → Q none (nn true) (MM J sp true)) : aRuns mX5_part (rK 0) [.ref 147, .int (nI S)] (nn true) (MM I sp true) Q := by
  refine aRuns_of pn_X5_part (Nat.le_of_ble_eq_true rfl) (fun z => aE_loc (ls' := [_, _, _, _, _, _, _]) rfl ?_)
  obtain ⟨lb1, lb2, lb3⟩ := loI_tb S hS h0
  have hsub : bdiff (2 ^ loI S) S = 0 := by
    apply Nat.eq_of_testBit_eq
    intro i
    rw [Nat.zero_testBit, bdiff_tb, Nat.testBit_two_pow]
    by_cases e : loI S = i
    · subst e; rw [lb1]; simp
    · simp [e]
  refine aE_iload_n dX5_part_0 rfl rfl ?_
  refine aE_iload_n dX5_part_1 rfl rfl ?_
  refine aE_ineg dX5_part_2 ?_
  refine aE_iand dX5_part_3 ?_
  refine aE_top (x' := nI (2 ^ loI S)) ((loI_all S hS).trans (if_neg h0)) ?_
  refine aE_istore_n dX5_part_4 rfl (by decide) rfl (aE_loc (ls' := [_, _, _, _, _, _, _]) rfl ?_)
  refine aE_iload_n dX5_part_5 rfl rfl ?_
  refine aE_iload_n dX5_part_6 rfl rfl ?_
  refine aE_ixor dX5_part_7 ?_
  refine aE_top ((nb_xor _ _).trans (congrArg nI (xor_sub hsub))) ?_
  refine aE_istore_n dX5_part_8 rfl (by decide) rfl (aE_loc (ls' := [_, _, _, _, _, _, _]) rfl ?_)
  refine aE_aload_n dX5_part_9 rfl rfl ?_
  refine aE_getf (v := .ref 164) dX5_part_10 fw_X5_32 (lt_nt (by decide)) rfl rfl ?_
  refine aE_iload_n dX5_part_13 rfl rfl ?_
  refine aE_ldc dX5_part_14 ct_X5_46 ?_
  refine aE_istM dX5_part_16 (lt_nt (by decide)) rfl (by decide) rfl hS ?_
  refine aE_aload_n dX5_part_17 rfl rfl ?_
  refine aE_getf (v := .ref 165) dX5_part_18 fw_X5_35 (lt_nt (by decide)) rfl rfl ?_
  refine aE_iload_n dX5_part_21 rfl rfl ?_
  refine aE_iconst (v := 0) dX5_part_22 rfl ?_
  refine aE_istM dX5_part_23 (lt_nt (by decide)) rfl (by decide) rfl hS ?_
  refine aE_iload_n dX5_part_24 rfl rfl ?_
  refine aE_istore dX5_part_25 (by decide) rfl (aE_loc (ls' := [_, _, _, _, _, _, _]) rfl ?_)
  exact l_part d c S hS h0 hd hc I hlen hval hQ (bdiff S (2 ^ loI S)) (bdiff_self _) _ 1000000 0 _ _ (fun q i h => (iu_ne (by omega)).trans (iu_ne (by omega))) ((iu_ne (by omega)).trans iu_eq) iu_eq DSC_0
end CPL2
