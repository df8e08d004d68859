/-- a set is a route -/
def rtB (n : Nat) (W : Nat → Nat → Int32) (hm pu : Nat → Int32) (may seats : Int32) (S : Nat) : Bool := decide (leB n W hm S ≤ may) && decide (sumB S pu n ≤ seats)
/-- since I0 only the best parting of S has been written -/
def frP (I0 : Nat → Nat → Int32) (S : Nat) (I : Nat → Nat → Int32) : Prop := ∀ q i, ¬ ((q = 124 ∨ q = 125 ∨ q = 126) ∧ i = S) → I q i = I0 q i
theorem frP_s {I0 I : Nat → Nat → Int32} {S q : Nat} {v : Int32} (h : frP I0 S I) (hq : q = 124 ∨ q = 125 ∨ q = 126) : frP I0 S (iu I q S v) :=
  fun r i hr => (iu_ne (by by_cases e : r = q; exact Or.inr (fun w => hr ⟨e ▸ hq, w⟩); exact Or.inl e)).trans (h r i hr)
theorem and_pow {a l : Nat} : a &&& 2 ^ l = 0 ↔ ¬ a.testBit l = true := by
  constructor
  · intro h q
    have := Nat.testBit_and a (2 ^ l) l
    rw [h, q, Nat.testBit_two_pow_self] at this
    simp at this
  · intro h
    apply Nat.eq_of_testBit_eq
    intro i
    rw [Nat.testBit_and, Nat.testBit_two_pow, Nat.zero_testBit]
    by_cases e : l = i
    · subst e; rw [Bool.eq_false_iff.mpr h]; rfl
    · rw [decide_eq_false e, Bool.and_false]
section MPL2
variable {z : Nat × (Nat → Int32)} {n : Nat} {mem : aM} {I : Nat → Nat → Int32} {sp : Nat → Nat} {pl : Bool} {Q : Option Value → Nat → aM → Prop} {R : Room}
theorem m_isRoute (nst sc S hc : Nat) (sa : Nat → Nat) (D : tT) (may : Int32) (hn : I 101 3 = nI nst) (h10 : nst ≤ 10) (hS : S < 1024) (hsc : sc < 4) (hmay : (if I 106 sc = 3 then I 101 8 / 2 else I 101 8) = may) (hle : I 123 S = leB nst (fun f g => D (sa f) (sa g)) (fun f => D (sa f) hc) S) : aRuns mX12_isRoute (rK 2) [.ref 101, .int (nI sc), .int (nI S)] (nn pl) (MM I sp pl) (a_ri (if rtB nst (fun f g => D (sa f) (sa g)) (fun f => D (sa f) hc) (I 112) may (I 101 7) S = true then 1 else 0) (nn pl) (MM I sp pl)) := by
  refine aRuns_of pn_X12_isRoute (Nat.le_of_ble_eq_true rfl) (fun z => aE_loc (ls' := [_, _, _]) rfl ?_)
  refine aE_aload_n dX12_isRoute_0 rfl rfl ?_
  refine aE_getf (v := .ref 123) dX12_isRoute_1 fw_X12_81 (lt_nn (by decide)) rfl rfl ?_
  refine aE_iload_n dX12_isRoute_4 rfl rfl ?_
  refine aE_ildM dX12_isRoute_5 (lt_nn (by decide)) rfl (by decide) rfl (by omega) ?_
  refine aE_top hle ?_
  refine aE_aload_n dX12_isRoute_6 rfl rfl ?_
  refine aE_iload_n dX12_isRoute_7 rfl rfl ?_
  refine aE_cVi dX12_isRoute_8 lk_X12_218 mv_X12_mayTake (m_mayTake sc hsc) rfl (lt_nn (by decide)) rfl rfl ⟨by decide, by decide⟩ (Nat.le_of_ble_eq_true rfl) ⟨rfl, rfl⟩ ⟨by decide, by decide⟩ ?_
  refine aE_top hmay ?_
  refine aE_icmp_gt (tgt := 30) dX12_isRoute_11 (by decide) (fun h11 => ?_) (fun h11 => ?_)
  · skip
    rw [if_neg (by unfold rtB; rw [decide_eq_false (Int32.not_le.mpr h11)]; simp)]
    refine aE_iconst (v := 0) dX12_isRoute_30 rfl ?_
    refine aE_zret dX12_isRoute_31 rfl (by first | exact Or.inl rfl | exact Or.inr rfl | exact wi_or _ _ _ | assumption) ⟨by decide, by decide⟩ ?_
    exact ⟨rfl, rfl, rfl⟩
  · skip
    refine aE_aload_n dX12_isRoute_14 rfl rfl ?_
    refine aE_iload_n dX12_isRoute_15 rfl rfl ?_
    refine aE_cVi dX12_isRoute_16 lk_X12_215 mv_X12_pupilsOf (m_pupilsOf S nst (by omega) hn h10) rfl (lt_nn (by decide)) rfl rfl ⟨by decide, by decide⟩ (Nat.le_of_ble_eq_true rfl) ⟨rfl, rfl⟩ ⟨by decide, by decide⟩ ?_
    refine aE_aload_n dX12_isRoute_19 rfl rfl ?_
    refine aE_geti dX12_isRoute_20 fw_X12_7 (lt_nn (by decide)) rfl (by decide) rfl ?_
    refine aE_icmp_gt (tgt := 30) dX12_isRoute_23 (by decide) (fun h23 => ?_) (fun h23 => ?_)
    · skip
      rw [if_neg (by unfold rtB; rw [decide_eq_false (Int32.not_le.mpr h23)]; simp)]
      refine aE_iconst (v := 0) dX12_isRoute_30 rfl ?_
      refine aE_zret dX12_isRoute_31 rfl (by first | exact Or.inl rfl | exact Or.inr rfl | exact wi_or _ _ _ | assumption) ⟨by decide, by decide⟩ ?_
      exact ⟨rfl, rfl, rfl⟩
    · skip
      rw [if_pos (by unfold rtB; rw [decide_eq_true (Int32.not_lt.mp h11), decide_eq_true (Int32.not_lt.mp h23)]; rfl)]
      refine aE_iconst (v := 1) dX12_isRoute_26 rfl ?_
      refine aE_goto (tgt := 31) dX12_isRoute_27 (by decide) ?_
      refine aE_zret dX12_isRoute_31 rfl (by first | exact Or.inl rfl | exact Or.inr rfl | exact wi_or _ _ _ | assumption) ⟨by decide, by decide⟩ ?_
      exact ⟨rfl, rfl, rfl⟩
theorem l_mpart (I0 : Nat → Nat → Int32) (nst sc S hc : Nat) (sa : Nat → Nat) (D : tT) (may : Int32) (hn : I0 101 3 = nI nst) (h10 : nst ≤ 10) (hS : S < 1024) (hS0 : S ≠ 0) (hsc : sc < 4) (hmay : (if I0 106 sc = 3 then I0 101 8 / 2 else I0 101 8) = may) (hle0 : ∀ P, P ≠ 0 → P ≤ S → bdiff P S = 0 → I0 123 P = leB nst (fun f g => D (sa f) (sa g)) (fun f => D (sa f) hc) P) (hpt : ∀ R, R < S → bdiff R S = 0 → I0 124 R = (pB (rtB nst (fun f g => D (sa f) (sa g)) (fun f => D (sa f) hc) (I0 112) may (I0 101 7)) (leB nst (fun f g => D (sa f) (sa g)) (fun f => D (sa f) hc)) R).1 ∧ I0 125 R = (pB (rtB nst (fun f g => D (sa f) (sa g)) (fun f => D (sa f) hc) (I0 112) may (I0 101 7)) (leB nst (fun f g => D (sa f) (sa g)) (fun f => D (sa f) hc)) R).2.1) (hQ : ∀ J, frP I0 S J → J 124 S = (pB (rtB nst (fun f g => D (sa f) (sa g)) (fun f => D (sa f) hc) (I0 112) may (I0 101 7)) (leB nst (fun f g => D (sa f) (sa g)) (fun f => D (sa f) hc)) S).1 → J 125 S = (pB (rtB nst (fun f g => D (sa f) (sa g)) (fun f => D (sa f) hc) (I0 112) may (I0 101 7)) (leB nst (fun f g => D (sa f) (sa g)) (fun f => D (sa f) hc)) S).2.1 → ((pB (rtB nst (fun f g => D (sa f) (sa g)) (fun f => D (sa f) hc) (I0 112) may (I0 101 7)) (leB nst (fun f g => D (sa f) (sa g)) (fun f => D (sa f) hc)) S).1 < 1000000 → J 126 S = nI (pB (rtB nst (fun f g => D (sa f) (sa g)) (fun f => D (sa f) hc) (I0 112) may (I0 101 7)) (leB nst (fun f g => D (sa f) (sa g)) (fun f => D (sa f) hc)) S).2.2) → Q none (nn pl) (MM J sp pl)) : ∀ (d u : Nat), u + d = S + 1 → ∀ (I : Nat → Nat → Int32) (l5 l6 l7 : Option Value), frP I0 S I → I 124 S = (pK (rtB nst (fun f g => D (sa f) (sa g)) (fun f => D (sa f) hc) (I0 112) may (I0 101 7)) (leB nst (fun f g => D (sa f) (sa g)) (fun f => D (sa f) hc)) S u).1 → I 125 S = (pK (rtB nst (fun f g => D (sa f) (sa g)) (fun f => D (sa f) hc) (I0 112) may (I0 101 7)) (leB nst (fun f g => D (sa f) (sa g)) (fun f => D (sa f) hc)) S u).2.1 → ((pK (rtB nst (fun f g => D (sa f) (sa g)) (fun f => D (sa f) hc) (I0 112) may (I0 101 7)) (leB nst (fun f g => D (sa f) (sa g)) (fun f => D (sa f) hc)) S u).1 < 1000000 → I 126 S = nI (pK (rtB nst (fun f g => D (sa f) (sa g)) (fun f => D (sa f) hc) (I0 112) may (I0 101 7)) (leB nst (fun f g => D (sa f) (sa g)) (fun f => D (sa f) hc)) S u).2.2) → aE z mX12_part (rK 3) Q 24 [some (.ref 101), some (.int (nI sc)), some (.int (nI S)), some (.int (nI (2 ^ loI S))), some (.int (nI u)), l5, l6, l7] [] (nn pl) (MM I sp pl) 0 0 := by
  have hfr0 : ∀ {I : Nat → Nat → Int32} {x : Int32} (q i : Nat), ¬ ((q = 124 ∨ q = 125 ∨ q = 126) ∧ i = S) → frP I0 S I → I0 q i = x → I q i = x := fun q i h1 h2 h3 => (h2 q i h1).trans h3
  have hl10 := (loI_tb S hS hS0).2.1
  have hp10 := pow10 hl10
  intro d
  induction d with
  | zero =>
    intro u hu I l5 l6 l7 hfr h124 h125 h126
    have hu : u = S + 1 := by omega
    subst hu
    rw [← pB_eq hS0 hS] at h124 h125 h126
    refine aE_iload dX12_part_24 rfl ?_
    refine aE_iload_n dX12_part_26 rfl rfl ?_
    refine aE_icmp_gt (tgt := 176) dX12_part_27 (by decide) (fun h27 => ?_) (fun h27 => absurd (nI_lt (by omega) (by omega)) h27)
    refine aE_vret dX12_part_176 rfl ⟨by decide, by decide⟩ ?_
    exact hQ I hfr h124 h125 h126
  | succ d ih =>
    intro u hu I l5 l6 l7 hfr h124 h125 h126
    refine aE_iload dX12_part_24 rfl ?_
    refine aE_iload_n dX12_part_26 rfl rfl ?_
    refine aE_icmp_gt (tgt := 176) dX12_part_27 (by decide) (fun h27 => absurd h27 (nI_nlt (by omega) (by omega))) (fun h27 => ?_)
    refine aE_iload dX12_part_30 rfl ?_
    refine aE_iload_n dX12_part_32 rfl rfl ?_
    refine aE_iconst (v := -1) dX12_part_33 rfl ?_
    refine aE_ixor dX12_part_34 ?_
    refine aE_iand dX12_part_35 ?_
    refine aE_top (nb_andn u S) ?_
    refine aE_if_ne (tgt := 170) dX12_part_36 (by decide) (fun h36 => ?_) (fun h36 => ?_)
    · skip
      refine aE_iinc dX12_part_170 rfl (a_inc _) (by decide) rfl (aE_loc (ls' := [_, _, _, _, _, _, _, _]) rfl ?_)
      refine aE_goto (tgt := 24) dX12_part_173 (by decide) ?_
      first
        | exact ih (u + 1) (by omega) I _ _ _ hfr (by rw [pK_s, if_neg (by unfold cdP; rw [decide_eq_false (fun q => h36 (by rw [q]; rfl))]; simp)]; first | exact h124 | exact h125 | exact h126) (by rw [pK_s, if_neg (by unfold cdP; rw [decide_eq_false (fun q => h36 (by rw [q]; rfl))]; simp)]; first | exact h124 | exact h125 | exact h126) (by rw [pK_s, if_neg (by unfold cdP; rw [decide_eq_false (fun q => h36 (by rw [q]; rfl))]; simp)]; first | exact h124 | exact h125 | exact h126)
        | exact ih (u + 1) (by omega) I _ _ _ hfr (by rw [pK_s, if_neg (by unfold cdP; rw [Bool.eq_false_iff.mpr (and_pow.mp ((nI_eq (b := 0) (Nat.lt_of_le_of_lt Nat.and_le_left (by omega)) (by omega)).mp h43))]; simp)]; first | exact h124 | exact h125 | exact h126) (by rw [pK_s, if_neg (by unfold cdP; rw [Bool.eq_false_iff.mpr (and_pow.mp ((nI_eq (b := 0) (Nat.lt_of_le_of_lt Nat.and_le_left (by omega)) (by omega)).mp h43))]; simp)]; first | exact h124 | exact h125 | exact h126) (by rw [pK_s, if_neg (by unfold cdP; rw [Bool.eq_false_iff.mpr (and_pow.mp ((nI_eq (b := 0) (Nat.lt_of_le_of_lt Nat.and_le_left (by omega)) (by omega)).mp h43))]; simp)]; first | exact h124 | exact h125 | exact h126)
        | (have hrt0 : rtB nst (fun f g => D (sa f) (sa g)) (fun f => D (sa f) hc) (I0 112) may (I0 101 7) u = false := Bool.eq_false_iff.mpr (fun q => by rw [if_pos q] at h53; exact absurd h53 (by decide))
           exact ih (u + 1) (by omega) I _ _ _ hfr (by rw [pK_s, if_neg (by unfold cdP; rw [hrt0]; simp)]; first | exact h124 | exact h125 | exact h126) (by rw [pK_s, if_neg (by unfold cdP; rw [hrt0]; simp)]; first | exact h124 | exact h125 | exact h126) (by rw [pK_s, if_neg (by unfold cdP; rw [hrt0]; simp)]; first | exact h124 | exact h125 | exact h126))
        | exact ih (u + 1) (by omega) I _ _ _ hfr (by rw [pK_s, if_pos hcd, hRe, hr]; unfold stP; rw [if_neg h76]; exact h124) (by rw [pK_s, if_pos hcd, hRe, hr]; unfold stP; rw [if_neg h76]; exact h125) (by rw [pK_s, if_pos hcd, hRe, hr]; unfold stP; rw [if_neg h76]; exact h126)
        | exact ih (u + 1) (by omega) I _ _ _ hfr (by rw [pK_s, if_pos hcd, hRe, hr]; unfold stP; rw [if_pos h76, if_pos (Or.inl h118)]; exact h124) (by rw [pK_s, if_pos hcd, hRe, hr]; unfold stP; rw [if_pos h76, if_pos (Or.inl h118)]; exact h125) (by rw [pK_s, if_pos hcd, hRe, hr]; unfold stP; rw [if_pos h76, if_pos (Or.inl h118)]; exact h126)
        | exact ih (u + 1) (by omega) I _ _ _ hfr (by rw [pK_s, if_pos hcd, hRe, hr]; unfold stP; rw [if_pos h76, if_pos (Or.inr ⟨h129, h140⟩)]; exact h124) (by rw [pK_s, if_pos hcd, hRe, hr]; unfold stP; rw [if_pos h76, if_pos (Or.inr ⟨h129, h140⟩)]; exact h125) (by rw [pK_s, if_pos hcd, hRe, hr]; unfold stP; rw [if_pos h76, if_pos (Or.inr ⟨h129, h140⟩)]; exact h126)
        | (have hst : pK (rtB nst (fun f g => D (sa f) (sa g)) (fun f => D (sa f) hc) (I0 112) may (I0 101 7)) (leB nst (fun f g => D (sa f) (sa g)) (fun f => D (sa f) hc)) S (u + 1) = (r.1 + 1, r.2.1 + leB nst (fun f g => D (sa f) (sa g)) (fun f => D (sa f) hc) u, u) := (by
            rw [pK_s, if_pos hcd, hRe, hr]; unfold stP; rw [if_pos h76, if_neg (fun q => q.elim h118 (fun q => by first | exact h129 q.1 | exact q.2 h140))])
           exact ih (u + 1) (by omega) _ _ _ _ (frP_s (frP_s (frP_s hfr (by omega)) (by omega)) (by omega)) (by rw [hst, iu_ne (by omega), iu_ne (by omega), iu_eq]) (by rw [hst, iu_ne (by omega), iu_eq]) (by rw [hst]; intro _; exact iu_eq))
    · skip
      refine aE_iload dX12_part_39 rfl ?_
      refine aE_iload_n dX12_part_41 rfl rfl ?_
      refine aE_iand dX12_part_42 ?_
      refine aE_top (nb_and u (2 ^ loI S)) ?_
      refine aE_if_eq (tgt := 170) dX12_part_43 (by decide) (fun h43 => ?_) (fun h43 => ?_)
      · skip
        refine aE_iinc dX12_part_170 rfl (a_inc _) (by decide) rfl (aE_loc (ls' := [_, _, _, _, _, _, _, _]) rfl ?_)
        refine aE_goto (tgt := 24) dX12_part_173 (by decide) ?_
        first
          | exact ih (u + 1) (by omega) I _ _ _ hfr (by rw [pK_s, if_neg (by unfold cdP; rw [decide_eq_false (fun q => h36 (by rw [q]; rfl))]; simp)]; first | exact h124 | exact h125 | exact h126) (by rw [pK_s, if_neg (by unfold cdP; rw [decide_eq_false (fun q => h36 (by rw [q]; rfl))]; simp)]; first | exact h124 | exact h125 | exact h126) (by rw [pK_s, if_neg (by unfold cdP; rw [decide_eq_false (fun q => h36 (by rw [q]; rfl))]; simp)]; first | exact h124 | exact h125 | exact h126)
          | exact ih (u + 1) (by omega) I _ _ _ hfr (by rw [pK_s, if_neg (by unfold cdP; rw [Bool.eq_false_iff.mpr (and_pow.mp ((nI_eq (b := 0) (Nat.lt_of_le_of_lt Nat.and_le_left (by omega)) (by omega)).mp h43))]; simp)]; first | exact h124 | exact h125 | exact h126) (by rw [pK_s, if_neg (by unfold cdP; rw [Bool.eq_false_iff.mpr (and_pow.mp ((nI_eq (b := 0) (Nat.lt_of_le_of_lt Nat.and_le_left (by omega)) (by omega)).mp h43))]; simp)]; first | exact h124 | exact h125 | exact h126) (by rw [pK_s, if_neg (by unfold cdP; rw [Bool.eq_false_iff.mpr (and_pow.mp ((nI_eq (b := 0) (Nat.lt_of_le_of_lt Nat.and_le_left (by omega)) (by omega)).mp h43))]; simp)]; first | exact h124 | exact h125 | exact h126)
          | (have hrt0 : rtB nst (fun f g => D (sa f) (sa g)) (fun f => D (sa f) hc) (I0 112) may (I0 101 7) u = false := Bool.eq_false_iff.mpr (fun q => by rw [if_pos q] at h53; exact absurd h53 (by decide))
             exact ih (u + 1) (by omega) I _ _ _ hfr (by rw [pK_s, if_neg (by unfold cdP; rw [hrt0]; simp)]; first | exact h124 | exact h125 | exact h126) (by rw [pK_s, if_neg (by unfold cdP; rw [hrt0]; simp)]; first | exact h124 | exact h125 | exact h126) (by rw [pK_s, if_neg (by unfold cdP; rw [hrt0]; simp)]; first | exact h124 | exact h125 | exact h126))
          | exact ih (u + 1) (by omega) I _ _ _ hfr (by rw [pK_s, if_pos hcd, hRe, hr]; unfold stP; rw [if_neg h76]; exact h124) (by rw [pK_s, if_pos hcd, hRe, hr]; unfold stP; rw [if_neg h76]; exact h125) (by rw [pK_s, if_pos hcd, hRe, hr]; unfold stP; rw [if_neg h76]; exact h126)
          | exact ih (u + 1) (by omega) I _ _ _ hfr (by rw [pK_s, if_pos hcd, hRe, hr]; unfold stP; rw [if_pos h76, if_pos (Or.inl h118)]; exact h124) (by rw [pK_s, if_pos hcd, hRe, hr]; unfold stP; rw [if_pos h76, if_pos (Or.inl h118)]; exact h125) (by rw [pK_s, if_pos hcd, hRe, hr]; unfold stP; rw [if_pos h76, if_pos (Or.inl h118)]; exact h126)
          | exact ih (u + 1) (by omega) I _ _ _ hfr (by rw [pK_s, if_pos hcd, hRe, hr]; unfold stP; rw [if_pos h76, if_pos (Or.inr ⟨h129, h140⟩)]; exact h124) (by rw [pK_s, if_pos hcd, hRe, hr]; unfold stP; rw [if_pos h76, if_pos (Or.inr ⟨h129, h140⟩)]; exact h125) (by rw [pK_s, if_pos hcd, hRe, hr]; unfold stP; rw [if_pos h76, if_pos (Or.inr ⟨h129, h140⟩)]; exact h126)
          | (have hst : pK (rtB nst (fun f g => D (sa f) (sa g)) (fun f => D (sa f) hc) (I0 112) may (I0 101 7)) (leB nst (fun f g => D (sa f) (sa g)) (fun f => D (sa f) hc)) S (u + 1) = (r.1 + 1, r.2.1 + leB nst (fun f g => D (sa f) (sa g)) (fun f => D (sa f) hc) u, u) := (by
              rw [pK_s, if_pos hcd, hRe, hr]; unfold stP; rw [if_pos h76, if_neg (fun q => q.elim h118 (fun q => by first | exact h129 q.1 | exact q.2 h140))])
             exact ih (u + 1) (by omega) _ _ _ _ (frP_s (frP_s (frP_s hfr (by omega)) (by omega)) (by omega)) (by rw [hst, iu_ne (by omega), iu_ne (by omega), iu_eq]) (by rw [hst, iu_ne (by omega), iu_eq]) (by rw [hst]; intro _; exact iu_eq))
      · skip
        have hsub : bdiff u S = 0 := (nI_eq (b := 0) (by have := bdiff_le u S; omega) (by omega)).mp (by first | exact h36 | exact Classical.not_not.mp h36)
        have hlow : u.testBit (loI S) = true := Classical.byContradiction fun q => h43 (by rw [and_pow.mpr q]; rfl)
        have hu0 : u ≠ 0 := fun q => by rw [q] at hlow; simp at hlow
        have hleu : I 123 u = leB nst (fun f g => D (sa f) (sa g)) (fun f => D (sa f) hc) u := (hfr 123 u (by omega)).trans (hle0 u hu0 (by omega) hsub)
        have e112 : I 112 = I0 112 := funext fun i => hfr 112 i (by omega)
        have e7 : I 101 7 = I0 101 7 := hfr 101 7 (by omega)
        refine aE_aload_n dX12_part_46 rfl rfl ?_
        refine aE_iload_n dX12_part_47 rfl rfl ?_
        refine aE_iload dX12_part_48 rfl ?_
        refine aE_cVi dX12_part_50 lk_X12_227 mv_X12_isRoute (m_isRoute nst sc u hc sa D may (hfr0 101 3 (by omega) hfr hn) h10 (by omega) hsc (by rw [hfr 106 sc (by omega), hfr 101 8 (by omega)]; exact hmay) hleu) rfl (lt_nn (by decide)) rfl rfl ⟨by decide, by decide⟩ (Nat.le_of_ble_eq_true rfl) ⟨rfl, rfl⟩ ⟨by decide, by decide⟩ ?_
        rw [e112, e7]
        refine aE_if_ne (tgt := 59) dX12_part_53 (by decide) (fun h53 => ?_) (fun h53 => ?_)
        · skip
          have hrt : rtB nst (fun f g => D (sa f) (sa g)) (fun f => D (sa f) hc) (I0 112) may (I0 101 7) u = true := Classical.byContradiction fun q => by rw [if_neg q] at h53; exact h53 rfl
          have hcd : cdP (rtB nst (fun f g => D (sa f) (sa g)) (fun f => D (sa f) hc) (I0 112) may (I0 101 7)) S u = true := by unfold cdP; rw [decide_eq_true hsub, hlow, hrt]; rfl
          obtain ⟨R, hRe⟩ : ∃ R, bdiff S u = R := ⟨_, rfl⟩
          have hRS : R < S := hRe ▸ bdiff_lt2 (loI_tb S hS hS0).1 hlow
          have hRs : bdiff R S = 0 := by rw [← hRe]; exact bdiff_sub _ _
          obtain ⟨r, hr⟩ : ∃ r, pB (rtB nst (fun f g => D (sa f) (sa g)) (fun f => D (sa f) hc) (I0 112) may (I0 101 7)) (leB nst (fun f g => D (sa f) (sa g)) (fun f => D (sa f) hc)) R = r := ⟨_, rfl⟩
          have r1 : I 124 R = r.1 := by rw [hfr 124 R (by omega), (hpt R hRS hRs).1, hr]
          have r2 : I 125 R = r.2.1 := by rw [hfr 125 R (by omega), (hpt R hRS hRs).2, hr]
          refine aE_iload_n dX12_part_59 rfl rfl ?_
          refine aE_iload dX12_part_60 rfl ?_
          refine aE_iconst (v := -1) dX12_part_62 rfl ?_
          refine aE_ixor dX12_part_63 ?_
          refine aE_iand dX12_part_64 ?_
          refine aE_top (x' := nI R) (by rw [nb_andn, hRe]) ?_
          refine aE_istore dX12_part_65 (by decide) rfl (aE_loc (ls' := [_, _, _, _, _, _, _, _]) rfl ?_)
          refine aE_aload_n dX12_part_67 rfl rfl ?_
          refine aE_getf (v := .ref 124) dX12_part_68 fw_X12_84 (lt_nn (by decide)) rfl rfl ?_
          refine aE_iload dX12_part_71 rfl ?_
          refine aE_ildM dX12_part_73 (lt_nn (by decide)) rfl (by decide) rfl (by omega) ?_
          refine aE_top r1 ?_
          refine aE_ldc dX12_part_74 ct_X12_192 ?_
          refine aE_icmp_lt (tgt := 82) dX12_part_76 (by decide) (fun h76 => ?_) (fun h76 => ?_)
          · skip
            refine aE_aload_n dX12_part_82 rfl rfl ?_
            refine aE_getf (v := .ref 124) dX12_part_83 fw_X12_84 (lt_nn (by decide)) rfl rfl ?_
            refine aE_iload dX12_part_86 rfl ?_
            refine aE_ildM dX12_part_88 (lt_nn (by decide)) rfl (by decide) rfl (by omega) ?_
            refine aE_top r1 ?_
            refine aE_iconst (v := 1) dX12_part_89 rfl ?_
            refine aE_iadd dX12_part_90 ?_
            refine aE_istore dX12_part_91 (by decide) rfl (aE_loc (ls' := [_, _, _, _, _, _, _, _]) rfl ?_)
            refine aE_aload_n dX12_part_93 rfl rfl ?_
            refine aE_getf (v := .ref 125) dX12_part_94 fw_X12_87 (lt_nn (by decide)) rfl rfl ?_
            refine aE_iload dX12_part_97 rfl ?_
            refine aE_ildM dX12_part_99 (lt_nn (by decide)) rfl (by decide) rfl (by omega) ?_
            refine aE_top r2 ?_
            refine aE_aload_n dX12_part_100 rfl rfl ?_
            refine aE_getf (v := .ref 123) dX12_part_101 fw_X12_81 (lt_nn (by decide)) rfl rfl ?_
            refine aE_iload dX12_part_104 rfl ?_
            refine aE_ildM dX12_part_106 (lt_nn (by decide)) rfl (by decide) rfl (by omega) ?_
            refine aE_top hleu ?_
            refine aE_iadd dX12_part_107 ?_
            refine aE_istore dX12_part_108 (by decide) rfl (aE_loc (ls' := [_, _, _, _, _, _, _, _]) rfl ?_)
            refine aE_iload dX12_part_110 rfl ?_
            refine aE_aload_n dX12_part_112 rfl rfl ?_
            refine aE_getf (v := .ref 124) dX12_part_113 fw_X12_84 (lt_nn (by decide)) rfl rfl ?_
            refine aE_iload_n dX12_part_116 rfl rfl ?_
            refine aE_ildM dX12_part_117 (lt_nn (by decide)) rfl (by decide) rfl (by omega) ?_
            refine aE_top h124 ?_
            refine aE_icmp_gt (tgt := 170) dX12_part_118 (by decide) (fun h118 => ?_) (fun h118 => ?_)
            · skip
              refine aE_iinc dX12_part_170 rfl (a_inc _) (by decide) rfl (aE_loc (ls' := [_, _, _, _, _, _, _, _]) rfl ?_)
              refine aE_goto (tgt := 24) dX12_part_173 (by decide) ?_
              first
                | exact ih (u + 1) (by omega) I _ _ _ hfr (by rw [pK_s, if_neg (by unfold cdP; rw [decide_eq_false (fun q => h36 (by rw [q]; rfl))]; simp)]; first | exact h124 | exact h125 | exact h126) (by rw [pK_s, if_neg (by unfold cdP; rw [decide_eq_false (fun q => h36 (by rw [q]; rfl))]; simp)]; first | exact h124 | exact h125 | exact h126) (by rw [pK_s, if_neg (by unfold cdP; rw [decide_eq_false (fun q => h36 (by rw [q]; rfl))]; simp)]; first | exact h124 | exact h125 | exact h126)
                | exact ih (u + 1) (by omega) I _ _ _ hfr (by rw [pK_s, if_neg (by unfold cdP; rw [Bool.eq_false_iff.mpr (and_pow.mp ((nI_eq (b := 0) (Nat.lt_of_le_of_lt Nat.and_le_left (by omega)) (by omega)).mp h43))]; simp)]; first | exact h124 | exact h125 | exact h126) (by rw [pK_s, if_neg (by unfold cdP; rw [Bool.eq_false_iff.mpr (and_pow.mp ((nI_eq (b := 0) (Nat.lt_of_le_of_lt Nat.and_le_left (by omega)) (by omega)).mp h43))]; simp)]; first | exact h124 | exact h125 | exact h126) (by rw [pK_s, if_neg (by unfold cdP; rw [Bool.eq_false_iff.mpr (and_pow.mp ((nI_eq (b := 0) (Nat.lt_of_le_of_lt Nat.and_le_left (by omega)) (by omega)).mp h43))]; simp)]; first | exact h124 | exact h125 | exact h126)
                | (have hrt0 : rtB nst (fun f g => D (sa f) (sa g)) (fun f => D (sa f) hc) (I0 112) may (I0 101 7) u = false := Bool.eq_false_iff.mpr (fun q => by rw [if_pos q] at h53; exact absurd h53 (by decide))
                   exact ih (u + 1) (by omega) I _ _ _ hfr (by rw [pK_s, if_neg (by unfold cdP; rw [hrt0]; simp)]; first | exact h124 | exact h125 | exact h126) (by rw [pK_s, if_neg (by unfold cdP; rw [hrt0]; simp)]; first | exact h124 | exact h125 | exact h126) (by rw [pK_s, if_neg (by unfold cdP; rw [hrt0]; simp)]; first | exact h124 | exact h125 | exact h126))
                | exact ih (u + 1) (by omega) I _ _ _ hfr (by rw [pK_s, if_pos hcd, hRe, hr]; unfold stP; rw [if_neg h76]; exact h124) (by rw [pK_s, if_pos hcd, hRe, hr]; unfold stP; rw [if_neg h76]; exact h125) (by rw [pK_s, if_pos hcd, hRe, hr]; unfold stP; rw [if_neg h76]; exact h126)
                | exact ih (u + 1) (by omega) I _ _ _ hfr (by rw [pK_s, if_pos hcd, hRe, hr]; unfold stP; rw [if_pos h76, if_pos (Or.inl h118)]; exact h124) (by rw [pK_s, if_pos hcd, hRe, hr]; unfold stP; rw [if_pos h76, if_pos (Or.inl h118)]; exact h125) (by rw [pK_s, if_pos hcd, hRe, hr]; unfold stP; rw [if_pos h76, if_pos (Or.inl h118)]; exact h126)
                | exact ih (u + 1) (by omega) I _ _ _ hfr (by rw [pK_s, if_pos hcd, hRe, hr]; unfold stP; rw [if_pos h76, if_pos (Or.inr ⟨h129, h140⟩)]; exact h124) (by rw [pK_s, if_pos hcd, hRe, hr]; unfold stP; rw [if_pos h76, if_pos (Or.inr ⟨h129, h140⟩)]; exact h125) (by rw [pK_s, if_pos hcd, hRe, hr]; unfold stP; rw [if_pos h76, if_pos (Or.inr ⟨h129, h140⟩)]; exact h126)
                | (have hst : pK (rtB nst (fun f g => D (sa f) (sa g)) (fun f => D (sa f) hc) (I0 112) may (I0 101 7)) (leB nst (fun f g => D (sa f) (sa g)) (fun f => D (sa f) hc)) S (u + 1) = (r.1 + 1, r.2.1 + leB nst (fun f g => D (sa f) (sa g)) (fun f => D (sa f) hc) u, u) := (by
                    rw [pK_s, if_pos hcd, hRe, hr]; unfold stP; rw [if_pos h76, if_neg (fun q => q.elim h118 (fun q => by first | exact h129 q.1 | exact q.2 h140))])
                   exact ih (u + 1) (by omega) _ _ _ _ (frP_s (frP_s (frP_s hfr (by omega)) (by omega)) (by omega)) (by rw [hst, iu_ne (by omega), iu_ne (by omega), iu_eq]) (by rw [hst, iu_ne (by omega), iu_eq]) (by rw [hst]; intro _; exact iu_eq))
            · skip
              refine aE_iload dX12_part_121 rfl ?_
              refine aE_aload_n dX12_part_123 rfl rfl ?_
              refine aE_getf (v := .ref 124) dX12_part_124 fw_X12_84 (lt_nn (by decide)) rfl rfl ?_
              refine aE_iload_n dX12_part_127 rfl rfl ?_
              refine aE_ildM dX12_part_128 (lt_nn (by decide)) rfl (by decide) rfl (by omega) ?_
              refine aE_top h124 ?_
              refine aE_icmp_ne (tgt := 146) dX12_part_129 (by decide) (fun h129 => ?_) (fun h129 => ?_)
              · skip
                refine aE_aload_n dX12_part_146 rfl rfl ?_
                refine aE_getf (v := .ref 124) dX12_part_147 fw_X12_84 (lt_nn (by decide)) rfl rfl ?_
                refine aE_iload_n dX12_part_150 rfl rfl ?_
                refine aE_iload dX12_part_151 rfl ?_
                refine aE_istM dX12_part_153 (lt_nn (by decide)) rfl (by decide) rfl (by omega) ?_
                refine aE_aload_n dX12_part_154 rfl rfl ?_
                refine aE_getf (v := .ref 125) dX12_part_155 fw_X12_87 (lt_nn (by decide)) rfl rfl ?_
                refine aE_iload_n dX12_part_158 rfl rfl ?_
                refine aE_iload dX12_part_159 rfl ?_
                refine aE_istM dX12_part_161 (lt_nn (by decide)) rfl (by decide) rfl (by omega) ?_
                refine aE_aload_n dX12_part_162 rfl rfl ?_
                refine aE_getf (v := .ref 126) dX12_part_163 fw_X12_90 (lt_nn (by decide)) rfl rfl ?_
                refine aE_iload_n dX12_part_166 rfl rfl ?_
                refine aE_iload dX12_part_167 rfl ?_
                refine aE_istM dX12_part_169 (lt_nn (by decide)) rfl (by decide) rfl (by omega) ?_
                refine aE_iinc dX12_part_170 rfl (a_inc _) (by decide) rfl (aE_loc (ls' := [_, _, _, _, _, _, _, _]) rfl ?_)
                refine aE_goto (tgt := 24) dX12_part_173 (by decide) ?_
                first
                  | exact ih (u + 1) (by omega) I _ _ _ hfr (by rw [pK_s, if_neg (by unfold cdP; rw [decide_eq_false (fun q => h36 (by rw [q]; rfl))]; simp)]; first | exact h124 | exact h125 | exact h126) (by rw [pK_s, if_neg (by unfold cdP; rw [decide_eq_false (fun q => h36 (by rw [q]; rfl))]; simp)]; first | exact h124 | exact h125 | exact h126) (by rw [pK_s, if_neg (by unfold cdP; rw [decide_eq_false (fun q => h36 (by rw [q]; rfl))]; simp)]; first | exact h124 | exact h125 | exact h126)
                  | exact ih (u + 1) (by omega) I _ _ _ hfr (by rw [pK_s, if_neg (by unfold cdP; rw [Bool.eq_false_iff.mpr (and_pow.mp ((nI_eq (b := 0) (Nat.lt_of_le_of_lt Nat.and_le_left (by omega)) (by omega)).mp h43))]; simp)]; first | exact h124 | exact h125 | exact h126) (by rw [pK_s, if_neg (by unfold cdP; rw [Bool.eq_false_iff.mpr (and_pow.mp ((nI_eq (b := 0) (Nat.lt_of_le_of_lt Nat.and_le_left (by omega)) (by omega)).mp h43))]; simp)]; first | exact h124 | exact h125 | exact h126) (by rw [pK_s, if_neg (by unfold cdP; rw [Bool.eq_false_iff.mpr (and_pow.mp ((nI_eq (b := 0) (Nat.lt_of_le_of_lt Nat.and_le_left (by omega)) (by omega)).mp h43))]; simp)]; first | exact h124 | exact h125 | exact h126)
                  | (have hrt0 : rtB nst (fun f g => D (sa f) (sa g)) (fun f => D (sa f) hc) (I0 112) may (I0 101 7) u = false := Bool.eq_false_iff.mpr (fun q => by rw [if_pos q] at h53; exact absurd h53 (by decide))
                     exact ih (u + 1) (by omega) I _ _ _ hfr (by rw [pK_s, if_neg (by unfold cdP; rw [hrt0]; simp)]; first | exact h124 | exact h125 | exact h126) (by rw [pK_s, if_neg (by unfold cdP; rw [hrt0]; simp)]; first | exact h124 | exact h125 | exact h126) (by rw [pK_s, if_neg (by unfold cdP; rw [hrt0]; simp)]; first | exact h124 | exact h125 | exact h126))
                  | exact ih (u + 1) (by omega) I _ _ _ hfr (by rw [pK_s, if_pos hcd, hRe, hr]; unfold stP; rw [if_neg h76]; exact h124) (by rw [pK_s, if_pos hcd, hRe, hr]; unfold stP; rw [if_neg h76]; exact h125) (by rw [pK_s, if_pos hcd, hRe, hr]; unfold stP; rw [if_neg h76]; exact h126)
                  | exact ih (u + 1) (by omega) I _ _ _ hfr (by rw [pK_s, if_pos hcd, hRe, hr]; unfold stP; rw [if_pos h76, if_pos (Or.inl h118)]; exact h124) (by rw [pK_s, if_pos hcd, hRe, hr]; unfold stP; rw [if_pos h76, if_pos (Or.inl h118)]; exact h125) (by rw [pK_s, if_pos hcd, hRe, hr]; unfold stP; rw [if_pos h76, if_pos (Or.inl h118)]; exact h126)
                  | exact ih (u + 1) (by omega) I _ _ _ hfr (by rw [pK_s, if_pos hcd, hRe, hr]; unfold stP; rw [if_pos h76, if_pos (Or.inr ⟨h129, h140⟩)]; exact h124) (by rw [pK_s, if_pos hcd, hRe, hr]; unfold stP; rw [if_pos h76, if_pos (Or.inr ⟨h129, h140⟩)]; exact h125) (by rw [pK_s, if_pos hcd, hRe, hr]; unfold stP; rw [if_pos h76, if_pos (Or.inr ⟨h129, h140⟩)]; exact h126)
                  | (have hst : pK (rtB nst (fun f g => D (sa f) (sa g)) (fun f => D (sa f) hc) (I0 112) may (I0 101 7)) (leB nst (fun f g => D (sa f) (sa g)) (fun f => D (sa f) hc)) S (u + 1) = (r.1 + 1, r.2.1 + leB nst (fun f g => D (sa f) (sa g)) (fun f => D (sa f) hc) u, u) := (by
                      rw [pK_s, if_pos hcd, hRe, hr]; unfold stP; rw [if_pos h76, if_neg (fun q => q.elim h118 (fun q => by first | exact h129 q.1 | exact q.2 h140))])
                     exact ih (u + 1) (by omega) _ _ _ _ (frP_s (frP_s (frP_s hfr (by omega)) (by omega)) (by omega)) (by rw [hst, iu_ne (by omega), iu_ne (by omega), iu_eq]) (by rw [hst, iu_ne (by omega), iu_eq]) (by rw [hst]; intro _; exact iu_eq))
              · skip
                refine aE_iload dX12_part_132 rfl ?_
                refine aE_aload_n dX12_part_134 rfl rfl ?_
                refine aE_getf (v := .ref 125) dX12_part_135 fw_X12_87 (lt_nn (by decide)) rfl rfl ?_
                refine aE_iload_n dX12_part_138 rfl rfl ?_
                refine aE_ildM dX12_part_139 (lt_nn (by decide)) rfl (by decide) rfl (by omega) ?_
                refine aE_top h125 ?_
                refine aE_icmp_lt (tgt := 146) dX12_part_140 (by decide) (fun h140 => ?_) (fun h140 => ?_)
                · skip
                  refine aE_aload_n dX12_part_146 rfl rfl ?_
                  refine aE_getf (v := .ref 124) dX12_part_147 fw_X12_84 (lt_nn (by decide)) rfl rfl ?_
                  refine aE_iload_n dX12_part_150 rfl rfl ?_
                  refine aE_iload dX12_part_151 rfl ?_
                  refine aE_istM dX12_part_153 (lt_nn (by decide)) rfl (by decide) rfl (by omega) ?_
                  refine aE_aload_n dX12_part_154 rfl rfl ?_
                  refine aE_getf (v := .ref 125) dX12_part_155 fw_X12_87 (lt_nn (by decide)) rfl rfl ?_
                  refine aE_iload_n dX12_part_158 rfl rfl ?_
                  refine aE_iload dX12_part_159 rfl ?_
                  refine aE_istM dX12_part_161 (lt_nn (by decide)) rfl (by decide) rfl (by omega) ?_
                  refine aE_aload_n dX12_part_162 rfl rfl ?_
                  refine aE_getf (v := .ref 126) dX12_part_163 fw_X12_90 (lt_nn (by decide)) rfl rfl ?_
                  refine aE_iload_n dX12_part_166 rfl rfl ?_
                  refine aE_iload dX12_part_167 rfl ?_
                  refine aE_istM dX12_part_169 (lt_nn (by decide)) rfl (by decide) rfl (by omega) ?_
                  refine aE_iinc dX12_part_170 rfl (a_inc _) (by decide) rfl (aE_loc (ls' := [_, _, _, _, _, _, _, _]) rfl ?_)
                  refine aE_goto (tgt := 24) dX12_part_173 (by decide) ?_
                  first
                    | exact ih (u + 1) (by omega) I _ _ _ hfr (by rw [pK_s, if_neg (by unfold cdP; rw [decide_eq_false (fun q => h36 (by rw [q]; rfl))]; simp)]; first | exact h124 | exact h125 | exact h126) (by rw [pK_s, if_neg (by unfold cdP; rw [decide_eq_false (fun q => h36 (by rw [q]; rfl))]; simp)]; first | exact h124 | exact h125 | exact h126) (by rw [pK_s, if_neg (by unfold cdP; rw [decide_eq_false (fun q => h36 (by rw [q]; rfl))]; simp)]; first | exact h124 | exact h125 | exact h126)
                    | exact ih (u + 1) (by omega) I _ _ _ hfr (by rw [pK_s, if_neg (by unfold cdP; rw [Bool.eq_false_iff.mpr (and_pow.mp ((nI_eq (b := 0) (Nat.lt_of_le_of_lt Nat.and_le_left (by omega)) (by omega)).mp h43))]; simp)]; first | exact h124 | exact h125 | exact h126) (by rw [pK_s, if_neg (by unfold cdP; rw [Bool.eq_false_iff.mpr (and_pow.mp ((nI_eq (b := 0) (Nat.lt_of_le_of_lt Nat.and_le_left (by omega)) (by omega)).mp h43))]; simp)]; first | exact h124 | exact h125 | exact h126) (by rw [pK_s, if_neg (by unfold cdP; rw [Bool.eq_false_iff.mpr (and_pow.mp ((nI_eq (b := 0) (Nat.lt_of_le_of_lt Nat.and_le_left (by omega)) (by omega)).mp h43))]; simp)]; first | exact h124 | exact h125 | exact h126)
                    | (have hrt0 : rtB nst (fun f g => D (sa f) (sa g)) (fun f => D (sa f) hc) (I0 112) may (I0 101 7) u = false := Bool.eq_false_iff.mpr (fun q => by rw [if_pos q] at h53; exact absurd h53 (by decide))
                       exact ih (u + 1) (by omega) I _ _ _ hfr (by rw [pK_s, if_neg (by unfold cdP; rw [hrt0]; simp)]; first | exact h124 | exact h125 | exact h126) (by rw [pK_s, if_neg (by unfold cdP; rw [hrt0]; simp)]; first | exact h124 | exact h125 | exact h126) (by rw [pK_s, if_neg (by unfold cdP; rw [hrt0]; simp)]; first | exact h124 | exact h125 | exact h126))
                    | exact ih (u + 1) (by omega) I _ _ _ hfr (by rw [pK_s, if_pos hcd, hRe, hr]; unfold stP; rw [if_neg h76]; exact h124) (by rw [pK_s, if_pos hcd, hRe, hr]; unfold stP; rw [if_neg h76]; exact h125) (by rw [pK_s, if_pos hcd, hRe, hr]; unfold stP; rw [if_neg h76]; exact h126)
                    | exact ih (u + 1) (by omega) I _ _ _ hfr (by rw [pK_s, if_pos hcd, hRe, hr]; unfold stP; rw [if_pos h76, if_pos (Or.inl h118)]; exact h124) (by rw [pK_s, if_pos hcd, hRe, hr]; unfold stP; rw [if_pos h76, if_pos (Or.inl h118)]; exact h125) (by rw [pK_s, if_pos hcd, hRe, hr]; unfold stP; rw [if_pos h76, if_pos (Or.inl h118)]; exact h126)
                    | exact ih (u + 1) (by omega) I _ _ _ hfr (by rw [pK_s, if_pos hcd, hRe, hr]; unfold stP; rw [if_pos h76, if_pos (Or.inr ⟨h129, h140⟩)]; exact h124) (by rw [pK_s, if_pos hcd, hRe, hr]; unfold stP; rw [if_pos h76, if_pos (Or.inr ⟨h129, h140⟩)]; exact h125) (by rw [pK_s, if_pos hcd, hRe, hr]; unfold stP; rw [if_pos h76, if_pos (Or.inr ⟨h129, h140⟩)]; exact h126)
                    | (have hst : pK (rtB nst (fun f g => D (sa f) (sa g)) (fun f => D (sa f) hc) (I0 112) may (I0 101 7)) (leB nst (fun f g => D (sa f) (sa g)) (fun f => D (sa f) hc)) S (u + 1) = (r.1 + 1, r.2.1 + leB nst (fun f g => D (sa f) (sa g)) (fun f => D (sa f) hc) u, u) := (by
                        rw [pK_s, if_pos hcd, hRe, hr]; unfold stP; rw [if_pos h76, if_neg (fun q => q.elim h118 (fun q => by first | exact h129 q.1 | exact q.2 h140))])
                       exact ih (u + 1) (by omega) _ _ _ _ (frP_s (frP_s (frP_s hfr (by omega)) (by omega)) (by omega)) (by rw [hst, iu_ne (by omega), iu_ne (by omega), iu_eq]) (by rw [hst, iu_ne (by omega), iu_eq]) (by rw [hst]; intro _; exact iu_eq))
                · skip
                  refine aE_goto (tgt := 170) dX12_part_143 (by decide) ?_
                  refine aE_iinc dX12_part_170 rfl (a_inc _) (by decide) rfl (aE_loc (ls' := [_, _, _, _, _, _, _, _]) rfl ?_)
                  refine aE_goto (tgt := 24) dX12_part_173 (by decide) ?_
                  first
                    | exact ih (u + 1) (by omega) I _ _ _ hfr (by rw [pK_s, if_neg (by unfold cdP; rw [decide_eq_false (fun q => h36 (by rw [q]; rfl))]; simp)]; first | exact h124 | exact h125 | exact h126) (by rw [pK_s, if_neg (by unfold cdP; rw [decide_eq_false (fun q => h36 (by rw [q]; rfl))]; simp)]; first | exact h124 | exact h125 | exact h126) (by rw [pK_s, if_neg (by unfold cdP; rw [decide_eq_false (fun q => h36 (by rw [q]; rfl))]; simp)]; first | exact h124 | exact h125 | exact h126)
                    | exact ih (u + 1) (by omega) I _ _ _ hfr (by rw [pK_s, if_neg (by unfold cdP; rw [Bool.eq_false_iff.mpr (and_pow.mp ((nI_eq (b := 0) (Nat.lt_of_le_of_lt Nat.and_le_left (by omega)) (by omega)).mp h43))]; simp)]; first | exact h124 | exact h125 | exact h126) (by rw [pK_s, if_neg (by unfold cdP; rw [Bool.eq_false_iff.mpr (and_pow.mp ((nI_eq (b := 0) (Nat.lt_of_le_of_lt Nat.and_le_left (by omega)) (by omega)).mp h43))]; simp)]; first | exact h124 | exact h125 | exact h126) (by rw [pK_s, if_neg (by unfold cdP; rw [Bool.eq_false_iff.mpr (and_pow.mp ((nI_eq (b := 0) (Nat.lt_of_le_of_lt Nat.and_le_left (by omega)) (by omega)).mp h43))]; simp)]; first | exact h124 | exact h125 | exact h126)
                    | (have hrt0 : rtB nst (fun f g => D (sa f) (sa g)) (fun f => D (sa f) hc) (I0 112) may (I0 101 7) u = false := Bool.eq_false_iff.mpr (fun q => by rw [if_pos q] at h53; exact absurd h53 (by decide))
                       exact ih (u + 1) (by omega) I _ _ _ hfr (by rw [pK_s, if_neg (by unfold cdP; rw [hrt0]; simp)]; first | exact h124 | exact h125 | exact h126) (by rw [pK_s, if_neg (by unfold cdP; rw [hrt0]; simp)]; first | exact h124 | exact h125 | exact h126) (by rw [pK_s, if_neg (by unfold cdP; rw [hrt0]; simp)]; first | exact h124 | exact h125 | exact h126))
                    | exact ih (u + 1) (by omega) I _ _ _ hfr (by rw [pK_s, if_pos hcd, hRe, hr]; unfold stP; rw [if_neg h76]; exact h124) (by rw [pK_s, if_pos hcd, hRe, hr]; unfold stP; rw [if_neg h76]; exact h125) (by rw [pK_s, if_pos hcd, hRe, hr]; unfold stP; rw [if_neg h76]; exact h126)
                    | exact ih (u + 1) (by omega) I _ _ _ hfr (by rw [pK_s, if_pos hcd, hRe, hr]; unfold stP; rw [if_pos h76, if_pos (Or.inl h118)]; exact h124) (by rw [pK_s, if_pos hcd, hRe, hr]; unfold stP; rw [if_pos h76, if_pos (Or.inl h118)]; exact h125) (by rw [pK_s, if_pos hcd, hRe, hr]; unfold stP; rw [if_pos h76, if_pos (Or.inl h118)]; exact h126)
                    | exact ih (u + 1) (by omega) I _ _ _ hfr (by rw [pK_s, if_pos hcd, hRe, hr]; unfold stP; rw [if_pos h76, if_pos (Or.inr ⟨h129, h140⟩)]; exact h124) (by rw [pK_s, if_pos hcd, hRe, hr]; unfold stP; rw [if_pos h76, if_pos (Or.inr ⟨h129, h140⟩)]; exact h125) (by rw [pK_s, if_pos hcd, hRe, hr]; unfold stP; rw [if_pos h76, if_pos (Or.inr ⟨h129, h140⟩)]; exact h126)
                    | (have hst : pK (rtB nst (fun f g => D (sa f) (sa g)) (fun f => D (sa f) hc) (I0 112) may (I0 101 7)) (leB nst (fun f g => D (sa f) (sa g)) (fun f => D (sa f) hc)) S (u + 1) = (r.1 + 1, r.2.1 + leB nst (fun f g => D (sa f) (sa g)) (fun f => D (sa f) hc) u, u) := (by
                        rw [pK_s, if_pos hcd, hRe, hr]; unfold stP; rw [if_pos h76, if_neg (fun q => q.elim h118 (fun q => by first | exact h129 q.1 | exact q.2 h140))])
                       exact ih (u + 1) (by omega) _ _ _ _ (frP_s (frP_s (frP_s hfr (by omega)) (by omega)) (by omega)) (by rw [hst, iu_ne (by omega), iu_ne (by omega), iu_eq]) (by rw [hst, iu_ne (by omega), iu_eq]) (by rw [hst]; intro _; exact iu_eq))
          · skip
            refine aE_goto (tgt := 170) dX12_part_79 (by decide) ?_
            refine aE_iinc dX12_part_170 rfl (a_inc _) (by decide) rfl (aE_loc (ls' := [_, _, _, _, _, _, _, _]) rfl ?_)
            refine aE_goto (tgt := 24) dX12_part_173 (by decide) ?_
            first
              | exact ih (u + 1) (by omega) I _ _ _ hfr (by rw [pK_s, if_neg (by unfold cdP; rw [decide_eq_false (fun q => h36 (by rw [q]; rfl))]; simp)]; first | exact h124 | exact h125 | exact h126) (by rw [pK_s, if_neg (by unfold cdP; rw [decide_eq_false (fun q => h36 (by rw [q]; rfl))]; simp)]; first | exact h124 | exact h125 | exact h126) (by rw [pK_s, if_neg (by unfold cdP; rw [decide_eq_false (fun q => h36 (by rw [q]; rfl))]; simp)]; first | exact h124 | exact h125 | exact h126)
              | exact ih (u + 1) (by omega) I _ _ _ hfr (by rw [pK_s, if_neg (by unfold cdP; rw [Bool.eq_false_iff.mpr (and_pow.mp ((nI_eq (b := 0) (Nat.lt_of_le_of_lt Nat.and_le_left (by omega)) (by omega)).mp h43))]; simp)]; first | exact h124 | exact h125 | exact h126) (by rw [pK_s, if_neg (by unfold cdP; rw [Bool.eq_false_iff.mpr (and_pow.mp ((nI_eq (b := 0) (Nat.lt_of_le_of_lt Nat.and_le_left (by omega)) (by omega)).mp h43))]; simp)]; first | exact h124 | exact h125 | exact h126) (by rw [pK_s, if_neg (by unfold cdP; rw [Bool.eq_false_iff.mpr (and_pow.mp ((nI_eq (b := 0) (Nat.lt_of_le_of_lt Nat.and_le_left (by omega)) (by omega)).mp h43))]; simp)]; first | exact h124 | exact h125 | exact h126)
              | (have hrt0 : rtB nst (fun f g => D (sa f) (sa g)) (fun f => D (sa f) hc) (I0 112) may (I0 101 7) u = false := Bool.eq_false_iff.mpr (fun q => by rw [if_pos q] at h53; exact absurd h53 (by decide))
                 exact ih (u + 1) (by omega) I _ _ _ hfr (by rw [pK_s, if_neg (by unfold cdP; rw [hrt0]; simp)]; first | exact h124 | exact h125 | exact h126) (by rw [pK_s, if_neg (by unfold cdP; rw [hrt0]; simp)]; first | exact h124 | exact h125 | exact h126) (by rw [pK_s, if_neg (by unfold cdP; rw [hrt0]; simp)]; first | exact h124 | exact h125 | exact h126))
              | exact ih (u + 1) (by omega) I _ _ _ hfr (by rw [pK_s, if_pos hcd, hRe, hr]; unfold stP; rw [if_neg h76]; exact h124) (by rw [pK_s, if_pos hcd, hRe, hr]; unfold stP; rw [if_neg h76]; exact h125) (by rw [pK_s, if_pos hcd, hRe, hr]; unfold stP; rw [if_neg h76]; exact h126)
              | exact ih (u + 1) (by omega) I _ _ _ hfr (by rw [pK_s, if_pos hcd, hRe, hr]; unfold stP; rw [if_pos h76, if_pos (Or.inl h118)]; exact h124) (by rw [pK_s, if_pos hcd, hRe, hr]; unfold stP; rw [if_pos h76, if_pos (Or.inl h118)]; exact h125) (by rw [pK_s, if_pos hcd, hRe, hr]; unfold stP; rw [if_pos h76, if_pos (Or.inl h118)]; exact h126)
              | exact ih (u + 1) (by omega) I _ _ _ hfr (by rw [pK_s, if_pos hcd, hRe, hr]; unfold stP; rw [if_pos h76, if_pos (Or.inr ⟨h129, h140⟩)]; exact h124) (by rw [pK_s, if_pos hcd, hRe, hr]; unfold stP; rw [if_pos h76, if_pos (Or.inr ⟨h129, h140⟩)]; exact h125) (by rw [pK_s, if_pos hcd, hRe, hr]; unfold stP; rw [if_pos h76, if_pos (Or.inr ⟨h129, h140⟩)]; exact h126)
              | (have hst : pK (rtB nst (fun f g => D (sa f) (sa g)) (fun f => D (sa f) hc) (I0 112) may (I0 101 7)) (leB nst (fun f g => D (sa f) (sa g)) (fun f => D (sa f) hc)) S (u + 1) = (r.1 + 1, r.2.1 + leB nst (fun f g => D (sa f) (sa g)) (fun f => D (sa f) hc) u, u) := (by
                  rw [pK_s, if_pos hcd, hRe, hr]; unfold stP; rw [if_pos h76, if_neg (fun q => q.elim h118 (fun q => by first | exact h129 q.1 | exact q.2 h140))])
                 exact ih (u + 1) (by omega) _ _ _ _ (frP_s (frP_s (frP_s hfr (by omega)) (by omega)) (by omega)) (by rw [hst, iu_ne (by omega), iu_ne (by omega), iu_eq]) (by rw [hst, iu_ne (by omega), iu_eq]) (by rw [hst]; intro _; exact iu_eq))
        · skip
          refine aE_goto (tgt := 170) dX12_part_56 (by decide) ?_
          refine aE_iinc dX12_part_170 rfl (a_inc _) (by decide) rfl (aE_loc (ls' := [_, _, _, _, _, _, _, _]) rfl ?_)
          refine aE_goto (tgt := 24) dX12_part_173 (by decide) ?_
          first
            | exact ih (u + 1) (by omega) I _ _ _ hfr (by rw [pK_s, if_neg (by unfold cdP; rw [decide_eq_false (fun q => h36 (by rw [q]; rfl))]; simp)]; first | exact h124 | exact h125 | exact h126) (by rw [pK_s, if_neg (by unfold cdP; rw [decide_eq_false (fun q => h36 (by rw [q]; rfl))]; simp)]; first | exact h124 | exact h125 | exact h126) (by rw [pK_s, if_neg (by unfold cdP; rw [decide_eq_false (fun q => h36 (by rw [q]; rfl))]; simp)]; first | exact h124 | exact h125 | exact h126)
            | exact ih (u + 1) (by omega) I _ _ _ hfr (by rw [pK_s, if_neg (by unfold cdP; rw [Bool.eq_false_iff.mpr (and_pow.mp ((nI_eq (b := 0) (Nat.lt_of_le_of_lt Nat.and_le_left (by omega)) (by omega)).mp h43))]; simp)]; first | exact h124 | exact h125 | exact h126) (by rw [pK_s, if_neg (by unfold cdP; rw [Bool.eq_false_iff.mpr (and_pow.mp ((nI_eq (b := 0) (Nat.lt_of_le_of_lt Nat.and_le_left (by omega)) (by omega)).mp h43))]; simp)]; first | exact h124 | exact h125 | exact h126) (by rw [pK_s, if_neg (by unfold cdP; rw [Bool.eq_false_iff.mpr (and_pow.mp ((nI_eq (b := 0) (Nat.lt_of_le_of_lt Nat.and_le_left (by omega)) (by omega)).mp h43))]; simp)]; first | exact h124 | exact h125 | exact h126)
            | (have hrt0 : rtB nst (fun f g => D (sa f) (sa g)) (fun f => D (sa f) hc) (I0 112) may (I0 101 7) u = false := Bool.eq_false_iff.mpr (fun q => by rw [if_pos q] at h53; exact absurd h53 (by decide))
               exact ih (u + 1) (by omega) I _ _ _ hfr (by rw [pK_s, if_neg (by unfold cdP; rw [hrt0]; simp)]; first | exact h124 | exact h125 | exact h126) (by rw [pK_s, if_neg (by unfold cdP; rw [hrt0]; simp)]; first | exact h124 | exact h125 | exact h126) (by rw [pK_s, if_neg (by unfold cdP; rw [hrt0]; simp)]; first | exact h124 | exact h125 | exact h126))
            | exact ih (u + 1) (by omega) I _ _ _ hfr (by rw [pK_s, if_pos hcd, hRe, hr]; unfold stP; rw [if_neg h76]; exact h124) (by rw [pK_s, if_pos hcd, hRe, hr]; unfold stP; rw [if_neg h76]; exact h125) (by rw [pK_s, if_pos hcd, hRe, hr]; unfold stP; rw [if_neg h76]; exact h126)
            | exact ih (u + 1) (by omega) I _ _ _ hfr (by rw [pK_s, if_pos hcd, hRe, hr]; unfold stP; rw [if_pos h76, if_pos (Or.inl h118)]; exact h124) (by rw [pK_s, if_pos hcd, hRe, hr]; unfold stP; rw [if_pos h76, if_pos (Or.inl h118)]; exact h125) (by rw [pK_s, if_pos hcd, hRe, hr]; unfold stP; rw [if_pos h76, if_pos (Or.inl h118)]; exact h126)
            | exact ih (u + 1) (by omega) I _ _ _ hfr (by rw [pK_s, if_pos hcd, hRe, hr]; unfold stP; rw [if_pos h76, if_pos (Or.inr ⟨h129, h140⟩)]; exact h124) (by rw [pK_s, if_pos hcd, hRe, hr]; unfold stP; rw [if_pos h76, if_pos (Or.inr ⟨h129, h140⟩)]; exact h125) (by rw [pK_s, if_pos hcd, hRe, hr]; unfold stP; rw [if_pos h76, if_pos (Or.inr ⟨h129, h140⟩)]; exact h126)
            | (have hst : pK (rtB nst (fun f g => D (sa f) (sa g)) (fun f => D (sa f) hc) (I0 112) may (I0 101 7)) (leB nst (fun f g => D (sa f) (sa g)) (fun f => D (sa f) hc)) S (u + 1) = (r.1 + 1, r.2.1 + leB nst (fun f g => D (sa f) (sa g)) (fun f => D (sa f) hc) u, u) := (by
                rw [pK_s, if_pos hcd, hRe, hr]; unfold stP; rw [if_pos h76, if_neg (fun q => q.elim h118 (fun q => by first | exact h129 q.1 | exact q.2 h140))])
               exact ih (u + 1) (by omega) _ _ _ _ (frP_s (frP_s (frP_s hfr (by omega)) (by omega)) (by omega)) (by rw [hst, iu_ne (by omega), iu_ne (by omega), iu_eq]) (by rw [hst, iu_ne (by omega), iu_eq]) (by rw [hst]; intro _; exact iu_eq))
theorem m_part (nst sc S hc : Nat) (sa : Nat → Nat) (D : tT) (may : Int32) (hn : I 101 3 = nI nst) (h10 : nst ≤ 10) (hS : S < 1024) (hS0 : S ≠ 0) (hsc : sc < 4) (hmay : (if I 106 sc = 3 then I 101 8 / 2 else I 101 8) = may) (hle0 : ∀ P, P ≠ 0 → P ≤ S → bdiff P S = 0 → I 123 P = leB nst (fun f g => D (sa f) (sa g)) (fun f => D (sa f) hc) P) (hpt : ∀ R, R < S → bdiff R S = 0 → I 124 R = (pB (rtB nst (fun f g => D (sa f) (sa g)) (fun f => D (sa f) hc) (I 112) may (I 101 7)) (leB nst (fun f g => D (sa f) (sa g)) (fun f => D (sa f) hc)) R).1 ∧ I 125 R = (pB (rtB nst (fun f g => D (sa f) (sa g)) (fun f => D (sa f) hc) (I 112) may (I 101 7)) (leB nst (fun f g => D (sa f) (sa g)) (fun f => D (sa f) hc)) R).2.1) (hQ : ∀ J, frP I S J → J 124 S = (pB (rtB nst (fun f g => D (sa f) (sa g)) (fun f => D (sa f) hc) (I 112) may (I 101 7)) (leB nst (fun f g => D (sa f) (sa g)) (fun f => D (sa f) hc)) S).1 → J 125 S = (pB (rtB nst (fun f g => D (sa f) (sa g)) (fun f => D (sa f) hc) (I 112) may (I 101 7)) (leB nst (fun f g => D (sa f) (sa g)) (fun f => D (sa f) hc)) S).2.1 → ((pB (rtB nst (fun f g => D (sa f) (sa g)) (fun f => D (sa f) hc) (I 112) may (I 101 7)) (leB nst (fun f g => D (sa f) (sa g)) (fun f => D (sa f) hc)) S).1 < 1000000 → J 126 S = nI (pB (rtB nst (fun f g => D (sa f) (sa g)) (fun f => D (sa f) hc) (I 112) may (I 101 7)) (leB nst (fun f g => D (sa f) (sa g)) (fun f => D (sa f) hc)) S).2.2) → Q none (nn pl) (MM J sp pl)) : aRuns mX12_part (rK 3) [.ref 101, .int (nI sc), .int (nI S)] (nn pl) (MM I sp pl) Q := by
  have hl := loI_tb S hS hS0
  have hle2 : 2 ^ loI S ≤ S := Nat.ge_two_pow_of_testBit hl.1
  refine aRuns_of pn_X12_part (Nat.le_of_ble_eq_true rfl) (fun z => aE_loc (ls' := [_, _, _, _, _, _, _, _]) rfl ?_)
  refine aE_aload_n dX12_part_0 rfl rfl ?_
  refine aE_getf (v := .ref 124) dX12_part_1 fw_X12_84 (lt_nn (by decide)) rfl rfl ?_
  refine aE_iload_n dX12_part_4 rfl rfl ?_
  refine aE_ldc dX12_part_5 ct_X12_192 ?_
  refine aE_istM dX12_part_7 (lt_nn (by decide)) rfl (by decide) rfl (by omega) ?_
  refine aE_aload_n dX12_part_8 rfl rfl ?_
  refine aE_getf (v := .ref 125) dX12_part_9 fw_X12_87 (lt_nn (by decide)) rfl rfl ?_
  refine aE_iload_n dX12_part_12 rfl rfl ?_
  refine aE_ldc dX12_part_13 ct_X12_192 ?_
  refine aE_istM dX12_part_15 (lt_nn (by decide)) rfl (by decide) rfl (by omega) ?_
  refine aE_iload_n dX12_part_16 rfl rfl ?_
  refine aE_iload_n dX12_part_17 rfl rfl ?_
  refine aE_ineg dX12_part_18 ?_
  refine aE_iand dX12_part_19 ?_
  refine aE_top (x' := nI (2 ^ loI S)) (by rw [loI_all S hS, if_neg hS0]) ?_
  refine aE_istore_n dX12_part_20 rfl (by decide) rfl (aE_loc (ls' := [_, _, _, _, _, _, _, _]) rfl ?_)
  refine aE_iload_n dX12_part_21 rfl rfl ?_
  refine aE_istore dX12_part_22 (by decide) rfl (aE_loc (ls' := [_, _, _, _, _, _, _, _]) rfl ?_)
  exact l_mpart I nst sc S hc sa D may hn h10 hS hS0 hsc hmay hle0 hpt hQ (S + 1 - 2 ^ loI S) (2 ^ loI S) (by omega) _ _ _ _ (frP_s (frP_s (fun _ _ _ => rfl) (by omega)) (by omega)) (by rw [pK_low _ (Nat.le_refl _), iu_ne (by omega), iu_eq]) (by rw [pK_low _ (Nat.le_refl _), iu_eq]) (by rw [pK_low _ (Nat.le_refl _)]; intro q; exact absurd q (by decide))
end MPL2
