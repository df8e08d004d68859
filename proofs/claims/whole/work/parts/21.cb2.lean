/-- how many of the first k have x -/
def cntS (f : Nat → Int32) (x : Int32) : Nat → Int32
  | 0 => 0
  | k + 1 => if f k = x then cntS f x k + 1 else cntS f x k
def sumS (f g : Nat → Int32) (x : Int32) : Nat → Int32
  | 0 => 0
  | k + 1 => if f k = x then sumS f g x k + g k else sumS f g x k
abbrev spOK (sp : Nat → Nat) : Prop := (∀ k, k < 10 → 44 ≤ sp k ∧ sp k < 54) ∧ ∀ j k, j < 10 → k < 10 → sp j = sp k → j = k
/-- a kind is of another: 1 or 0 -/
def isU (kd ab : Int32) : Int32 := if ab = 0 ∨ kd = ab ∨ (kd = 3 ∧ ab = 1) then 1 else 0
theorem isU_or (a b : Int32) : isU a b = 0 ∨ isU a b = 1 := by
  unfold isU; split
  · exact Or.inr rfl
  · exact Or.inl rfl
section CB2
variable {z : Nat × (Nat → Int32)} {n : Nat} {mem : aM} {I : Nat → Nat → Int32} {sp : Nat → Nat} {pl : Bool} {Q : Option Value → Nat → aM → Prop} {R : Room}
theorem lU_m {kd ab : Int32} {s : Nat} (hab : ¬ ab < 0) (hQ : Q (some (.int 0)) n mem) : aE z mX11_isUnder (rK 0) Q 4 [some (.int kd), some (.int ab), some (.int (-1)), some (.int (nI s))] [] n mem 0 0 := by
  have hne : ¬ (-1 : Int32) = ab := fun h => hab (by rw [← h]; decide)
  refine aE_iload_n dX11_isUnder_4 rfl rfl ?_
  refine aE_iconst (v := 4) dX11_isUnder_5 rfl ?_
  refine aE_icmp_ge (tgt := 30) dX11_isUnder_6 (by decide) (fun h6 => ?_) (fun h6 => ?_)
  · skip
    refine aE_iload_n dX11_isUnder_30 rfl rfl ?_
    refine aE_iload_n dX11_isUnder_31 rfl rfl ?_
    refine aE_icmp_ne (tgt := 39) dX11_isUnder_32 (by decide) (fun h32 => ?_) (fun h32 => absurd h32 (hne))
    refine aE_iconst (v := 0) dX11_isUnder_39 rfl ?_
    refine aE_zret dX11_isUnder_40 rfl (by first | exact Or.inl rfl | exact Or.inr rfl | exact wi_or _ _ _ | assumption) ⟨by decide, by decide⟩ ?_
    exact hQ
  · skip
    refine aE_iload_n dX11_isUnder_9 rfl rfl ?_
    refine aE_if_lt (tgt := 30) dX11_isUnder_10 (by decide) (fun h10 => ?_) (fun h10 => absurd (by decide) h10)
    refine aE_iload_n dX11_isUnder_30 rfl rfl ?_
    refine aE_iload_n dX11_isUnder_31 rfl rfl ?_
    refine aE_icmp_ne (tgt := 39) dX11_isUnder_32 (by decide) (fun h32 => ?_) (fun h32 => absurd h32 (hne))
    refine aE_iconst (v := 0) dX11_isUnder_39 rfl ?_
    refine aE_zret dX11_isUnder_40 rfl (by first | exact Or.inl rfl | exact Or.inr rfl | exact wi_or _ _ _ | assumption) ⟨by decide, by decide⟩ ?_
    exact hQ
theorem lU_0 {kd ab : Int32} {s : Nat} (hs : s < 4) (hab : ¬ ab < 0) (h1 : ab = 0 → Q (some (.int 1)) n mem) (h2 : ¬ ab = 0 → Q (some (.int 0)) n mem) : aE z mX11_isUnder (rK 0) Q 4 [some (.int kd), some (.int ab), some (.int 0), some (.int (nI s))] [] n mem 0 0 := by
  refine aE_iload_n dX11_isUnder_4 rfl rfl ?_
  refine aE_iconst (v := 4) dX11_isUnder_5 rfl ?_
  refine aE_icmp_ge (tgt := 30) dX11_isUnder_6 (by decide) (fun h6 => absurd h6 (nI_ge (a := s) (b := 4) hs (by decide))) (fun h6 => ?_)
  refine aE_iload_n dX11_isUnder_9 rfl rfl ?_
  refine aE_if_lt (tgt := 30) dX11_isUnder_10 (by decide) (fun h10 => absurd h10 (by decide)) (fun h10 => ?_)
  refine aE_iload_n dX11_isUnder_13 rfl rfl ?_
  refine aE_iload_n dX11_isUnder_14 rfl rfl ?_
  refine aE_icmp_eq (tgt := 30) dX11_isUnder_15 (by decide) (fun h15 => ?_) (fun h15 => ?_)
  · skip
    skip
    refine aE_iload_n dX11_isUnder_30 rfl rfl ?_
    refine aE_iload_n dX11_isUnder_31 rfl rfl ?_
    refine aE_icmp_ne (tgt := 39) dX11_isUnder_32 (by decide) (fun h32 => absurd (h15) h32) (fun h32 => ?_)
    refine aE_iconst (v := 1) dX11_isUnder_35 rfl ?_
    refine aE_goto (tgt := 40) dX11_isUnder_36 (by decide) ?_
    refine aE_zret dX11_isUnder_40 rfl (by first | exact Or.inl rfl | exact Or.inr rfl | exact wi_or _ _ _ | assumption) ⟨by decide, by decide⟩ ?_
    exact h1 h15.symm
  · skip
    refine aE_under dX11_isUnder_18 us_X11_353 ?_
    refine aE_iload_n dX11_isUnder_21 rfl rfl ?_
    refine aE_uld (j := 0) (v := -1) dX11_isUnder_22 rfl (by decide) rfl ?_
    refine aE_istore_n dX11_isUnder_23 rfl (by decide) rfl (aE_loc (ls' := [_, _, _, _]) rfl ?_)
    refine aE_iinc dX11_isUnder_24 rfl (a_inc _) (by decide) rfl (aE_loc (ls' := [_, _, _, _]) rfl ?_)
    refine aE_goto (tgt := 4) dX11_isUnder_27 (by decide) ?_
    exact lU_m hab (h2 (fun q => h15 q.symm))
theorem lU_1 {kd ab : Int32} {s : Nat} (hs : s < 3) (hab : ¬ ab < 0) (h1 : isU 1 ab = 1 → Q (some (.int 1)) n mem) (h2 : isU 1 ab = 0 → Q (some (.int 0)) n mem) : aE z mX11_isUnder (rK 0) Q 4 [some (.int kd), some (.int ab), some (.int 1), some (.int (nI s))] [] n mem 0 0 := by
  refine aE_iload_n dX11_isUnder_4 rfl rfl ?_
  refine aE_iconst (v := 4) dX11_isUnder_5 rfl ?_
  refine aE_icmp_ge (tgt := 30) dX11_isUnder_6 (by decide) (fun h6 => absurd h6 (nI_ge (a := s) (b := 4) (by omega) (by decide))) (fun h6 => ?_)
  refine aE_iload_n dX11_isUnder_9 rfl rfl ?_
  refine aE_if_lt (tgt := 30) dX11_isUnder_10 (by decide) (fun h10 => absurd h10 (by decide)) (fun h10 => ?_)
  refine aE_iload_n dX11_isUnder_13 rfl rfl ?_
  refine aE_iload_n dX11_isUnder_14 rfl rfl ?_
  refine aE_icmp_eq (tgt := 30) dX11_isUnder_15 (by decide) (fun h15 => ?_) (fun h15 => ?_)
  · skip
    refine aE_iload_n dX11_isUnder_30 rfl rfl ?_
    refine aE_iload_n dX11_isUnder_31 rfl rfl ?_
    refine aE_icmp_ne (tgt := 39) dX11_isUnder_32 (by decide) (fun h32 => absurd (h15) h32) (fun h32 => ?_)
    refine aE_iconst (v := 1) dX11_isUnder_35 rfl ?_
    refine aE_goto (tgt := 40) dX11_isUnder_36 (by decide) ?_
    refine aE_zret dX11_isUnder_40 rfl (by first | exact Or.inl rfl | exact Or.inr rfl | exact wi_or _ _ _ | assumption) ⟨by decide, by decide⟩ ?_
    exact h1 (by subst h15; decide)
  · skip
    refine aE_under dX11_isUnder_18 us_X11_353 ?_
    refine aE_iload_n dX11_isUnder_21 rfl rfl ?_
    refine aE_uld (j := 1) (v := 0) dX11_isUnder_22 rfl (by decide) rfl ?_
    refine aE_istore_n dX11_isUnder_23 rfl (by decide) rfl (aE_loc (ls' := [_, _, _, _]) rfl ?_)
    refine aE_iinc dX11_isUnder_24 rfl (a_inc _) (by decide) rfl (aE_loc (ls' := [_, _, _, _]) rfl ?_)
    refine aE_goto (tgt := 4) dX11_isUnder_27 (by decide) ?_
    exact lU_0 (by omega) hab (fun q => h1 (by unfold isU; rw [if_pos (by simp [q])])) (fun q => h2 (by unfold isU; rw [if_neg (by rintro (r | r | ⟨r1, r2⟩) <;> first | exact q r | exact h15 r | exact absurd r1 (by decide))]))
theorem lU_2 {kd ab : Int32} {s : Nat} (hs : s < 3) (hab : ¬ ab < 0) (h1 : isU 2 ab = 1 → Q (some (.int 1)) n mem) (h2 : isU 2 ab = 0 → Q (some (.int 0)) n mem) : aE z mX11_isUnder (rK 0) Q 4 [some (.int kd), some (.int ab), some (.int 2), some (.int (nI s))] [] n mem 0 0 := by
  refine aE_iload_n dX11_isUnder_4 rfl rfl ?_
  refine aE_iconst (v := 4) dX11_isUnder_5 rfl ?_
  refine aE_icmp_ge (tgt := 30) dX11_isUnder_6 (by decide) (fun h6 => absurd h6 (nI_ge (a := s) (b := 4) (by omega) (by decide))) (fun h6 => ?_)
  refine aE_iload_n dX11_isUnder_9 rfl rfl ?_
  refine aE_if_lt (tgt := 30) dX11_isUnder_10 (by decide) (fun h10 => absurd h10 (by decide)) (fun h10 => ?_)
  refine aE_iload_n dX11_isUnder_13 rfl rfl ?_
  refine aE_iload_n dX11_isUnder_14 rfl rfl ?_
  refine aE_icmp_eq (tgt := 30) dX11_isUnder_15 (by decide) (fun h15 => ?_) (fun h15 => ?_)
  · skip
    refine aE_iload_n dX11_isUnder_30 rfl rfl ?_
    refine aE_iload_n dX11_isUnder_31 rfl rfl ?_
    refine aE_icmp_ne (tgt := 39) dX11_isUnder_32 (by decide) (fun h32 => absurd (h15) h32) (fun h32 => ?_)
    refine aE_iconst (v := 1) dX11_isUnder_35 rfl ?_
    refine aE_goto (tgt := 40) dX11_isUnder_36 (by decide) ?_
    refine aE_zret dX11_isUnder_40 rfl (by first | exact Or.inl rfl | exact Or.inr rfl | exact wi_or _ _ _ | assumption) ⟨by decide, by decide⟩ ?_
    exact h1 (by subst h15; decide)
  · skip
    refine aE_under dX11_isUnder_18 us_X11_353 ?_
    refine aE_iload_n dX11_isUnder_21 rfl rfl ?_
    refine aE_uld (j := 2) (v := 0) dX11_isUnder_22 rfl (by decide) rfl ?_
    refine aE_istore_n dX11_isUnder_23 rfl (by decide) rfl (aE_loc (ls' := [_, _, _, _]) rfl ?_)
    refine aE_iinc dX11_isUnder_24 rfl (a_inc _) (by decide) rfl (aE_loc (ls' := [_, _, _, _]) rfl ?_)
    refine aE_goto (tgt := 4) dX11_isUnder_27 (by decide) ?_
    exact lU_0 (by omega) hab (fun q => h1 (by unfold isU; rw [if_pos (by simp [q])])) (fun q => h2 (by unfold isU; rw [if_neg (by rintro (r | r | ⟨r1, r2⟩) <;> first | exact q r | exact h15 r | exact absurd r1 (by decide))]))
theorem lU_3 {kd ab : Int32} {s : Nat} (hs : s < 2) (hab : ¬ ab < 0) (h1 : isU 3 ab = 1 → Q (some (.int 1)) n mem) (h2 : isU 3 ab = 0 → Q (some (.int 0)) n mem) : aE z mX11_isUnder (rK 0) Q 4 [some (.int kd), some (.int ab), some (.int 3), some (.int (nI s))] [] n mem 0 0 := by
  refine aE_iload_n dX11_isUnder_4 rfl rfl ?_
  refine aE_iconst (v := 4) dX11_isUnder_5 rfl ?_
  refine aE_icmp_ge (tgt := 30) dX11_isUnder_6 (by decide) (fun h6 => absurd h6 (nI_ge (a := s) (b := 4) (by omega) (by decide))) (fun h6 => ?_)
  refine aE_iload_n dX11_isUnder_9 rfl rfl ?_
  refine aE_if_lt (tgt := 30) dX11_isUnder_10 (by decide) (fun h10 => absurd h10 (by decide)) (fun h10 => ?_)
  refine aE_iload_n dX11_isUnder_13 rfl rfl ?_
  refine aE_iload_n dX11_isUnder_14 rfl rfl ?_
  refine aE_icmp_eq (tgt := 30) dX11_isUnder_15 (by decide) (fun h15 => ?_) (fun h15 => ?_)
  · skip
    refine aE_iload_n dX11_isUnder_30 rfl rfl ?_
    refine aE_iload_n dX11_isUnder_31 rfl rfl ?_
    refine aE_icmp_ne (tgt := 39) dX11_isUnder_32 (by decide) (fun h32 => absurd (h15) h32) (fun h32 => ?_)
    refine aE_iconst (v := 1) dX11_isUnder_35 rfl ?_
    refine aE_goto (tgt := 40) dX11_isUnder_36 (by decide) ?_
    refine aE_zret dX11_isUnder_40 rfl (by first | exact Or.inl rfl | exact Or.inr rfl | exact wi_or _ _ _ | assumption) ⟨by decide, by decide⟩ ?_
    exact h1 (by subst h15; decide)
  · skip
    refine aE_under dX11_isUnder_18 us_X11_353 ?_
    refine aE_iload_n dX11_isUnder_21 rfl rfl ?_
    refine aE_uld (j := 3) (v := 1) dX11_isUnder_22 rfl (by decide) rfl ?_
    refine aE_istore_n dX11_isUnder_23 rfl (by decide) rfl (aE_loc (ls' := [_, _, _, _]) rfl ?_)
    refine aE_iinc dX11_isUnder_24 rfl (a_inc _) (by decide) rfl (aE_loc (ls' := [_, _, _, _]) rfl ?_)
    refine aE_goto (tgt := 4) dX11_isUnder_27 (by decide) ?_
    exact lU_1 (by omega) hab (fun q => h1 (by revert q; unfold isU; intro q; split at q <;> rename_i w <;> first | (rw [if_pos (by rcases w with w | w | w <;> simp_all)]) | exact absurd q (by decide))) (fun q => h2 (by revert q; unfold isU; intro q; split at q <;> rename_i w <;> first | exact absurd q (by decide) | (rw [if_neg (by rintro (r | r | ⟨r1, r2⟩) <;> simp_all)])))
theorem c_isUnder (kd : Nat) (ab : Int32) (hk : kd < 4) (hab : ¬ ab < 0) : aRuns mX11_isUnder (rK 0) [.int (nI kd), .int ab] n mem (a_ri (isU (nI kd) ab) n mem) := by
  refine aRuns_of pn_X11_isUnder (Nat.le_of_ble_eq_true rfl) (fun z => aE_loc (ls' := [_, _, _, _]) rfl ?_)
  refine aE_iload_n dX11_isUnder_0 rfl rfl ?_
  refine aE_istore_n dX11_isUnder_1 rfl (by decide) rfl (aE_loc (ls' := [_, _, _, _]) rfl ?_)
  refine aE_iconst (v := 0) dX11_isUnder_2 rfl ?_
  refine aE_istore_n dX11_isUnder_3 rfl (by decide) rfl (aE_loc (ls' := [_, _, _, _]) rfl ?_)
  rcases (show kd = 0 ∨ kd = 1 ∨ kd = 2 ∨ kd = 3 by omega) with rfl | rfl | rfl | rfl
  · exact lU_0 (s := 0) (by omega) hab (fun q => a_rio (by rw [q]; decide) rfl) (fun q => a_rio (by unfold isU; rw [if_neg (by rintro (r | r | ⟨r1, r2⟩) <;> first | exact q r | exact q r.symm | exact absurd r1 (by decide))]) rfl)
  · exact lU_1 (s := 0) (by omega) hab (fun q => a_rio q.symm rfl) (fun q => a_rio q.symm rfl)
  · exact lU_2 (s := 0) (by omega) hab (fun q => a_rio q.symm rfl) (fun q => a_rio q.symm rfl)
  · exact lU_3 (s := 0) (by omega) hab (fun q => a_rio q.symm rfl) (fun q => a_rio q.symm rfl)
theorem l_stopsOf (x : Int32) (nst : Nat) (hn : I 1 5 = nI nst) (h10 : nst ≤ 10) (hsp : ∀ k, k < 10 → 44 ≤ sp k ∧ sp k < 54) (hQ : qi Q (cntS (fun k => I (sp k) 0) x nst) I sp pl) : ∀ (m k : Nat) (acc : Int32), k + m = nst → acc = cntS (fun k => I (sp k) 0) x k → aE z mX0_stopsOf (rK 0) Q 4 [some (.ref 1), some (.int x), some (.int acc), some (.int (nI k))] [] (nn pl) (MM I sp pl) 0 0 := by
  intro m
  induction m with
  | zero =>
    intro k acc hk hacc
    have hk : k = nst := by omega
    subst hk
    refine aE_iload_n dX0_stopsOf_4 rfl rfl ?_
    refine aE_aload_n dX0_stopsOf_5 rfl rfl ?_
    refine aE_geti dX0_stopsOf_6 fw_X0_50 (lt_nn (by decide)) rfl (by decide) rfl ?_
    refine aE_icmp_ge (tgt := 34) dX0_stopsOf_9 (by decide) (fun h9 => ?_) (fun h9 => absurd (by rw [hn]; exact Int32.le_refl _) h9)
    refine aE_iload_n dX0_stopsOf_34 rfl rfl ?_
    refine aE_iret dX0_stopsOf_35 rfl ⟨by decide, by decide⟩ ?_
    rw [hacc]; exact hQ
  | succ m ih =>
    intro k acc hk hacc
    refine aE_iload_n dX0_stopsOf_4 rfl rfl ?_
    refine aE_aload_n dX0_stopsOf_5 rfl rfl ?_
    refine aE_geti dX0_stopsOf_6 fw_X0_50 (lt_nn (by decide)) rfl (by decide) rfl ?_
    refine aE_icmp_ge (tgt := 34) dX0_stopsOf_9 (by decide) (fun h9 => absurd h9 (by rw [hn]; exact nI_ge (by omega) (by omega))) (fun h9 => ?_)
    refine aE_aload_n dX0_stopsOf_12 rfl rfl ?_
    refine aE_getf (v := .ref 27) dX0_stopsOf_13 fw_X0_30 (lt_nn (by decide)) rfl rfl ?_
    refine aE_iload_n dX0_stopsOf_16 rfl rfl ?_
    refine aE_aald (t := 103) dX0_stopsOf_17 (lt_nn (by decide)) ⟨by decide, by decide⟩ rfl (by decide) rfl (show k < 10 by omega) mm_stop ?_
    refine aE_geti dX0_stopsOf_18 fw_X0_62 (lt_nn (by have := (hsp k (by omega)); omega)) (sh_stop (hsp k (by omega))) (mc_stop (i := 0) (hsp k (by omega))).1 (mc_stop (i := 0) (hsp k (by omega))).2 ?_
    refine aE_iload_n dX0_stopsOf_21 rfl rfl ?_
    refine aE_icmp_ne (tgt := 28) dX0_stopsOf_22 (by decide) (fun h22 => ?_) (fun h22 => ?_)
    · skip
      refine aE_iinc dX0_stopsOf_28 rfl (a_inc _) (by decide) rfl (aE_loc (ls' := [_, _, _, _]) rfl ?_)
      refine aE_goto (tgt := 4) dX0_stopsOf_31 (by decide) ?_
      exact ih (k + 1) _ (by omega) (by rw [hacc]; simp [cntS, h22])
    · skip
      refine aE_iinc dX0_stopsOf_25 rfl rfl (by decide) rfl (aE_loc (ls' := [_, _, _, _]) rfl ?_)
      refine aE_iinc dX0_stopsOf_28 rfl (a_inc _) (by decide) rfl (aE_loc (ls' := [_, _, _, _]) rfl ?_)
      refine aE_goto (tgt := 4) dX0_stopsOf_31 (by decide) ?_
      exact ih (k + 1) _ (by omega) (by rw [hacc]; simp [cntS, h22])
theorem c_stopsOf (x : Int32) (nst : Nat) (hn : I 1 5 = nI nst) (h10 : nst ≤ 10) (hsp : ∀ k, k < 10 → 44 ≤ sp k ∧ sp k < 54) : aRuns mX0_stopsOf (rK 0) [.ref 1, .int x] (nn pl) (MM I sp pl) (a_ri (cntS (fun k => I (sp k) 0) x nst) (nn pl) (MM I sp pl)) := by
  refine aRuns_of pn_X0_stopsOf (Nat.le_of_ble_eq_true rfl) (fun z => aE_loc (ls' := [_, _, _, _]) rfl ?_)
  refine aE_iconst (v := 0) dX0_stopsOf_0 rfl ?_
  refine aE_istore_n dX0_stopsOf_1 rfl (by decide) rfl (aE_loc (ls' := [_, _, _, _]) rfl ?_)
  refine aE_iconst (v := 0) dX0_stopsOf_2 rfl ?_
  refine aE_istore_n dX0_stopsOf_3 rfl (by decide) rfl (aE_loc (ls' := [_, _, _, _]) rfl ?_)
  exact l_stopsOf x nst hn h10 hsp ⟨rfl, rfl, rfl⟩ nst 0 0 (by omega) rfl
theorem l_pupilsOf (x : Int32) (nst : Nat) (hn : I 1 5 = nI nst) (h10 : nst ≤ 10) (hsp : ∀ k, k < 10 → 44 ≤ sp k ∧ sp k < 54) (hQ : qi Q (sumS (fun k => I (sp k) 0) (fun k => I (sp k) 2) x nst) I sp pl) : ∀ (m k : Nat) (acc : Int32), k + m = nst → acc = sumS (fun k => I (sp k) 0) (fun k => I (sp k) 2) x k → aE z mX0_pupilsOf (rK 0) Q 4 [some (.ref 1), some (.int x), some (.int acc), some (.int (nI k))] [] (nn pl) (MM I sp pl) 0 0 := by
  intro m
  induction m with
  | zero =>
    intro k acc hk hacc
    have hk : k = nst := by omega
    subst hk
    refine aE_iload_n dX0_pupilsOf_4 rfl rfl ?_
    refine aE_aload_n dX0_pupilsOf_5 rfl rfl ?_
    refine aE_geti dX0_pupilsOf_6 fw_X0_50 (lt_nn (by decide)) rfl (by decide) rfl ?_
    refine aE_icmp_ge (tgt := 43) dX0_pupilsOf_9 (by decide) (fun h9 => ?_) (fun h9 => absurd (by rw [hn]; exact Int32.le_refl _) h9)
    refine aE_iload_n dX0_pupilsOf_43 rfl rfl ?_
    refine aE_iret dX0_pupilsOf_44 rfl ⟨by decide, by decide⟩ ?_
    rw [hacc]; exact hQ
  | succ m ih =>
    intro k acc hk hacc
    refine aE_iload_n dX0_pupilsOf_4 rfl rfl ?_
    refine aE_aload_n dX0_pupilsOf_5 rfl rfl ?_
    refine aE_geti dX0_pupilsOf_6 fw_X0_50 (lt_nn (by decide)) rfl (by decide) rfl ?_
    refine aE_icmp_ge (tgt := 43) dX0_pupilsOf_9 (by decide) (fun h9 => absurd h9 (by rw [hn]; exact nI_ge (by omega) (by omega))) (fun h9 => ?_)
    refine aE_aload_n dX0_pupilsOf_12 rfl rfl ?_
    refine aE_getf (v := .ref 27) dX0_pupilsOf_13 fw_X0_30 (lt_nn (by decide)) rfl rfl ?_
    refine aE_iload_n dX0_pupilsOf_16 rfl rfl ?_
    refine aE_aald (t := 103) dX0_pupilsOf_17 (lt_nn (by decide)) ⟨by decide, by decide⟩ rfl (by decide) rfl (show k < 10 by omega) mm_stop ?_
    refine aE_geti dX0_pupilsOf_18 fw_X0_62 (lt_nn (by have := (hsp k (by omega)); omega)) (sh_stop (hsp k (by omega))) (mc_stop (i := 0) (hsp k (by omega))).1 (mc_stop (i := 0) (hsp k (by omega))).2 ?_
    refine aE_iload_n dX0_pupilsOf_21 rfl rfl ?_
    refine aE_icmp_ne (tgt := 37) dX0_pupilsOf_22 (by decide) (fun h22 => ?_) (fun h22 => ?_)
    · skip
      refine aE_iinc dX0_pupilsOf_37 rfl (a_inc _) (by decide) rfl (aE_loc (ls' := [_, _, _, _]) rfl ?_)
      refine aE_goto (tgt := 4) dX0_pupilsOf_40 (by decide) ?_
      exact ih (k + 1) _ (by omega) (by rw [hacc]; simp [sumS, h22])
    · skip
      refine aE_iload_n dX0_pupilsOf_25 rfl rfl ?_
      refine aE_aload_n dX0_pupilsOf_26 rfl rfl ?_
      refine aE_getf (v := .ref 27) dX0_pupilsOf_27 fw_X0_30 (lt_nn (by decide)) rfl rfl ?_
      refine aE_iload_n dX0_pupilsOf_30 rfl rfl ?_
      refine aE_aald (t := 103) dX0_pupilsOf_31 (lt_nn (by decide)) ⟨by decide, by decide⟩ rfl (by decide) rfl (show k < 10 by omega) mm_stop ?_
      refine aE_geti dX0_pupilsOf_32 fw_X0_66 (lt_nn (by have := (hsp k (by omega)); omega)) (sh_stop (hsp k (by omega))) (mc_stop (i := 2) (hsp k (by omega))).1 (mc_stop (i := 2) (hsp k (by omega))).2 ?_
      refine aE_iadd dX0_pupilsOf_35 ?_
      refine aE_istore_n dX0_pupilsOf_36 rfl (by decide) rfl (aE_loc (ls' := [_, _, _, _]) rfl ?_)
      refine aE_iinc dX0_pupilsOf_37 rfl (a_inc _) (by decide) rfl (aE_loc (ls' := [_, _, _, _]) rfl ?_)
      refine aE_goto (tgt := 4) dX0_pupilsOf_40 (by decide) ?_
      exact ih (k + 1) _ (by omega) (by rw [hacc]; simp [sumS, h22])
theorem c_pupilsOf (x : Int32) (nst : Nat) (hn : I 1 5 = nI nst) (h10 : nst ≤ 10) (hsp : ∀ k, k < 10 → 44 ≤ sp k ∧ sp k < 54) : aRuns mX0_pupilsOf (rK 0) [.ref 1, .int x] (nn pl) (MM I sp pl) (a_ri (sumS (fun k => I (sp k) 0) (fun k => I (sp k) 2) x nst) (nn pl) (MM I sp pl)) := by
  refine aRuns_of pn_X0_pupilsOf (Nat.le_of_ble_eq_true rfl) (fun z => aE_loc (ls' := [_, _, _, _]) rfl ?_)
  refine aE_iconst (v := 0) dX0_pupilsOf_0 rfl ?_
  refine aE_istore_n dX0_pupilsOf_1 rfl (by decide) rfl (aE_loc (ls' := [_, _, _, _]) rfl ?_)
  refine aE_iconst (v := 0) dX0_pupilsOf_2 rfl ?_
  refine aE_istore_n dX0_pupilsOf_3 rfl (by decide) rfl (aE_loc (ls' := [_, _, _, _]) rfl ?_)
  exact l_pupilsOf x nst hn h10 hsp ⟨rfl, rfl, rfl⟩ nst 0 0 (by omega) rfl
set_option maxRecDepth 20000 in
theorem c_longest (s : Nat) (h4 : s < 4) : aRuns mX0_longest (rK 0) [.ref 1, .int (nI s)] (nn pl) (MM I sp pl) (a_ri (if I (28 + 4 * s) 0 = 3 then I 1 7 / 2 else I 1 7) (nn pl) (MM I sp pl)) := by
  refine aRuns_of pn_X0_longest (Nat.le_of_ble_eq_true rfl) (fun z => aE_loc (ls' := [_, _]) rfl ?_)
  refine aE_aload_n dX0_longest_0 rfl rfl ?_
  refine aE_getf (v := .ref 25) dX0_longest_1 fw_X0_20 (lt_nn (by decide)) rfl rfl ?_
  refine aE_iload_n dX0_longest_4 rfl rfl ?_
  refine aE_aald (t := 102) dX0_longest_5 (lt_nn (by decide)) ⟨by decide, by decide⟩ rfl (by decide) rfl h4 (mm_schs h4) ?_
  refine aE_geti dX0_longest_6 fw_X0_53 (lt_nn (by omega)) (sh_sch h4) (mc_sch (i := 0) h4 (by decide)).1 (mc_sch (i := 0) h4 (by decide)).2 ?_
  refine aE_iconst (v := 3) dX0_longest_9 rfl ?_
  refine aE_icmp_ne (tgt := 22) dX0_longest_10 (by decide) (fun h10 => ?_) (fun h10 => ?_)
  · skip
    rw [if_neg h10]
    refine aE_aload_n dX0_longest_22 rfl rfl ?_
    refine aE_geti dX0_longest_23 fw_X0_38 (lt_nn (by decide)) rfl (by decide) rfl ?_
    refine aE_iret dX0_longest_26 rfl ⟨by decide, by decide⟩ ?_
    exact ⟨rfl, rfl, rfl⟩
  · skip
    rw [if_pos h10]
    refine aE_aload_n dX0_longest_13 rfl rfl ?_
    refine aE_geti dX0_longest_14 fw_X0_38 (lt_nn (by decide)) rfl (by decide) rfl ?_
    refine aE_iconst (v := 2) dX0_longest_17 rfl ?_
    refine aE_idiv dX0_longest_18 (by decide) ?_
    refine aE_goto (tgt := 26) dX0_longest_19 (by decide) ?_
    refine aE_iret dX0_longest_26 rfl ⟨by decide, by decide⟩ ?_
    exact ⟨rfl, rfl, rfl⟩

end CB2
