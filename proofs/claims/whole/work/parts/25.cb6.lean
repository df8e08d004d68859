/-- a rule lets a school of kind kd have bell b -/
def rOK (kd b rk lo hi : Int32) : Prop := isU kd rk = 0 ∨ ¬ wi b lo hi = 0
def permV (kd b : Int32) (rk lo hi : Nat → Int32) : Nat → Int32
  | 0 => 1
  | r + 1 => if permV kd b rk lo hi r = 0 then 0 else if isU kd (rk r) = 0 then 1 else wi b (lo r) (hi r)
theorem permV_or (kd b : Int32) (rk lo hi : Nat → Int32) : ∀ r, permV kd b rk lo hi r = 0 ∨ permV kd b rk lo hi r = 1
  | 0 => Or.inr rfl
  | r + 1 => by
    unfold permV
    split
    · exact Or.inl rfl
    · split
      · exact Or.inr rfl
      · exact wi_or _ _ _
theorem permV_0 {kd b : Int32} {rk lo hi : Nat → Int32} {r : Nat} : ∀ d, permV kd b rk lo hi r = 0 → permV kd b rk lo hi (r + d) = 0
  | 0, h => h
  | d + 1, h => by
    rw [← Nat.add_assoc]
    unfold permV
    rw [if_pos (permV_0 d h)]
section CB6
variable {z : Nat × (Nat → Int32)} {n : Nat} {mem : aM} {I : Nat → Nat → Int32} {sp : Nat → Nat} {pl : Bool} {Q : Option Value → Nat → aM → Prop} {R : Room}
theorem c_text (tl : Nat) (htl : I 75 0 = nI tl) (h60 : tl ≤ 60) (hW : ∀ p, p < tl → csC (I 76) p = 0 → (∀ q, q < p → ¬ csC (I 76) q = 0) → qi Q (-1000100 - nI p) (fnd (iu I 75 0 0)) sp pl) (hX : (∀ q, q < tl → ¬ csC (I 76) q = 0) → ¬ tl % 5 = 0 → qi Q (-1000100 - nI tl) (fnd (iu I 75 0 0)) sp pl) (hO : (∀ q, q < tl → ¬ csC (I 76) q = 0) → tl % 5 = 0 → tl / 5 ≤ 8 → qi Q (nI (tl / 5)) (iu (iu (adI 77 78 79 76 (iu I 75 1 (nI (tl / 5))) (tl / 5)) 0 9 0) 75 0 0) sp pl) : aRuns mX11_text (rK 3) [.ref 0] (nn pl) (MM I sp pl) Q := by
  refine aRuns_of pn_X11_text (Nat.le_of_ble_eq_true rfl) (fun z => aE_loc (ls' := [_, _]) rfl ?_)
  have bad : ∀ p : Nat, p ≤ 60 → qi Q (-1000100 - nI p) (fnd (iu I 75 0 0)) sp pl → aE z mX11_text (rK 3) Q 7 [some (.ref 0), none] [.int (nI p)] (nn pl) (MM I sp pl) 0 0 := by
    intro p hp hq
    refine aE_istore_n dX11_text_7 rfl (by decide) rfl (aE_loc (ls' := [_, _]) rfl ?_)
    refine aE_iload_n dX11_text_8 rfl rfl ?_
    refine aE_if_ge (tgt := 24) dX11_text_9 (by decide) (fun h9 => ?_) (fun h9 => absurd (nI_pos' (by omega)) h9)
    refine aE_aload_n dX11_text_24 rfl rfl ?_
    refine aE_getf (v := .ref 75) dX11_text_25 fw_X11_26 (lt_nn (by decide)) rfl rfl ?_
    refine aE_iconst (v := 0) dX11_text_28 rfl ?_
    refine aE_puti dX11_text_29 fp_X11_239 (Or.inl rfl) (lt_nn (by decide)) rfl (fun _ => ⟨rfl, rfl⟩) (by decide) rfl ?_
    refine aE_iload_n dX11_text_32 rfl rfl ?_
    refine aE_if_ge (tgt := 46) dX11_text_33 (by decide) (fun h33 => ?_) (fun h33 => absurd (nI_pos' (by omega)) h33)
    refine aE_aload_n dX11_text_46 rfl rfl ?_
    refine aE_ldc dX11_text_47 ct_X11_253 ?_
    refine aE_iload_n dX11_text_49 rfl rfl ?_
    refine aE_isub dX11_text_50 ?_
    refine aE_cVi dX11_text_51 lk_X11_62 mv_X11_found (c_found _) rfl (lt_nn (by decide)) rfl rfl ⟨by decide, by decide⟩ (Nat.le_of_ble_eq_true rfl) ⟨rfl, rfl⟩ ⟨by decide, by decide⟩ ?_
    refine aE_iret dX11_text_54 rfl ⟨by decide, by decide⟩ ?_
    exact hq
  refine aE_aload_n dX11_text_0 rfl rfl ?_
  refine aE_getf (v := .ref 75) dX11_text_1 fw_X11_26 (lt_nn (by decide)) rfl rfl ?_
  refine aE_cVq dX11_text_4 lk_X11_246 mv_X6_firstWrong (c_firstWrong (Q := fun r n' m' => n' = nn pl ∧ m' = MM I sp pl ∧ ((∃ p, p ≤ 60 ∧ r = some (.int (nI p)) ∧ qi Q (-1000100 - nI p) (fnd (iu I 75 0 0)) sp pl) ∨ (r = some (.int (-1)) ∧ (∀ q, q < tl → ¬ csC (I 76) q = 0) ∧ tl % 5 = 0))) tl htl h60 (fun p h1 h2 h3 => ⟨rfl, rfl, Or.inl ⟨p, by omega, rfl, hW p h1 h2 h3⟩⟩) (fun h1 h2 => ⟨rfl, rfl, Or.inr ⟨rfl, h1, h2⟩⟩) (fun h1 h2 => ⟨rfl, rfl, Or.inl ⟨tl, h60, rfl, hX h1 h2⟩⟩)) rfl (lt_nn (by decide)) rfl rfl ⟨by decide, by decide⟩ (Nat.le_of_ble_eq_true rfl) ⟨rfl, rfl⟩ ⟨by decide, by decide⟩ ?_
  rintro r n' m' ⟨rfl, rfl, (⟨p, hp, rfl, hq⟩ | ⟨rfl, hall, h5⟩)⟩
  · exact bad p hp hq
  have h8 : tl / 5 ≤ 8 := by
    rcases Nat.lt_or_ge 40 tl with q | q
    · refine absurd ?_ (hall 40 q)
      unfold csC; rw [if_pos (by decide), if_neg (by omega)]
    · omega
  refine aE_istore_n dX11_text_7 rfl (by decide) rfl (aE_loc (ls' := [_, _]) rfl ?_)
  refine aE_iload_n dX11_text_8 rfl rfl ?_
  refine aE_if_ge (tgt := 24) dX11_text_9 (by decide) (fun h9 => absurd h9 (by decide)) (fun h9 => ?_)
  refine aE_aload_n dX11_text_12 rfl rfl ?_
  refine aE_getf (v := .ref 75) dX11_text_13 fw_X11_26 (lt_nn (by decide)) rfl rfl ?_
  refine aE_cVv dX11_text_16 lk_X11_249 mv_X6_adopt (c_adopt tl (tl / 5) htl rfl h8 h60) rfl (lt_nn (by decide)) rfl rfl ⟨by decide, by decide⟩ (Nat.le_of_ble_eq_true rfl) ⟨rfl, rfl⟩ ⟨by decide, by decide⟩ ?_
  refine aE_aload_n dX11_text_19 rfl rfl ?_
  refine aE_iconst (v := 0) dX11_text_20 rfl ?_
  refine aE_puti dX11_text_21 fp_X11_146 (Or.inl rfl) (lt_nn (by decide)) rfl (fun _ => a_narZ (by first | exact Or.inl rfl | exact Or.inr rfl | assumption)) (by decide) rfl ?_
  refine aE_aload_n dX11_text_24 rfl rfl ?_
  refine aE_getf (v := .ref 75) dX11_text_25 fw_X11_26 (lt_nn (by decide)) rfl rfl ?_
  refine aE_iconst (v := 0) dX11_text_28 rfl ?_
  refine aE_puti dX11_text_29 fp_X11_239 (Or.inl rfl) (lt_nn (by decide)) rfl (fun _ => ⟨rfl, rfl⟩) (by decide) rfl ?_
  refine aE_iload_n dX11_text_32 rfl rfl ?_
  refine aE_if_ge (tgt := 46) dX11_text_33 (by decide) (fun h33 => absurd h33 (by decide)) (fun h33 => ?_)
  refine aE_aload_n dX11_text_36 rfl rfl ?_
  refine aE_getf (v := .ref 75) dX11_text_37 fw_X11_26 (lt_nn (by decide)) rfl rfl ?_
  refine aE_geti dX11_text_40 fw_X11_252 (lt_nn (by decide)) rfl (by decide) rfl ?_
  refine aE_top (x' := nI (tl / 5)) (adI_ne (by decide) (tl / 5)) ?_
  refine aE_goto (tgt := 54) dX11_text_43 (by decide) ?_
  refine aE_iret dX11_text_54 rfl ⟨by decide, by decide⟩ ?_
  exact hO hall h5 h8
theorem l_permit (kd nr : Nat) (b : Int32) (hk : kd < 4) (hr : I 75 1 = nI nr) (h8 : nr ≤ 8) (hrk : ∀ r, r < nr → ¬ I 77 r < 0) (hQ : qi Q (permV (nI kd) b (I 77) (I 78) (I 79) nr) I sp pl) : ∀ (d k : Nat), k + d = nr → permV (nI kd) b (I 77) (I 78) (I 79) k = 1 → aE z mX6_permit (rK 1) Q 2 [some (.ref 75), some (.int (nI kd)), some (.int b), some (.int (nI k))] [] (nn pl) (MM I sp pl) 0 0 := by
  intro d
  induction d with
  | zero =>
    intro k hk2 hp
    have hk2 : k = nr := by omega
    subst hk2
    refine aE_iload_n dX6_permit_2 rfl rfl ?_
    refine aE_aload_n dX6_permit_3 rfl rfl ?_
    refine aE_geti dX6_permit_4 fw_X6_40 (lt_nn (by decide)) rfl (by decide) rfl ?_
    refine aE_icmp_ge (tgt := 50) dX6_permit_7 (by decide) (fun h7 => ?_) (fun h7 => absurd (by rw [hr]; exact Int32.le_refl _) h7)
    refine aE_iconst (v := 1) dX6_permit_50 rfl ?_
    refine aE_zret dX6_permit_51 rfl (by first | exact Or.inl rfl | exact Or.inr rfl | exact wi_or _ _ _ | assumption) ⟨by decide, by decide⟩ ?_
    rw [hp] at hQ; exact hQ
  | succ d ih =>
    intro k hk2 hp
    have hs : permV (nI kd) b (I 77) (I 78) (I 79) (k + 1) = if isU (nI kd) (I 77 k) = 0 then 1 else wi b (I 78 k) (I 79 k) := by
      show (if permV (nI kd) b (I 77) (I 78) (I 79) k = 0 then 0 else _) = _
      rw [hp, if_neg (by decide)]
    refine aE_iload_n dX6_permit_2 rfl rfl ?_
    refine aE_aload_n dX6_permit_3 rfl rfl ?_
    refine aE_geti dX6_permit_4 fw_X6_40 (lt_nn (by decide)) rfl (by decide) rfl ?_
    refine aE_icmp_ge (tgt := 50) dX6_permit_7 (by decide) (fun h7 => absurd h7 (by rw [hr]; exact nI_ge (by omega) (by omega))) (fun h7 => ?_)
    refine aE_iload_n dX6_permit_10 rfl rfl ?_
    refine aE_aload_n dX6_permit_11 rfl rfl ?_
    refine aE_getf (v := .ref 77) dX6_permit_12 fw_X6_15 (lt_nn (by decide)) rfl rfl ?_
    refine aE_iload_n dX6_permit_15 rfl rfl ?_
    refine aE_ildM dX6_permit_16 (lt_nn (by decide)) rfl (by decide) rfl (by omega) ?_
    refine aE_cSNi dX6_permit_17 ln_X6_43 ms_X11_isUnder (c_isUnder kd (I 77 k) hk (hrk k (by omega))) rfl rfl ⟨by decide, by decide⟩ (Nat.le_of_ble_eq_true rfl) ⟨rfl, rfl⟩ ⟨by decide, by decide⟩ ?_
    refine aE_if_eq (tgt := 44) dX6_permit_20 (by decide) (fun h20 => ?_) (fun h20 => ?_)
    · skip
      refine aE_iinc dX6_permit_44 rfl (a_inc _) (by decide) rfl (aE_loc (ls' := [_, _, _, _]) rfl ?_)
      refine aE_goto (tgt := 2) dX6_permit_47 (by decide) ?_
      first | exact ih (k + 1) (by omega) (by rw [hs, if_pos h20]) | exact ih (k + 1) (by omega) (by rw [hs, if_neg h20]; exact (wi_or _ _ _).resolve_left h39)
    · skip
      refine aE_iload_n dX6_permit_23 rfl rfl ?_
      refine aE_aload_n dX6_permit_24 rfl rfl ?_
      refine aE_getf (v := .ref 78) dX6_permit_25 fw_X6_18 (lt_nn (by decide)) rfl rfl ?_
      refine aE_iload_n dX6_permit_28 rfl rfl ?_
      refine aE_ildM dX6_permit_29 (lt_nn (by decide)) rfl (by decide) rfl (by omega) ?_
      refine aE_aload_n dX6_permit_30 rfl rfl ?_
      refine aE_getf (v := .ref 79) dX6_permit_31 fw_X6_21 (lt_nn (by decide)) rfl rfl ?_
      refine aE_iload_n dX6_permit_34 rfl rfl ?_
      refine aE_ildM dX6_permit_35 (lt_nn (by decide)) rfl (by decide) rfl (by omega) ?_
      refine aE_cSNi dX6_permit_36 ln_X6_36 ms_X11_within (c_within _ _ _) rfl rfl ⟨by decide, by decide⟩ (Nat.le_of_ble_eq_true rfl) ⟨rfl, rfl⟩ ⟨by decide, by decide⟩ ?_
      refine aE_if_ne (tgt := 44) dX6_permit_39 (by decide) (fun h39 => ?_) (fun h39 => ?_)
      · skip
        refine aE_iinc dX6_permit_44 rfl (a_inc _) (by decide) rfl (aE_loc (ls' := [_, _, _, _]) rfl ?_)
        refine aE_goto (tgt := 2) dX6_permit_47 (by decide) ?_
        first | exact ih (k + 1) (by omega) (by rw [hs, if_pos h20]) | exact ih (k + 1) (by omega) (by rw [hs, if_neg h20]; exact (wi_or _ _ _).resolve_left h39)
      · skip
        refine aE_iconst (v := 0) dX6_permit_42 rfl ?_
        refine aE_zret dX6_permit_43 rfl (by first | exact Or.inl rfl | exact Or.inr rfl | exact wi_or _ _ _ | assumption) ⟨by decide, by decide⟩ ?_
        have e : permV (nI kd) b (I 77) (I 78) (I 79) nr = 0 := by
          rw [show nr = (k + 1) + d by omega]
          exact permV_0 d (by rw [hs, if_neg h20, h39])
        rw [e] at hQ
        exact hQ
theorem c_permit (kd nr : Nat) (b : Int32) (hk : kd < 4) (hr : I 75 1 = nI nr) (h8 : nr ≤ 8) (hrk : ∀ r, r < nr → ¬ I 77 r < 0) : aRuns mX6_permit (rK 1) [.ref 75, .int (nI kd), .int b] (nn pl) (MM I sp pl) (a_ri (permV (nI kd) b (I 77) (I 78) (I 79) nr) (nn pl) (MM I sp pl)) := by
  refine aRuns_of pn_X6_permit (Nat.le_of_ble_eq_true rfl) (fun z => aE_loc (ls' := [_, _, _, _]) rfl ?_)
  refine aE_iconst (v := 0) dX6_permit_0 rfl ?_
  refine aE_istore_n dX6_permit_1 rfl (by decide) rfl (aE_loc (ls' := [_, _, _, _]) rfl ?_)
  exact l_permit kd nr b hk hr h8 hrk ⟨rfl, rfl, rfl⟩ nr 0 (by omega) rfl
set_option maxRecDepth 20000 in
theorem c_allowed (v b : Int32) (ns nr : Nat) (hns : I 1 4 = nI ns) (hs4 : ns ≤ 4) (kd : Nat → Nat) (hkd : ∀ s, s < ns → kd s < 4 ∧ I (28 + 4 * s) 0 = nI (kd s)) (hr : I 75 1 = nI nr) (hr8 : nr ≤ 8) (hrk : ∀ r, r < nr → ¬ I 77 r < 0) (hB : (wi v 0 (I 1 4 - 1) = 0 ∨ wi b 0 6 = 0) → qi Q (-1000001) (fnd I) sp pl) (hO : ∀ s, s < ns → v = nI s → ¬ wi b 0 6 = 0 → qi Q (permV (I (28 + 4 * s) 0) b (I 77) (I 78) (I 79) nr) I sp pl) : aRuns mX11_allowed (rK 2) [.ref 0, .int v, .int b] (nn pl) (MM I sp pl) (Q) := by
  refine aRuns_of pn_X11_allowed (Nat.le_of_ble_eq_true rfl) (fun z => aE_loc (ls' := [_, _, _]) rfl ?_)
  refine aE_aload_n dX11_allowed_0 rfl rfl ?_
  refine aE_getf (v := .ref 1) dX11_allowed_1 fw_X11_10 (lt_nn (by decide)) rfl rfl ?_
  refine aE_iload_n dX11_allowed_4 rfl rfl ?_
  refine aE_cVi dX11_allowed_5 lk_X11_106 mv_X0_hasSchool (c_hasSchool _) rfl (lt_nn (by decide)) rfl rfl ⟨by decide, by decide⟩ (Nat.le_of_ble_eq_true rfl) ⟨rfl, rfl⟩ ⟨by decide, by decide⟩ ?_
  refine aE_if_eq (tgt := 21) dX11_allowed_8 (by decide) (fun h8 => ?_) (fun h8 => ?_)
  · skip
    refine aE_aload_n dX11_allowed_21 rfl rfl ?_
    refine aE_ldc dX11_allowed_22 ct_X11_78 ?_
    refine aE_cVi dX11_allowed_24 lk_X11_62 mv_X11_found (c_found _) rfl (lt_nn (by decide)) rfl rfl ⟨by decide, by decide⟩ (Nat.le_of_ble_eq_true rfl) ⟨rfl, rfl⟩ ⟨by decide, by decide⟩ ?_
    refine aE_iret dX11_allowed_27 rfl ⟨by decide, by decide⟩ ?_
    refine hB ?_
    first | exact Or.inl ‹_› | exact Or.inr ‹_›
  · skip
    refine aE_iload_n dX11_allowed_11 rfl rfl ?_
    refine aE_iconst (v := 0) dX11_allowed_12 rfl ?_
    refine aE_bipush (v := 6) dX11_allowed_13 (by decide) ?_
    refine aE_cSi dX11_allowed_15 lk_X11_74 ms_X11_within (c_within _ _ _) rfl rfl ⟨by decide, by decide⟩ (Nat.le_of_ble_eq_true rfl) ⟨rfl, rfl⟩ ⟨by decide, by decide⟩ ?_
    refine aE_if_ne (tgt := 28) dX11_allowed_18 (by decide) (fun h18 => ?_) (fun h18 => ?_)
    · skip
      obtain ⟨s, hs, rfl⟩ := wi_ix (by omega) (hns ▸ h8)
      have h4 : s < 4 := by omega
      refine aE_aload_n dX11_allowed_28 rfl rfl ?_
      refine aE_getf (v := .ref 75) dX11_allowed_29 fw_X11_26 (lt_nn (by decide)) rfl rfl ?_
      refine aE_aload_n dX11_allowed_32 rfl rfl ?_
      refine aE_getf (v := .ref 1) dX11_allowed_33 fw_X11_10 (lt_nn (by decide)) rfl rfl ?_
      refine aE_getf (v := .ref 25) dX11_allowed_36 fw_X11_109 (lt_nn (by decide)) rfl rfl ?_
      refine aE_iload_n dX11_allowed_39 rfl rfl ?_
      refine aE_aald (t := 102) dX11_allowed_40 (lt_nn (by decide)) ⟨by decide, by decide⟩ rfl (by decide) rfl h4 (mm_schs h4) ?_
      refine aE_geti dX11_allowed_41 fw_X11_113 (lt_nn (by omega)) (sh_sch h4) (mc_sch (i := 0) h4 (by decide)).1 (mc_sch (i := 0) h4 (by decide)).2 ?_
      refine aE_top (hkd s hs).2 ?_
      refine aE_iload_n dX11_allowed_44 rfl rfl ?_
      refine aE_cVi dX11_allowed_45 lk_X11_254 mv_X6_permit (c_permit (kd s) nr b (hkd s hs).1 hr hr8 hrk) rfl (lt_nn (by decide)) rfl rfl ⟨by decide, by decide⟩ (Nat.le_of_ble_eq_true rfl) ⟨rfl, rfl⟩ ⟨by decide, by decide⟩ ?_
      refine aE_if_eq (tgt := 55) dX11_allowed_48 (by decide) (fun h48 => ?_) (fun h48 => ?_)
      · skip
        have hv : (0 : Int32) = permV (I (28 + 4 * s) 0) b (I 77) (I 78) (I 79) nr := by rw [(hkd s hs).2]; exact h48.symm
        refine aE_iconst (v := 0) dX11_allowed_55 rfl ?_
        refine aE_iret dX11_allowed_56 rfl ⟨by decide, by decide⟩ ?_
        rw [hv]; exact hO s hs rfl h18
      · skip
        have hv : (1 : Int32) = permV (I (28 + 4 * s) 0) b (I 77) (I 78) (I 79) nr := by rw [(hkd s hs).2]; exact ((permV_or _ _ _ _ _ _).resolve_left h48).symm
        refine aE_iconst (v := 1) dX11_allowed_51 rfl ?_
        refine aE_goto (tgt := 56) dX11_allowed_52 (by decide) ?_
        refine aE_iret dX11_allowed_56 rfl ⟨by decide, by decide⟩ ?_
        rw [hv]; exact hO s hs rfl h18
    · skip
      refine aE_aload_n dX11_allowed_21 rfl rfl ?_
      refine aE_ldc dX11_allowed_22 ct_X11_78 ?_
      refine aE_cVi dX11_allowed_24 lk_X11_62 mv_X11_found (c_found _) rfl (lt_nn (by decide)) rfl rfl ⟨by decide, by decide⟩ (Nat.le_of_ble_eq_true rfl) ⟨rfl, rfl⟩ ⟨by decide, by decide⟩ ?_
      refine aE_iret dX11_allowed_27 rfl ⟨by decide, by decide⟩ ?_
      refine hB ?_
      first | exact Or.inl ‹_› | exact Or.inr ‹_›

/-- minutes' cost of one school: pupils p, bell b, wish w -/
def cOne (p b w : Int32) : Int32 := 20 * p * (if 0 ≤ b - w then b - w else 0 - (b - w))
def cSum (f : Nat → Int32) : Nat → Int32
  | 0 => 0
  | s + 1 => cSum f s + f s
set_option maxRecDepth 20000 in
theorem c_costOf (s nst : Nat) (b : Int32) (hn : I 1 5 = nI nst) (h10 : nst ≤ 10) (hsp : ∀ k, k < 10 → 44 ≤ sp k ∧ sp k < 54) (h4 : s < 4) : aRuns mX0_costOf (rK 1) [.ref 1, .int (nI s), .int b] (nn pl) (MM I sp pl) (a_ri (cOne (sumS (fun k => I (sp k) 0) (fun k => I (sp k) 2) (nI s) nst) b (I (28 + 4 * s) 2)) (nn pl) (MM I sp pl)) := by
  refine aRuns_of pn_X0_costOf (Nat.le_of_ble_eq_true rfl) (fun z => aE_loc (ls' := [_, _, _]) rfl ?_)
  refine aE_bipush (v := 20) dX0_costOf_0 (by decide) ?_
  refine aE_aload_n dX0_costOf_2 rfl rfl ?_
  refine aE_iload_n dX0_costOf_3 rfl rfl ?_
  refine aE_cVi dX0_costOf_4 lk_X0_72 mv_X0_pupilsOf (c_pupilsOf (nI s) nst hn h10 hsp) rfl (lt_nn (by decide)) rfl rfl ⟨by decide, by decide⟩ (Nat.le_of_ble_eq_true rfl) ⟨rfl, rfl⟩ ⟨by decide, by decide⟩ ?_
  refine aE_imul dX0_costOf_7 ?_
  refine aE_iload_n dX0_costOf_8 rfl rfl ?_
  refine aE_aload_n dX0_costOf_9 rfl rfl ?_
  refine aE_getf (v := .ref 25) dX0_costOf_10 fw_X0_20 (lt_nn (by decide)) rfl rfl ?_
  refine aE_iload_n dX0_costOf_13 rfl rfl ?_
  refine aE_aald (t := 102) dX0_costOf_14 (lt_nn (by decide)) ⟨by decide, by decide⟩ rfl (by decide) rfl h4 (mm_schs h4) ?_
  refine aE_geti dX0_costOf_15 fw_X0_59 (lt_nn (by omega)) (sh_sch h4) (mc_sch (i := 2) h4 (by decide)).1 (mc_sch (i := 2) h4 (by decide)).2 ?_
  refine aE_isub dX0_costOf_18 ?_
  refine aE_abs dX0_costOf_19 mm_X0_76 ⟨by decide, by decide⟩ ⟨by decide, by decide⟩ (Nat.le_of_ble_eq_true rfl) ?_
  refine aE_imul dX0_costOf_22 ?_
  refine aE_iret dX0_costOf_23 rfl ⟨by decide, by decide⟩ ?_
  exact ⟨rfl, rfl, rfl⟩

theorem l_cost (ns nst : Nat) (hns : I 1 4 = nI ns) (hs4 : ns ≤ 4) (hn : I 1 5 = nI nst) (h10 : nst ≤ 10) (hsp : ∀ k, k < 10 → 44 ≤ sp k ∧ sp k < 54) (hQ : qi Q (cSum (fun s => cOne (sumS (fun k => I (sp k) 0) (fun k => I (sp k) 2) (nI s) nst) (I 26 s) (I (28 + 4 * s) 2)) ns) I sp pl) : ∀ (d k : Nat) (acc : Int32), k + d = ns → acc = cSum (fun s => cOne (sumS (fun k => I (sp k) 0) (fun k => I (sp k) 2) (nI s) nst) (I 26 s) (I (28 + 4 * s) 2)) k → aE z mX11_cost (rK 2) Q 4 [some (.ref 0), some (.int acc), some (.int (nI k))] [] (nn pl) (MM I sp pl) 0 0 := by
  intro d
  induction d with
  | zero =>
    intro k acc hk hacc
    have hk : k = ns := by omega
    subst hk
    refine aE_iload_n dX11_cost_4 rfl rfl ?_
    refine aE_aload_n dX11_cost_5 rfl rfl ?_
    refine aE_getf (v := .ref 1) dX11_cost_6 fw_X11_10 (lt_nn (by decide)) rfl rfl ?_
    refine aE_geti dX11_cost_9 fw_X11_99 (lt_nn (by decide)) rfl (by decide) rfl ?_
    refine aE_icmp_ge (tgt := 41) dX11_cost_12 (by decide) (fun h12 => ?_) (fun h12 => absurd (by rw [hns]; exact Int32.le_refl _) h12)
    refine aE_iload_n dX11_cost_41 rfl rfl ?_
    refine aE_iret dX11_cost_42 rfl ⟨by decide, by decide⟩ ?_
    rw [hacc]; exact hQ
  | succ d ih =>
    intro k acc hk hacc
    refine aE_iload_n dX11_cost_4 rfl rfl ?_
    refine aE_aload_n dX11_cost_5 rfl rfl ?_
    refine aE_getf (v := .ref 1) dX11_cost_6 fw_X11_10 (lt_nn (by decide)) rfl rfl ?_
    refine aE_geti dX11_cost_9 fw_X11_99 (lt_nn (by decide)) rfl (by decide) rfl ?_
    refine aE_icmp_ge (tgt := 41) dX11_cost_12 (by decide) (fun h12 => absurd h12 (by rw [hns]; exact nI_ge (by omega) (by omega))) (fun h12 => ?_)
    refine aE_iload_n dX11_cost_15 rfl rfl ?_
    refine aE_aload_n dX11_cost_16 rfl rfl ?_
    refine aE_getf (v := .ref 1) dX11_cost_17 fw_X11_10 (lt_nn (by decide)) rfl rfl ?_
    refine aE_iload_n dX11_cost_20 rfl rfl ?_
    refine aE_aload_n dX11_cost_21 rfl rfl ?_
    refine aE_getf (v := .ref 1) dX11_cost_22 fw_X11_10 (lt_nn (by decide)) rfl rfl ?_
    refine aE_getf (v := .ref 26) dX11_cost_25 fw_X11_126 (lt_nn (by decide)) rfl rfl ?_
    refine aE_iload_n dX11_cost_28 rfl rfl ?_
    refine aE_ildM dX11_cost_29 (lt_nn (by decide)) rfl (by decide) rfl (by omega) ?_
    refine aE_cVi dX11_cost_30 lk_X11_257 mv_X0_costOf (c_costOf k nst (I 26 k) hn h10 hsp (by omega)) rfl (lt_nn (by decide)) rfl rfl ⟨by decide, by decide⟩ (Nat.le_of_ble_eq_true rfl) ⟨rfl, rfl⟩ ⟨by decide, by decide⟩ ?_
    refine aE_iadd dX11_cost_33 ?_
    refine aE_istore_n dX11_cost_34 rfl (by decide) rfl (aE_loc (ls' := [_, _, _]) rfl ?_)
    refine aE_iinc dX11_cost_35 rfl (a_inc _) (by decide) rfl (aE_loc (ls' := [_, _, _]) rfl ?_)
    refine aE_goto (tgt := 4) dX11_cost_38 (by decide) ?_
    exact ih (k + 1) _ (by omega) (by rw [hacc]; rfl)
theorem c_cost (ns nst : Nat) (hns : I 1 4 = nI ns) (hs4 : ns ≤ 4) (hn : I 1 5 = nI nst) (h10 : nst ≤ 10) (hsp : ∀ k, k < 10 → 44 ≤ sp k ∧ sp k < 54) : aRuns mX11_cost (rK 2) [.ref 0] (nn pl) (MM I sp pl) (a_ri (cSum (fun s => cOne (sumS (fun k => I (sp k) 0) (fun k => I (sp k) 2) (nI s) nst) (I 26 s) (I (28 + 4 * s) 2)) ns) (nn pl) (MM I sp pl)) := by
  refine aRuns_of pn_X11_cost (Nat.le_of_ble_eq_true rfl) (fun z => aE_loc (ls' := [_, _, _]) rfl ?_)
  refine aE_iconst (v := 0) dX11_cost_0 rfl ?_
  refine aE_istore_n dX11_cost_1 rfl (by decide) rfl (aE_loc (ls' := [_, _, _]) rfl ?_)
  refine aE_iconst (v := 0) dX11_cost_2 rfl ?_
  refine aE_istore_n dX11_cost_3 rfl (by decide) rfl (aE_loc (ls' := [_, _, _]) rfl ?_)
  exact l_cost ns nst hns hs4 hn h10 hsp ⟨rfl, rfl, rfl⟩ ns 0 0 (by omega) rfl
end CB6
