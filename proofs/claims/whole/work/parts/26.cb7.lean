def fillI (I : Nat → Nat → Int32) (a : Nat) (x : Int32) : Nat → Nat → Nat → Int32
  | 0 => I
  | k + 1 => iu (fillI I a x k) a k x
theorem fillI_eq (I : Nat → Nat → Int32) (a : Nat) (x : Int32) : ∀ k, fillI I a x k = fun q i => if q = a ∧ i < k then x else I q i
  | 0 => by funext q i; rw [if_neg (by omega)]; rfl
  | k + 1 => by
    funext q i
    simp only [fillI, fillI_eq I a x k, iu]
    by_cases hq : q = a
    · subst hq
      by_cases h1 : i = k
      · subst h1; simp
      · by_cases h2 : i < k
        · simp [h1, h2, Nat.lt_succ_of_lt h2]
        · simp [h1, h2, show ¬ i < k + 1 by omega]
    · simp [hq]
section CB7
variable {z : Nat × (Nat → Int32)} {n : Nat} {mem : aM} {I : Nat → Nat → Int32} {sp : Nat → Nat} {pl : Bool} {Q : Option Value → Nat → aM → Prop} {R : Room}
theorem l_fill (a N : Nat) (x : Int32) (ha : a < nn pl) (hs : a_sh a = (100, N)) (hN : N ≤ 100000) (hQ : Q none (nn pl) (MM (fillI I a x N) sp pl)) : ∀ (d k : Nat), k + d = N → aE z mJ7_fill_53178 (rK 0) Q 5 [some (.ref a), some (.int x), some (.int (nI k)), some (.int (nI N))] [] (nn pl) (MM (fillI I a x k) sp pl) 0 0 := by
  intro d
  induction d with
  | zero =>
    intro k hk
    have hk : k = N := by omega
    subst hk
    refine aE_iload_n dJ7_fill_53178_5 rfl rfl ?_
    refine aE_iload_n dJ7_fill_53178_6 rfl rfl ?_
    refine aE_icmp_ge (tgt := 20) dJ7_fill_53178_7 (by decide) (fun h7 => ?_) (fun h7 => absurd (Int32.le_refl _) h7)
    refine aE_vret dJ7_fill_53178_20 rfl ⟨by decide, by decide⟩ ?_
    exact hQ
  | succ d ih =>
    intro k hk
    refine aE_iload_n dJ7_fill_53178_5 rfl rfl ?_
    refine aE_iload_n dJ7_fill_53178_6 rfl rfl ?_
    refine aE_icmp_ge (tgt := 20) dJ7_fill_53178_7 (by decide) (fun h7 => absurd h7 (nI_ge (by omega) (by omega))) (fun h7 => ?_)
    refine aE_aload_n dJ7_fill_53178_10 rfl rfl ?_
    refine aE_iload_n dJ7_fill_53178_11 rfl rfl ?_
    refine aE_iload_n dJ7_fill_53178_12 rfl rfl ?_
    refine aE_istM dJ7_fill_53178_13 ha hs (by omega) rfl (by omega) ?_
    refine aE_iinc dJ7_fill_53178_14 rfl (a_inc _) (by decide) rfl (aE_loc (ls' := [_, _, _, _]) rfl ?_)
    refine aE_goto (tgt := 5) dJ7_fill_53178_17 (by decide) ?_
    exact ih (k + 1) (by omega)
theorem c_fill (a N : Nat) (x : Int32) (ha : a < nn pl) (hs : a_sh a = (100, N)) (hN : N ≤ 100000) : aRuns mJ7_fill_53178 (rK 0) [.ref a, .int x] (nn pl) (MM I sp pl) (a_rv (nn pl) (MM (fillI I a x N) sp pl)) := by
  refine aRuns_of pn_J7_fill_53178 (Nat.le_of_ble_eq_true rfl) (fun z => aE_loc (ls' := [_, _, _, _]) rfl ?_)
  refine aE_iconst (v := 0) dJ7_fill_53178_0 rfl ?_
  refine aE_istore_n dJ7_fill_53178_1 rfl (by decide) rfl (aE_loc (ls' := [_, _, _, _]) rfl ?_)
  refine aE_aload_n dJ7_fill_53178_2 rfl rfl ?_
  refine aE_alen dJ7_fill_53178_3 ha hs ?_
  refine aE_istore_n dJ7_fill_53178_4 rfl (by decide) rfl (aE_loc (ls' := [_, _, _, _]) rfl ?_)
  exact l_fill a N x ha hs hN ⟨rfl, rfl, rfl⟩ N 0 (by omega)
set_option maxRecDepth 20000 in
theorem c_lay (j : Nat) (w n : Int32) (hj : j < 4) : aRuns mX8_lay (rK 1) [.ref (93 + 2 * j), .int w, .int n] (nn pl) (MM I sp pl) (a_ri (if w = 0 then 0 else n) (nn pl) (MM (fillI (iu (iu I (93 + 2 * j) 0 w) (93 + 2 * j) 1 (if w = 0 then 0 else n)) (94 + 2 * j) 0 10) sp pl)) := by
  refine aRuns_of pn_X8_lay (Nat.le_of_ble_eq_true rfl) (fun z => aE_loc (ls' := [_, _, _]) rfl ?_)
  refine aE_aload_n dX8_lay_0 rfl rfl ?_
  refine aE_iload_n dX8_lay_1 rfl rfl ?_
  refine aE_puti dX8_lay_2 fp_X8_15 (Or.inl rfl) (lt_nn (by omega)) (sh_sht hj) (fun _ => ⟨rfl, rfl⟩) (mc_sht (i := 0) hj (by decide)).1 (mc_sht (i := 0) hj (by decide)).2 ?_
  refine aE_aload_n dX8_lay_5 rfl rfl ?_
  refine aE_iload_n dX8_lay_6 rfl rfl ?_
  refine aE_if_ne (tgt := 14) dX8_lay_7 (by decide) (fun h7 => ?_) (fun h7 => ?_)
  · skip
    rw [if_neg h7]
    refine aE_iload_n dX8_lay_14 rfl rfl ?_
    refine aE_puti dX8_lay_15 fp_X8_19 (Or.inl rfl) (lt_nn (by omega)) (sh_sht hj) (fun _ => ⟨rfl, rfl⟩) (mc_sht (i := 1) hj (by decide)).1 (mc_sht (i := 1) hj (by decide)).2 ?_
    refine aE_aload_n dX8_lay_18 rfl rfl ?_
    refine aE_getf dX8_lay_19 fw_X8_9 (lt_nn (by omega)) (sh_sht hj) (mm_num hj) ?_
    refine aE_iconst (v := 0) dX8_lay_22 rfl ?_
    refine aE_cSv dX8_lay_23 lk_X8_22 ms_J7_fill_53178 (c_fill (94 + 2 * j) 10 0 (lt_nn (by omega)) (sh_num hj) (by decide)) rfl rfl ⟨by decide, by decide⟩ (Nat.le_of_ble_eq_true rfl) ⟨rfl, rfl⟩ ⟨by decide, by decide⟩ ?_
    refine aE_aload_n dX8_lay_26 rfl rfl ?_
    refine aE_geti dX8_lay_27 fw_X8_19 (lt_nn (by omega)) (sh_sht hj) (mc_sht (i := 1) hj (by decide)).1 (mc_sht (i := 1) hj (by decide)).2 ?_
    refine aE_iret dX8_lay_30 rfl ⟨by decide, by decide⟩ ?_
    refine a_rio ?_ rfl
    rw [fillI_eq]
    simp only
    rw [if_neg (by omega), iu_eq]
  · skip
    rw [if_pos h7]
    refine aE_iconst (v := 0) dX8_lay_10 rfl ?_
    refine aE_goto (tgt := 15) dX8_lay_11 (by decide) ?_
    refine aE_puti dX8_lay_15 fp_X8_19 (Or.inl rfl) (lt_nn (by omega)) (sh_sht hj) (fun _ => ⟨rfl, rfl⟩) (mc_sht (i := 1) hj (by decide)).1 (mc_sht (i := 1) hj (by decide)).2 ?_
    refine aE_aload_n dX8_lay_18 rfl rfl ?_
    refine aE_getf dX8_lay_19 fw_X8_9 (lt_nn (by omega)) (sh_sht hj) (mm_num hj) ?_
    refine aE_iconst (v := 0) dX8_lay_22 rfl ?_
    refine aE_cSv dX8_lay_23 lk_X8_22 ms_J7_fill_53178 (c_fill (94 + 2 * j) 10 0 (lt_nn (by omega)) (sh_num hj) (by decide)) rfl rfl ⟨by decide, by decide⟩ (Nat.le_of_ble_eq_true rfl) ⟨rfl, rfl⟩ ⟨by decide, by decide⟩ ?_
    refine aE_aload_n dX8_lay_26 rfl rfl ?_
    refine aE_geti dX8_lay_27 fw_X8_19 (lt_nn (by omega)) (sh_sht hj) (mc_sht (i := 1) hj (by decide)).1 (mc_sht (i := 1) hj (by decide)).2 ?_
    refine aE_iret dX8_lay_30 rfl ⟨by decide, by decide⟩ ?_
    refine a_rio ?_ rfl
    rw [fillI_eq]
    simp only
    rw [if_neg (by omega), iu_eq]

set_option maxRecDepth 20000 in
theorem c_sheet (v b n : Int32) (hB : (wi v 0 3 = 0 ∨ ¬ (b = 0 ∨ b = 8 ∨ b = 16 ∨ b = 32)) → qi Q (-1000001) (fnd I) sp pl) (hS : ¬ wi v 0 3 = 0 → (b = 0 ∨ b = 8 ∨ b = 16 ∨ b = 32) → n < 0 → qi Q (-1000006) (fnd I) sp pl) (hL : ¬ wi v 0 3 = 0 → (b = 0 ∨ b = 8 ∨ b = 16 ∨ b = 32) → 0 ≤ n → ¬ n ≤ 10 → qi Q (-1000001) (fnd I) sp pl) (hO : ∀ j m, j < 4 → m ≤ 10 → v = nI j → n = nI m → (b = 0 ∨ b = 8 ∨ b = 16 ∨ b = 32) → qi Q (if b = 0 then 0 else nI m) (fillI (iu (iu I (93 + 2 * j) 0 b) (93 + 2 * j) 1 (if b = 0 then 0 else nI m)) (94 + 2 * j) 0 10) sp pl) : aRuns mX11_sheet (rK 2) [.ref 0, .int v, .int b, .int n] (nn pl) (MM I sp pl) (Q) := by
  refine aRuns_of pn_X11_sheet (Nat.le_of_ble_eq_true rfl) (fun z => aE_loc (ls' := [_, _, _, _]) rfl ?_)
  refine aE_iload_n dX11_sheet_0 rfl rfl ?_
  refine aE_iconst (v := 0) dX11_sheet_1 rfl ?_
  refine aE_iconst (v := 3) dX11_sheet_2 rfl ?_
  refine aE_cSi dX11_sheet_3 lk_X11_74 ms_X11_within (c_within _ _ _) rfl rfl ⟨by decide, by decide⟩ (Nat.le_of_ble_eq_true rfl) ⟨rfl, rfl⟩ ⟨by decide, by decide⟩ ?_
  refine aE_if_eq (tgt := 31) dX11_sheet_6 (by decide) (fun h6 => ?_) (fun h6 => ?_)
  · skip
    refine aE_aload_n dX11_sheet_31 rfl rfl ?_
    refine aE_ldc dX11_sheet_32 ct_X11_78 ?_
    refine aE_cVi dX11_sheet_34 lk_X11_62 mv_X11_found (c_found _) rfl (lt_nn (by decide)) rfl rfl ⟨by decide, by decide⟩ (Nat.le_of_ble_eq_true rfl) ⟨rfl, rfl⟩ ⟨by decide, by decide⟩ ?_
    refine aE_iret dX11_sheet_37 rfl ⟨by decide, by decide⟩ ?_
    exact hB (by first | exact Or.inl h6 | exact Or.inr (fun q => q.elim h10 (fun q => q.elim h16 (fun q => q.elim h22 h28))))
  · skip
    refine aE_iload_n dX11_sheet_9 rfl rfl ?_
    refine aE_if_eq (tgt := 38) dX11_sheet_10 (by decide) (fun h10 => ?_) (fun h10 => ?_)
    · skip
      refine aE_iload_n dX11_sheet_38 rfl rfl ?_
      refine aE_if_ge (tgt := 50) dX11_sheet_39 (by decide) (fun h39 => ?_) (fun h39 => ?_)
      · skip
        refine aE_iload_n dX11_sheet_50 rfl rfl ?_
        refine aE_bipush (v := 10) dX11_sheet_51 (by decide) ?_
        refine aE_icmp_le (tgt := 63) dX11_sheet_53 (by decide) (fun h53 => ?_) (fun h53 => ?_)
        · skip
          obtain ⟨j, hj3, rfl⟩ := wi_c (m := 3) (by decide) (M := 3) rfl h6
          have hj : j < 4 := by omega
          obtain ⟨m, hm, rfl⟩ := nI_of2 (M := 10) (n := 10) rfl (Int32.not_lt.mpr h39) h53
          refine aE_aload_n dX11_sheet_63 rfl rfl ?_
          refine aE_getf (v := .ref 92) dX11_sheet_64 fw_X11_46 (lt_nn (by decide)) rfl rfl ?_
          refine aE_iload_n dX11_sheet_67 rfl rfl ?_
          refine aE_aald (t := 104) dX11_sheet_68 (lt_nn (by decide)) ⟨by decide, by decide⟩ rfl (by decide) rfl hj (mm_shts hj) ?_
          refine aE_iload_n dX11_sheet_69 rfl rfl ?_
          refine aE_iload_n dX11_sheet_70 rfl rfl ?_
          refine aE_cVi dX11_sheet_71 lk_X11_301 mv_X8_lay (c_lay j _ _ hj) rfl (lt_nn (by omega)) (sh_sht hj) rfl ⟨by decide, by decide⟩ (Nat.le_of_ble_eq_true rfl) ⟨rfl, rfl⟩ ⟨by decide, by decide⟩ ?_
          refine aE_iret dX11_sheet_74 rfl ⟨by decide, by decide⟩ ?_
          exact hO j m hj hm rfl rfl (by first | exact Or.inl h10 | exact Or.inr (Or.inl h16) | exact Or.inr (Or.inr (Or.inl h22)) | exact Or.inr (Or.inr (Or.inr h28)))
        · skip
          refine aE_aload_n dX11_sheet_56 rfl rfl ?_
          refine aE_ldc dX11_sheet_57 ct_X11_78 ?_
          refine aE_cVi dX11_sheet_59 lk_X11_62 mv_X11_found (c_found _) rfl (lt_nn (by decide)) rfl rfl ⟨by decide, by decide⟩ (Nat.le_of_ble_eq_true rfl) ⟨rfl, rfl⟩ ⟨by decide, by decide⟩ ?_
          refine aE_iret dX11_sheet_62 rfl ⟨by decide, by decide⟩ ?_
          exact hL h6 (by first | exact Or.inl h10 | exact Or.inr (Or.inl h16) | exact Or.inr (Or.inr (Or.inl h22)) | exact Or.inr (Or.inr (Or.inr h28))) h39 h53
      · skip
        refine aE_aload_n dX11_sheet_42 rfl rfl ?_
        refine aE_ldcw dX11_sheet_43 ct_X11_300 ?_
        refine aE_cVi dX11_sheet_46 lk_X11_62 mv_X11_found (c_found _) rfl (lt_nn (by decide)) rfl rfl ⟨by decide, by decide⟩ (Nat.le_of_ble_eq_true rfl) ⟨rfl, rfl⟩ ⟨by decide, by decide⟩ ?_
        refine aE_iret dX11_sheet_49 rfl ⟨by decide, by decide⟩ ?_
        exact hS h6 (by first | exact Or.inl h10 | exact Or.inr (Or.inl h16) | exact Or.inr (Or.inr (Or.inl h22)) | exact Or.inr (Or.inr (Or.inr h28))) (Int32.not_le.mp h39)
    · skip
      refine aE_iload_n dX11_sheet_13 rfl rfl ?_
      refine aE_bipush (v := 8) dX11_sheet_14 (by decide) ?_
      refine aE_icmp_eq (tgt := 38) dX11_sheet_16 (by decide) (fun h16 => ?_) (fun h16 => ?_)
      · skip
        refine aE_iload_n dX11_sheet_38 rfl rfl ?_
        refine aE_if_ge (tgt := 50) dX11_sheet_39 (by decide) (fun h39 => ?_) (fun h39 => ?_)
        · skip
          refine aE_iload_n dX11_sheet_50 rfl rfl ?_
          refine aE_bipush (v := 10) dX11_sheet_51 (by decide) ?_
          refine aE_icmp_le (tgt := 63) dX11_sheet_53 (by decide) (fun h53 => ?_) (fun h53 => ?_)
          · skip
            obtain ⟨j, hj3, rfl⟩ := wi_c (m := 3) (by decide) (M := 3) rfl h6
            have hj : j < 4 := by omega
            obtain ⟨m, hm, rfl⟩ := nI_of2 (M := 10) (n := 10) rfl (Int32.not_lt.mpr h39) h53
            refine aE_aload_n dX11_sheet_63 rfl rfl ?_
            refine aE_getf (v := .ref 92) dX11_sheet_64 fw_X11_46 (lt_nn (by decide)) rfl rfl ?_
            refine aE_iload_n dX11_sheet_67 rfl rfl ?_
            refine aE_aald (t := 104) dX11_sheet_68 (lt_nn (by decide)) ⟨by decide, by decide⟩ rfl (by decide) rfl hj (mm_shts hj) ?_
            refine aE_iload_n dX11_sheet_69 rfl rfl ?_
            refine aE_iload_n dX11_sheet_70 rfl rfl ?_
            refine aE_cVi dX11_sheet_71 lk_X11_301 mv_X8_lay (c_lay j _ _ hj) rfl (lt_nn (by omega)) (sh_sht hj) rfl ⟨by decide, by decide⟩ (Nat.le_of_ble_eq_true rfl) ⟨rfl, rfl⟩ ⟨by decide, by decide⟩ ?_
            refine aE_iret dX11_sheet_74 rfl ⟨by decide, by decide⟩ ?_
            exact hO j m hj hm rfl rfl (by first | exact Or.inl h10 | exact Or.inr (Or.inl h16) | exact Or.inr (Or.inr (Or.inl h22)) | exact Or.inr (Or.inr (Or.inr h28)))
          · skip
            refine aE_aload_n dX11_sheet_56 rfl rfl ?_
            refine aE_ldc dX11_sheet_57 ct_X11_78 ?_
            refine aE_cVi dX11_sheet_59 lk_X11_62 mv_X11_found (c_found _) rfl (lt_nn (by decide)) rfl rfl ⟨by decide, by decide⟩ (Nat.le_of_ble_eq_true rfl) ⟨rfl, rfl⟩ ⟨by decide, by decide⟩ ?_
            refine aE_iret dX11_sheet_62 rfl ⟨by decide, by decide⟩ ?_
            exact hL h6 (by first | exact Or.inl h10 | exact Or.inr (Or.inl h16) | exact Or.inr (Or.inr (Or.inl h22)) | exact Or.inr (Or.inr (Or.inr h28))) h39 h53
        · skip
          refine aE_aload_n dX11_sheet_42 rfl rfl ?_
          refine aE_ldcw dX11_sheet_43 ct_X11_300 ?_
          refine aE_cVi dX11_sheet_46 lk_X11_62 mv_X11_found (c_found _) rfl (lt_nn (by decide)) rfl rfl ⟨by decide, by decide⟩ (Nat.le_of_ble_eq_true rfl) ⟨rfl, rfl⟩ ⟨by decide, by decide⟩ ?_
          refine aE_iret dX11_sheet_49 rfl ⟨by decide, by decide⟩ ?_
          exact hS h6 (by first | exact Or.inl h10 | exact Or.inr (Or.inl h16) | exact Or.inr (Or.inr (Or.inl h22)) | exact Or.inr (Or.inr (Or.inr h28))) (Int32.not_le.mp h39)
      · skip
        refine aE_iload_n dX11_sheet_19 rfl rfl ?_
        refine aE_bipush (v := 16) dX11_sheet_20 (by decide) ?_
        refine aE_icmp_eq (tgt := 38) dX11_sheet_22 (by decide) (fun h22 => ?_) (fun h22 => ?_)
        · skip
          refine aE_iload_n dX11_sheet_38 rfl rfl ?_
          refine aE_if_ge (tgt := 50) dX11_sheet_39 (by decide) (fun h39 => ?_) (fun h39 => ?_)
          · skip
            refine aE_iload_n dX11_sheet_50 rfl rfl ?_
            refine aE_bipush (v := 10) dX11_sheet_51 (by decide) ?_
            refine aE_icmp_le (tgt := 63) dX11_sheet_53 (by decide) (fun h53 => ?_) (fun h53 => ?_)
            · skip
              obtain ⟨j, hj3, rfl⟩ := wi_c (m := 3) (by decide) (M := 3) rfl h6
              have hj : j < 4 := by omega
              obtain ⟨m, hm, rfl⟩ := nI_of2 (M := 10) (n := 10) rfl (Int32.not_lt.mpr h39) h53
              refine aE_aload_n dX11_sheet_63 rfl rfl ?_
              refine aE_getf (v := .ref 92) dX11_sheet_64 fw_X11_46 (lt_nn (by decide)) rfl rfl ?_
              refine aE_iload_n dX11_sheet_67 rfl rfl ?_
              refine aE_aald (t := 104) dX11_sheet_68 (lt_nn (by decide)) ⟨by decide, by decide⟩ rfl (by decide) rfl hj (mm_shts hj) ?_
              refine aE_iload_n dX11_sheet_69 rfl rfl ?_
              refine aE_iload_n dX11_sheet_70 rfl rfl ?_
              refine aE_cVi dX11_sheet_71 lk_X11_301 mv_X8_lay (c_lay j _ _ hj) rfl (lt_nn (by omega)) (sh_sht hj) rfl ⟨by decide, by decide⟩ (Nat.le_of_ble_eq_true rfl) ⟨rfl, rfl⟩ ⟨by decide, by decide⟩ ?_
              refine aE_iret dX11_sheet_74 rfl ⟨by decide, by decide⟩ ?_
              exact hO j m hj hm rfl rfl (by first | exact Or.inl h10 | exact Or.inr (Or.inl h16) | exact Or.inr (Or.inr (Or.inl h22)) | exact Or.inr (Or.inr (Or.inr h28)))
            · skip
              refine aE_aload_n dX11_sheet_56 rfl rfl ?_
              refine aE_ldc dX11_sheet_57 ct_X11_78 ?_
              refine aE_cVi dX11_sheet_59 lk_X11_62 mv_X11_found (c_found _) rfl (lt_nn (by decide)) rfl rfl ⟨by decide, by decide⟩ (Nat.le_of_ble_eq_true rfl) ⟨rfl, rfl⟩ ⟨by decide, by decide⟩ ?_
              refine aE_iret dX11_sheet_62 rfl ⟨by decide, by decide⟩ ?_
              exact hL h6 (by first | exact Or.inl h10 | exact Or.inr (Or.inl h16) | exact Or.inr (Or.inr (Or.inl h22)) | exact Or.inr (Or.inr (Or.inr h28))) h39 h53
          · skip
            refine aE_aload_n dX11_sheet_42 rfl rfl ?_
            refine aE_ldcw dX11_sheet_43 ct_X11_300 ?_
            refine aE_cVi dX11_sheet_46 lk_X11_62 mv_X11_found (c_found _) rfl (lt_nn (by decide)) rfl rfl ⟨by decide, by decide⟩ (Nat.le_of_ble_eq_true rfl) ⟨rfl, rfl⟩ ⟨by decide, by decide⟩ ?_
            refine aE_iret dX11_sheet_49 rfl ⟨by decide, by decide⟩ ?_
            exact hS h6 (by first | exact Or.inl h10 | exact Or.inr (Or.inl h16) | exact Or.inr (Or.inr (Or.inl h22)) | exact Or.inr (Or.inr (Or.inr h28))) (Int32.not_le.mp h39)
        · skip
          refine aE_iload_n dX11_sheet_25 rfl rfl ?_
          refine aE_bipush (v := 32) dX11_sheet_26 (by decide) ?_
          refine aE_icmp_eq (tgt := 38) dX11_sheet_28 (by decide) (fun h28 => ?_) (fun h28 => ?_)
          · skip
            refine aE_iload_n dX11_sheet_38 rfl rfl ?_
            refine aE_if_ge (tgt := 50) dX11_sheet_39 (by decide) (fun h39 => ?_) (fun h39 => ?_)
            · skip
              refine aE_iload_n dX11_sheet_50 rfl rfl ?_
              refine aE_bipush (v := 10) dX11_sheet_51 (by decide) ?_
              refine aE_icmp_le (tgt := 63) dX11_sheet_53 (by decide) (fun h53 => ?_) (fun h53 => ?_)
              · skip
                obtain ⟨j, hj3, rfl⟩ := wi_c (m := 3) (by decide) (M := 3) rfl h6
                have hj : j < 4 := by omega
                obtain ⟨m, hm, rfl⟩ := nI_of2 (M := 10) (n := 10) rfl (Int32.not_lt.mpr h39) h53
                refine aE_aload_n dX11_sheet_63 rfl rfl ?_
                refine aE_getf (v := .ref 92) dX11_sheet_64 fw_X11_46 (lt_nn (by decide)) rfl rfl ?_
                refine aE_iload_n dX11_sheet_67 rfl rfl ?_
                refine aE_aald (t := 104) dX11_sheet_68 (lt_nn (by decide)) ⟨by decide, by decide⟩ rfl (by decide) rfl hj (mm_shts hj) ?_
                refine aE_iload_n dX11_sheet_69 rfl rfl ?_
                refine aE_iload_n dX11_sheet_70 rfl rfl ?_
                refine aE_cVi dX11_sheet_71 lk_X11_301 mv_X8_lay (c_lay j _ _ hj) rfl (lt_nn (by omega)) (sh_sht hj) rfl ⟨by decide, by decide⟩ (Nat.le_of_ble_eq_true rfl) ⟨rfl, rfl⟩ ⟨by decide, by decide⟩ ?_
                refine aE_iret dX11_sheet_74 rfl ⟨by decide, by decide⟩ ?_
                exact hO j m hj hm rfl rfl (by first | exact Or.inl h10 | exact Or.inr (Or.inl h16) | exact Or.inr (Or.inr (Or.inl h22)) | exact Or.inr (Or.inr (Or.inr h28)))
              · skip
                refine aE_aload_n dX11_sheet_56 rfl rfl ?_
                refine aE_ldc dX11_sheet_57 ct_X11_78 ?_
                refine aE_cVi dX11_sheet_59 lk_X11_62 mv_X11_found (c_found _) rfl (lt_nn (by decide)) rfl rfl ⟨by decide, by decide⟩ (Nat.le_of_ble_eq_true rfl) ⟨rfl, rfl⟩ ⟨by decide, by decide⟩ ?_
                refine aE_iret dX11_sheet_62 rfl ⟨by decide, by decide⟩ ?_
                exact hL h6 (by first | exact Or.inl h10 | exact Or.inr (Or.inl h16) | exact Or.inr (Or.inr (Or.inl h22)) | exact Or.inr (Or.inr (Or.inr h28))) h39 h53
            · skip
              refine aE_aload_n dX11_sheet_42 rfl rfl ?_
              refine aE_ldcw dX11_sheet_43 ct_X11_300 ?_
              refine aE_cVi dX11_sheet_46 lk_X11_62 mv_X11_found (c_found _) rfl (lt_nn (by decide)) rfl rfl ⟨by decide, by decide⟩ (Nat.le_of_ble_eq_true rfl) ⟨rfl, rfl⟩ ⟨by decide, by decide⟩ ?_
              refine aE_iret dX11_sheet_49 rfl ⟨by decide, by decide⟩ ?_
              exact hS h6 (by first | exact Or.inl h10 | exact Or.inr (Or.inl h16) | exact Or.inr (Or.inr (Or.inl h22)) | exact Or.inr (Or.inr (Or.inr h28))) (Int32.not_le.mp h39)
          · skip
            refine aE_aload_n dX11_sheet_31 rfl rfl ?_
            refine aE_ldc dX11_sheet_32 ct_X11_78 ?_
            refine aE_cVi dX11_sheet_34 lk_X11_62 mv_X11_found (c_found _) rfl (lt_nn (by decide)) rfl rfl ⟨by decide, by decide⟩ (Nat.le_of_ble_eq_true rfl) ⟨rfl, rfl⟩ ⟨by decide, by decide⟩ ?_
            refine aE_iret dX11_sheet_37 rfl ⟨by decide, by decide⟩ ?_
            exact hB (by first | exact Or.inl h6 | exact Or.inr (fun q => q.elim h10 (fun q => q.elim h16 (fun q => q.elim h22 h28))))

set_option maxRecDepth 20000 in
theorem c_isMissing (j : Nat) (hj : j < 4) : aRuns mX8_isMissing (rK 0) [.ref (93 + 2 * j)] (nn pl) (MM I sp pl) (a_ri (if I (93 + 2 * j) 0 = 0 then 1 else 0) (nn pl) (MM I sp pl)) := by
  refine aRuns_of pn_X8_isMissing (Nat.le_of_ble_eq_true rfl) (fun z => aE_loc (ls' := [_]) rfl ?_)
  refine aE_aload_n dX8_isMissing_0 rfl rfl ?_
  refine aE_geti dX8_isMissing_1 fw_X8_15 (lt_nn (by omega)) (sh_sht hj) (mc_sht (i := 0) hj (by decide)).1 (mc_sht (i := 0) hj (by decide)).2 ?_
  refine aE_if_ne (tgt := 11) dX8_isMissing_4 (by decide) (fun h4 => ?_) (fun h4 => ?_)
  · skip
    rw [if_neg h4]
    refine aE_iconst (v := 0) dX8_isMissing_11 rfl ?_
    refine aE_zret dX8_isMissing_12 rfl (by first | exact Or.inl rfl | exact Or.inr rfl | exact wi_or _ _ _ | assumption) ⟨by decide, by decide⟩ ?_
    exact ⟨rfl, rfl, rfl⟩
  · skip
    rw [if_pos h4]
    refine aE_iconst (v := 1) dX8_isMissing_7 rfl ?_
    refine aE_goto (tgt := 12) dX8_isMissing_8 (by decide) ?_
    refine aE_zret dX8_isMissing_12 rfl (by first | exact Or.inl rfl | exact Or.inr rfl | exact wi_or _ _ _ | assumption) ⟨by decide, by decide⟩ ?_
    exact ⟨rfl, rfl, rfl⟩

/-- a number as a sheet of b bits holds it -/
def cutB (b v : Int32) : Int32 := if b = 8 then v.toInt8.toInt32 else if b = 16 then v.toInt16.toInt32 else v
set_option maxRecDepth 20000 in
theorem c_put (j i : Nat) (v : Int32) (hj : j < 4) (hi : i < 10) : aRuns mX8_put (rK 0) [.ref (93 + 2 * j), .int (nI i), .int v] (nn pl) (MM I sp pl) (a_ri (I (94 + 2 * j) i) (nn pl) (MM (iu I (94 + 2 * j) i (cutB (I (93 + 2 * j) 0) v)) sp pl)) := by
  refine aRuns_of pn_X8_put (Nat.le_of_ble_eq_true rfl) (fun z => aE_loc (ls' := [_, _, _, _]) rfl ?_)
  refine aE_aload_n dX8_put_0 rfl rfl ?_
  refine aE_getf dX8_put_1 fw_X8_9 (lt_nn (by omega)) (sh_sht hj) (mm_num hj) ?_
  refine aE_iload_n dX8_put_4 rfl rfl ?_
  refine aE_ildM dX8_put_5 (lt_nn (by omega)) (sh_num hj) (by decide) rfl hi ?_
  refine aE_istore_n dX8_put_6 rfl (by decide) rfl (aE_loc (ls' := [_, _, _, _]) rfl ?_)
  refine aE_aload_n dX8_put_7 rfl rfl ?_
  refine aE_getf dX8_put_8 fw_X8_9 (lt_nn (by omega)) (sh_sht hj) (mm_num hj) ?_
  refine aE_iload_n dX8_put_11 rfl rfl ?_
  refine aE_aload_n dX8_put_12 rfl rfl ?_
  refine aE_geti dX8_put_13 fw_X8_15 (lt_nn (by omega)) (sh_sht hj) (mc_sht (i := 0) hj (by decide)).1 (mc_sht (i := 0) hj (by decide)).2 ?_
  refine aE_bipush (v := 8) dX8_put_16 (by decide) ?_
  refine aE_icmp_ne (tgt := 26) dX8_put_18 (by decide) (fun h18 => ?_) (fun h18 => ?_)
  · skip
    refine aE_aload_n dX8_put_26 rfl rfl ?_
    refine aE_geti dX8_put_27 fw_X8_15 (lt_nn (by omega)) (sh_sht hj) (mc_sht (i := 0) hj (by decide)).1 (mc_sht (i := 0) hj (by decide)).2 ?_
    refine aE_bipush (v := 16) dX8_put_30 (by decide) ?_
    refine aE_icmp_ne (tgt := 40) dX8_put_32 (by decide) (fun h32 => ?_) (fun h32 => ?_)
    · skip
      refine aE_iload_n dX8_put_40 rfl rfl ?_
      refine aE_top (x' := cutB (I (93 + 2 * j) 0) v) (by unfold cutB; first | rw [if_pos h18] | rw [if_neg h18, if_pos h32] | rw [if_neg h18, if_neg h32]) ?_
      refine aE_istM dX8_put_41 (lt_nn (by omega)) (sh_num hj) (by decide) rfl hi ?_
      refine aE_iload_n dX8_put_42 rfl rfl ?_
      refine aE_iret dX8_put_43 rfl ⟨by decide, by decide⟩ ?_
      exact ⟨rfl, rfl, rfl⟩
    · skip
      refine aE_iload_n dX8_put_35 rfl rfl ?_
      refine aE_i2s dX8_put_36 ?_
      refine aE_goto (tgt := 41) dX8_put_37 (by decide) ?_
      refine aE_top (x' := cutB (I (93 + 2 * j) 0) v) (by unfold cutB; first | rw [if_pos h18] | rw [if_neg h18, if_pos h32] | rw [if_neg h18, if_neg h32]) ?_
      refine aE_istM dX8_put_41 (lt_nn (by omega)) (sh_num hj) (by decide) rfl hi ?_
      refine aE_iload_n dX8_put_42 rfl rfl ?_
      refine aE_iret dX8_put_43 rfl ⟨by decide, by decide⟩ ?_
      exact ⟨rfl, rfl, rfl⟩
  · skip
    refine aE_iload_n dX8_put_21 rfl rfl ?_
    refine aE_i2b dX8_put_22 ?_
    refine aE_goto (tgt := 41) dX8_put_23 (by decide) ?_
    refine aE_top (x' := cutB (I (93 + 2 * j) 0) v) (by unfold cutB; first | rw [if_pos h18] | rw [if_neg h18, if_pos h32] | rw [if_neg h18, if_neg h32]) ?_
    refine aE_istM dX8_put_41 (lt_nn (by omega)) (sh_num hj) (by decide) rfl hi ?_
    refine aE_iload_n dX8_put_42 rfl rfl ?_
    refine aE_iret dX8_put_43 rfl ⟨by decide, by decide⟩ ?_
    exact ⟨rfl, rfl, rfl⟩

set_option maxRecDepth 20000 in
theorem c_write (v i x : Int32) (cn : Nat → Nat) (hcn : ∀ j, j < 4 → cn j ≤ 10 ∧ I (93 + 2 * j) 1 = nI (cn j)) (hB : wi v 0 3 = 0 → qi Q (-1000001) (fnd I) sp pl) (hM : ∀ j, j < 4 → v = nI j → I (93 + 2 * j) 0 = 0 → qi Q (-1000005) (fnd I) sp pl) (hI : ∀ j, j < 4 → v = nI j → ¬ I (93 + 2 * j) 0 = 0 → wi i 0 (I (93 + 2 * j) 1 - 1) = 0 → qi Q (-1000001) (fnd I) sp pl) (hO : ∀ j k, j < 4 → k < cn j → v = nI j → i = nI k → ¬ I (93 + 2 * j) 0 = 0 → qi Q (I (94 + 2 * j) k) (iu I (94 + 2 * j) k (cutB (I (93 + 2 * j) 0) x)) sp pl) : aRuns mX11_write (rK 2) [.ref 0, .int v, .int i, .int x] (nn pl) (MM I sp pl) (Q) := by
  refine aRuns_of pn_X11_write (Nat.le_of_ble_eq_true rfl) (fun z => aE_loc (ls' := [_, _, _, _, _]) rfl ?_)
  refine aE_iload_n dX11_write_0 rfl rfl ?_
  refine aE_iconst (v := 0) dX11_write_1 rfl ?_
  refine aE_iconst (v := 3) dX11_write_2 rfl ?_
  refine aE_cSi dX11_write_3 lk_X11_74 ms_X11_within (c_within _ _ _) rfl rfl ⟨by decide, by decide⟩ (Nat.le_of_ble_eq_true rfl) ⟨rfl, rfl⟩ ⟨by decide, by decide⟩ ?_
  refine aE_if_ne (tgt := 16) dX11_write_6 (by decide) (fun h6 => ?_) (fun h6 => ?_)
  · skip
    obtain ⟨j, hj3, rfl⟩ := wi_c (m := 3) (by decide) (M := 3) rfl h6
    have hj : j < 4 := by omega
    refine aE_aload_n dX11_write_16 rfl rfl ?_
    refine aE_getf (v := .ref 92) dX11_write_17 fw_X11_46 (lt_nn (by decide)) rfl rfl ?_
    refine aE_iload_n dX11_write_20 rfl rfl ?_
    refine aE_aald (t := 104) dX11_write_21 (lt_nn (by decide)) ⟨by decide, by decide⟩ rfl (by decide) rfl hj (mm_shts hj) ?_
    refine aE_astore dX11_write_22 (by decide) rfl (aE_loc (ls' := [_, _, _, _, _]) rfl ?_)
    refine aE_aload dX11_write_24 rfl ?_
    refine aE_cVi dX11_write_26 lk_X11_304 mv_X8_isMissing (c_isMissing j hj) rfl (lt_nn (by omega)) (sh_sht hj) rfl ⟨by decide, by decide⟩ (Nat.le_of_ble_eq_true rfl) ⟨rfl, rfl⟩ ⟨by decide, by decide⟩ ?_
    refine aE_if_eq (tgt := 40) dX11_write_29 (by decide) (fun h29 => ?_) (fun h29 => ?_)
    · skip
      refine aE_iload_n dX11_write_40 rfl rfl ?_
      refine aE_iconst (v := 0) dX11_write_41 rfl ?_
      refine aE_aload dX11_write_42 rfl ?_
      refine aE_geti dX11_write_44 fw_X11_308 (lt_nn (by omega)) (sh_sht hj) (mc_sht (i := 1) hj (by decide)).1 (mc_sht (i := 1) hj (by decide)).2 ?_
      refine aE_iconst (v := 1) dX11_write_47 rfl ?_
      refine aE_isub dX11_write_48 ?_
      refine aE_cSi dX11_write_49 lk_X11_74 ms_X11_within (c_within _ _ _) rfl rfl ⟨by decide, by decide⟩ (Nat.le_of_ble_eq_true rfl) ⟨rfl, rfl⟩ ⟨by decide, by decide⟩ ?_
      refine aE_if_ne (tgt := 62) dX11_write_52 (by decide) (fun h52 => ?_) (fun h52 => ?_)
      · skip
        obtain ⟨k, hk, rfl⟩ := wi_ix (m := cn j) (by have := (hcn j hj).1; omega) ((hcn j hj).2 ▸ h52)
        have hc10 := (hcn j hj).1
        refine aE_aload dX11_write_62 rfl ?_
        refine aE_iload_n dX11_write_64 rfl rfl ?_
        refine aE_iload_n dX11_write_65 rfl rfl ?_
        refine aE_cVi dX11_write_66 lk_X11_309 mv_X8_put (c_put j k x hj (by omega)) rfl (lt_nn (by omega)) (sh_sht hj) rfl ⟨by decide, by decide⟩ (Nat.le_of_ble_eq_true rfl) ⟨rfl, rfl⟩ ⟨by decide, by decide⟩ ?_
        refine aE_iret dX11_write_69 rfl ⟨by decide, by decide⟩ ?_
        exact hO j k hj hk rfl rfl (fun q => by rw [if_pos q] at h29; exact absurd h29 (by decide))
      · skip
        refine aE_aload_n dX11_write_55 rfl rfl ?_
        refine aE_ldc dX11_write_56 ct_X11_78 ?_
        refine aE_cVi dX11_write_58 lk_X11_62 mv_X11_found (c_found _) rfl (lt_nn (by decide)) rfl rfl ⟨by decide, by decide⟩ (Nat.le_of_ble_eq_true rfl) ⟨rfl, rfl⟩ ⟨by decide, by decide⟩ ?_
        refine aE_iret dX11_write_61 rfl ⟨by decide, by decide⟩ ?_
        exact hI j hj rfl (fun q => by rw [if_pos q] at h29; exact absurd h29 (by decide)) h52
    · skip
      refine aE_aload_n dX11_write_32 rfl rfl ?_
      refine aE_ldcw dX11_write_33 ct_X11_307 ?_
      refine aE_cVi dX11_write_36 lk_X11_62 mv_X11_found (c_found _) rfl (lt_nn (by decide)) rfl rfl ⟨by decide, by decide⟩ (Nat.le_of_ble_eq_true rfl) ⟨rfl, rfl⟩ ⟨by decide, by decide⟩ ?_
      refine aE_iret dX11_write_39 rfl ⟨by decide, by decide⟩ ?_
      exact hM j hj rfl (by by_cases q : I (93 + 2 * j) 0 = 0; exact q; rw [if_neg q] at h29; exact absurd rfl h29)
  · skip
    refine aE_aload_n dX11_write_9 rfl rfl ?_
    refine aE_ldc dX11_write_10 ct_X11_78 ?_
    refine aE_cVi dX11_write_12 lk_X11_62 mv_X11_found (c_found _) rfl (lt_nn (by decide)) rfl rfl ⟨by decide, by decide⟩ (Nat.le_of_ble_eq_true rfl) ⟨rfl, rfl⟩ ⟨by decide, by decide⟩ ?_
    refine aE_iret dX11_write_15 rfl ⟨by decide, by decide⟩ ?_
    exact hB h6

end CB7
