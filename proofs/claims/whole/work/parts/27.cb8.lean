/-- len ints of the row a0 from p on, laid into the row a1 from q on -/
def cpI (I : Nat → Nat → Int32) (a0 a1 p q len : Nat) : Nat → Nat → Int32 := fun b i => if b = a1 ∧ q ≤ i ∧ i < q + len then I a0 (p + (i - q)) else I b i
/-- Sheet.holds -/
def hldV (f n c : Int32) : Int32 := if 0 ≤ f ∧ 0 ≤ n ∧ n ≤ c ∧ f ≤ c - n then 1 else 0
theorem hldV_or (f n c : Int32) : hldV f n c = 0 ∨ hldV f n c = 1 := by
  unfold hldV; split
  · exact Or.inr rfl
  · exact Or.inl rfl
theorem hldV_1 {f n : Int32} {c : Nat} (hc : c ≤ 1000) (h : ¬ hldV f n (nI c) = 0) : ∃ p m : Nat, f = nI p ∧ n = nI m ∧ p + m ≤ c := by
  unfold hldV at h
  split at h
  · rename_i w
    obtain ⟨w1, w2, w3, w4⟩ := w
    obtain ⟨m, hm, rfl⟩ := nI_of2 (M := nI c) (n := c) (nI_toInt (by omega)) (Int32.not_lt.mpr w2) w3
    rw [pk_sub hm] at w4
    obtain ⟨p, hp, rfl⟩ := nI_of2 (M := nI (c - m)) (n := c - m) (nI_toInt (by omega)) (Int32.not_lt.mpr w1) w4
    exact ⟨p, m, rfl, rfl, by omega⟩
  · exact absurd rfl h
theorem hldV_nx {p m c : Nat} (hc : c ≤ 1000) (h : p + m ≤ c) : ¬ hldV (nI p) (nI m) (nI c) = 0 := by
  unfold hldV
  rw [if_pos ⟨nI_pos' (by omega), nI_pos' (by omega), nI_le (by omega) (by omega), by rw [pk_sub (by omega)]; exact nI_le (by omega) (by omega)⟩]
  decide
def allW (f : Nat → Int32) (lo hi : Int32) : Nat → Int32
  | 0 => 1
  | k + 1 => if allW f lo hi k = 0 then 0 else wi (f k) lo hi
theorem allW_or (f : Nat → Int32) (lo hi : Int32) : ∀ k, allW f lo hi k = 0 ∨ allW f lo hi k = 1
  | 0 => Or.inr rfl
  | k + 1 => by
    unfold allW
    split
    · exact Or.inl rfl
    · exact wi_or _ _ _
theorem allW_0 {f : Nat → Int32} {lo hi : Int32} {k : Nat} : ∀ d, allW f lo hi k = 0 → allW f lo hi (k + d) = 0
  | 0, h => h
  | d + 1, h => by
    rw [← Nat.add_assoc]
    unfold allW
    rw [if_pos (allW_0 d h)]
theorem allW_at {f : Nat → Int32} {lo hi : Int32} {n : Nat} (h : ¬ allW f lo hi n = 0) : ∀ k, k < n → ¬ wi (f k) lo hi = 0 := by
  intro k hk q
  apply h
  rw [show n = (k + 1) + (n - (k + 1)) by omega]
  apply allW_0
  unfold allW
  split
  · rfl
  · exact q
section CB8
variable {z : Nat × (Nat → Int32)} {y : aY} {R : Room} {Q : Option Value → Nat → aM → Prop} {pc : Nat} {ls : List (Option Value)} {st : List Value} {n : Nat} {k1 k2 : Nat} {I : Nat → Nat → Int32} {sp : Nat → Nat} {pl : Bool}
theorem aE_copyM {idx a0 a1 n0 n1 p q len : Nat} {isp idp ilen : Int32} (hd : decode y.2.2.1 pc = .ok (.invokestatic idx, 3)) (hw : Cond.methodLink y.1 idx arraycopyName ∈ lw_g ∧ Cond.native arraycopyName ∈ lw_g ∧ Cond.static arraycopyName ∈ lw_g ∧ Cond.initialized "java/lang/System" ∈ lw_g) (h0 : a0 < nn pl) (h1 : a1 < nn pl) (hs0 : a_sh a0 = (100, n0)) (hs1 : a_sh a1 = (100, n1)) (hi : isp = nI p ∧ idp = nI q ∧ ilen = nI len) (hb0 : p + len ≤ n0) (hb1 : q + len ≤ n1) (hN : n0 ≤ 100000 ∧ n1 ≤ 100000) (hok : 1 ≤ R.frames ∧ (st.map fun v => v.category).sum + (nativeFrameWords "java/lang/System" "arraycopy" 5 + 11) ≤ R.locals)
    (k : aE z y R Q (pc + 3) ls st (nn pl) (MM (cpI I a0 a1 p q len) sp pl) k1 k2) : aE z y R Q pc ls (.int ilen :: .int idp :: .ref a1 :: .int isp :: .ref a0 :: st) (nn pl) (MM I sp pl) k1 k2 := by
  refine aE_copy hd hw h0 h1 hs0 hs1 hi hb0 hb1 hN hok (aE_mem ?_ k)
  have e0 := mm_arr (Or.inl hs0)
  have e1 := mm_arr (Or.inl hs1)
  funext b i
  unfold a_cp
  by_cases hc : b = a1 ∧ q ≤ i ∧ i < q + len
  · rw [if_pos hc, mm_int e0.1 (e0.2 _)]
    obtain ⟨rfl, h2⟩ := hc
    rw [mm_int e1.1 (e1.2 _)]
    simp [cpI, h2]
  · rw [if_neg hc]
    unfold MM
    simp only [cpI, if_neg hc]
set_option maxRecDepth 20000 in
theorem c_holds (j : Nat) (f n : Int32) (hj : j < 4) : aRuns mX8_holds (rK 0) [.ref (93 + 2 * j), .int f, .int n] (nn pl) (MM I sp pl) (a_ri (hldV f n (I (93 + 2 * j) 1)) (nn pl) (MM I sp pl)) := by
  refine aRuns_of pn_X8_holds (Nat.le_of_ble_eq_true rfl) (fun z => aE_loc (ls' := [_, _, _]) rfl ?_)
  refine aE_iload_n dX8_holds_0 rfl rfl ?_
  refine aE_if_lt (tgt := 30) dX8_holds_1 (by decide) (fun h1 => ?_) (fun h1 => ?_)
  · skip
    have hv : (0 : Int32) = hldV f n (I (93 + 2 * j) 1) := by unfold hldV; rw [if_neg (fun q => absurd h1 (Int32.not_lt.mpr q.1))]
    refine aE_iconst (v := 0) dX8_holds_30 rfl ?_
    refine aE_zret dX8_holds_31 rfl (by first | exact Or.inl rfl | exact Or.inr rfl | exact wi_or _ _ _ | assumption) ⟨by decide, by decide⟩ ?_
    exact a_rio hv rfl
  · skip
    refine aE_iload_n dX8_holds_4 rfl rfl ?_
    refine aE_if_lt (tgt := 30) dX8_holds_5 (by decide) (fun h5 => ?_) (fun h5 => ?_)
    · skip
      have hv : (0 : Int32) = hldV f n (I (93 + 2 * j) 1) := by unfold hldV; rw [if_neg (fun q => absurd h5 (Int32.not_lt.mpr q.2.1))]
      refine aE_iconst (v := 0) dX8_holds_30 rfl ?_
      refine aE_zret dX8_holds_31 rfl (by first | exact Or.inl rfl | exact Or.inr rfl | exact wi_or _ _ _ | assumption) ⟨by decide, by decide⟩ ?_
      exact a_rio hv rfl
    · skip
      refine aE_iload_n dX8_holds_8 rfl rfl ?_
      refine aE_aload_n dX8_holds_9 rfl rfl ?_
      refine aE_geti dX8_holds_10 fw_X8_19 (lt_nn (by omega)) (sh_sht hj) (mc_sht (i := 1) hj (by decide)).1 (mc_sht (i := 1) hj (by decide)).2 ?_
      refine aE_icmp_gt (tgt := 30) dX8_holds_13 (by decide) (fun h13 => ?_) (fun h13 => ?_)
      · skip
        have hv : (0 : Int32) = hldV f n (I (93 + 2 * j) 1) := by unfold hldV; rw [if_neg (fun q => absurd h13 (Int32.not_lt.mpr q.2.2.1))]
        refine aE_iconst (v := 0) dX8_holds_30 rfl ?_
        refine aE_zret dX8_holds_31 rfl (by first | exact Or.inl rfl | exact Or.inr rfl | exact wi_or _ _ _ | assumption) ⟨by decide, by decide⟩ ?_
        exact a_rio hv rfl
      · skip
        refine aE_iload_n dX8_holds_16 rfl rfl ?_
        refine aE_aload_n dX8_holds_17 rfl rfl ?_
        refine aE_geti dX8_holds_18 fw_X8_19 (lt_nn (by omega)) (sh_sht hj) (mc_sht (i := 1) hj (by decide)).1 (mc_sht (i := 1) hj (by decide)).2 ?_
        refine aE_iload_n dX8_holds_21 rfl rfl ?_
        refine aE_isub dX8_holds_22 ?_
        refine aE_icmp_gt (tgt := 30) dX8_holds_23 (by decide) (fun h23 => ?_) (fun h23 => ?_)
        · skip
          have hv : (0 : Int32) = hldV f n (I (93 + 2 * j) 1) := by unfold hldV; rw [if_neg (fun q => absurd h23 (Int32.not_lt.mpr q.2.2.2))]
          refine aE_iconst (v := 0) dX8_holds_30 rfl ?_
          refine aE_zret dX8_holds_31 rfl (by first | exact Or.inl rfl | exact Or.inr rfl | exact wi_or _ _ _ | assumption) ⟨by decide, by decide⟩ ?_
          exact a_rio hv rfl
        · skip
          have hv : (1 : Int32) = hldV f n (I (93 + 2 * j) 1) := by unfold hldV; rw [if_pos ⟨Int32.not_lt.mp h1, Int32.not_lt.mp h5, Int32.not_lt.mp h13, Int32.not_lt.mp h23⟩]
          refine aE_iconst (v := 1) dX8_holds_26 rfl ?_
          refine aE_goto (tgt := 31) dX8_holds_27 (by decide) ?_
          refine aE_zret dX8_holds_31 rfl (by first | exact Or.inl rfl | exact Or.inr rfl | exact wi_or _ _ _ | assumption) ⟨by decide, by decide⟩ ?_
          exact a_rio hv rfl

set_option maxRecDepth 20000 in
theorem c_copy (v f w t n : Int32) (cn : Nat → Nat) (hcn : ∀ j, j < 4 → cn j ≤ 10 ∧ I (93 + 2 * j) 1 = nI (cn j)) (hB : (wi v 0 3 = 0 ∨ wi w 0 3 = 0) → qi Q (-1000001) (fnd I) sp pl) (hM : ∀ j k, j < 4 → k < 4 → v = nI j → w = nI k → (I (93 + 2 * j) 0 = 0 ∨ I (93 + 2 * k) 0 = 0) → qi Q (-1000005) (fnd I) sp pl) (hK : ∀ j k, j < 4 → k < 4 → v = nI j → w = nI k → ¬ I (93 + 2 * j) 0 = 0 → ¬ I (93 + 2 * k) 0 = 0 → ¬ I (93 + 2 * j) 0 = I (93 + 2 * k) 0 → qi Q (-1000003) (fnd I) sp pl) (hL : ∀ j k, j < 4 → k < 4 → v = nI j → w = nI k → ¬ I (93 + 2 * j) 0 = 0 → ¬ I (93 + 2 * k) 0 = 0 → I (93 + 2 * j) 0 = I (93 + 2 * k) 0 → (hldV f n (I (93 + 2 * j) 1) = 0 ∨ hldV t n (I (93 + 2 * k) 1) = 0) → qi Q (-1000001) (fnd I) sp pl) (hO : ∀ j k p q m, j < 4 → k < 4 → v = nI j → w = nI k → f = nI p → t = nI q → n = nI m → ¬ I (93 + 2 * j) 0 = 0 → ¬ I (93 + 2 * k) 0 = 0 → I (93 + 2 * j) 0 = I (93 + 2 * k) 0 → p + m ≤ cn j → q + m ≤ cn k → qi Q (nI m) (cpI I (94 + 2 * j) (94 + 2 * k) p q m) sp pl) : aRuns mX11_copy (rK 2) [.ref 0, .int v, .int f, .int w, .int t, .int n] (nn pl) (MM I sp pl) (Q) := by
  refine aRuns_of pn_X11_copy (Nat.le_of_ble_eq_true rfl) (fun z => aE_loc (ls' := [_, _, _, _, _, _, _, _]) rfl ?_)
  refine aE_iload_n dX11_copy_0 rfl rfl ?_
  refine aE_iconst (v := 0) dX11_copy_1 rfl ?_
  refine aE_iconst (v := 3) dX11_copy_2 rfl ?_
  refine aE_cSi dX11_copy_3 lk_X11_74 ms_X11_within (c_within _ _ _) rfl rfl ⟨by decide, by decide⟩ (Nat.le_of_ble_eq_true rfl) ⟨rfl, rfl⟩ ⟨by decide, by decide⟩ ?_
  refine aE_if_eq (tgt := 18) dX11_copy_6 (by decide) (fun h6 => ?_) (fun h6 => ?_)
  · skip
    refine aE_aload_n dX11_copy_18 rfl rfl ?_
    refine aE_ldc dX11_copy_19 ct_X11_78 ?_
    refine aE_cVi dX11_copy_21 lk_X11_62 mv_X11_found (c_found _) rfl (lt_nn (by decide)) rfl rfl ⟨by decide, by decide⟩ (Nat.le_of_ble_eq_true rfl) ⟨rfl, rfl⟩ ⟨by decide, by decide⟩ ?_
    refine aE_iret dX11_copy_24 rfl ⟨by decide, by decide⟩ ?_
    refine hB ?_
    first | exact Or.inl ‹_› | exact Or.inr ‹_›
  · skip
    refine aE_iload_n dX11_copy_9 rfl rfl ?_
    refine aE_iconst (v := 0) dX11_copy_10 rfl ?_
    refine aE_iconst (v := 3) dX11_copy_11 rfl ?_
    refine aE_cSi dX11_copy_12 lk_X11_74 ms_X11_within (c_within _ _ _) rfl rfl ⟨by decide, by decide⟩ (Nat.le_of_ble_eq_true rfl) ⟨rfl, rfl⟩ ⟨by decide, by decide⟩ ?_
    refine aE_if_ne (tgt := 25) dX11_copy_15 (by decide) (fun h15 => ?_) (fun h15 => ?_)
    · skip
      obtain ⟨j, hj3, rfl⟩ := wi_c (m := 3) (by decide) (M := 3) rfl h6
      have hj : j < 4 := by omega
      obtain ⟨k, hk3, rfl⟩ := wi_c (m := 3) (by decide) (M := 3) rfl h15
      have hk : k < 4 := by omega
      refine aE_aload_n dX11_copy_25 rfl rfl ?_
      refine aE_getf (v := .ref 92) dX11_copy_26 fw_X11_46 (lt_nn (by decide)) rfl rfl ?_
      refine aE_iload_n dX11_copy_29 rfl rfl ?_
      refine aE_aald (t := 104) dX11_copy_30 (lt_nn (by decide)) ⟨by decide, by decide⟩ rfl (by decide) rfl hj (mm_shts hj) ?_
      refine aE_astore dX11_copy_31 (by decide) rfl (aE_loc (ls' := [_, _, _, _, _, _, _, _]) rfl ?_)
      refine aE_aload_n dX11_copy_33 rfl rfl ?_
      refine aE_getf (v := .ref 92) dX11_copy_34 fw_X11_46 (lt_nn (by decide)) rfl rfl ?_
      refine aE_iload_n dX11_copy_37 rfl rfl ?_
      refine aE_aald (t := 104) dX11_copy_38 (lt_nn (by decide)) ⟨by decide, by decide⟩ rfl (by decide) rfl hk (mm_shts hk) ?_
      refine aE_astore dX11_copy_39 (by decide) rfl (aE_loc (ls' := [_, _, _, _, _, _, _, _]) rfl ?_)
      refine aE_aload dX11_copy_41 rfl ?_
      refine aE_cVi dX11_copy_43 lk_X11_304 mv_X8_isMissing (c_isMissing j hj) rfl (lt_nn (by omega)) (sh_sht hj) rfl ⟨by decide, by decide⟩ (Nat.le_of_ble_eq_true rfl) ⟨rfl, rfl⟩ ⟨by decide, by decide⟩ ?_
      refine aE_if_ne (tgt := 57) dX11_copy_46 (by decide) (fun h46 => ?_) (fun h46 => ?_)
      · skip
        refine aE_aload_n dX11_copy_57 rfl rfl ?_
        refine aE_ldcw dX11_copy_58 ct_X11_307 ?_
        refine aE_cVi dX11_copy_61 lk_X11_62 mv_X11_found (c_found _) rfl (lt_nn (by decide)) rfl rfl ⟨by decide, by decide⟩ (Nat.le_of_ble_eq_true rfl) ⟨rfl, rfl⟩ ⟨by decide, by decide⟩ ?_
        refine aE_iret dX11_copy_64 rfl ⟨by decide, by decide⟩ ?_
        exact hM j k hj hk rfl rfl (by first | exact Or.inl (by by_cases q : I (93 + 2 * j) 0 = 0; exact q; rw [if_neg q] at h46; exact absurd rfl h46) | exact Or.inr (by by_cases q : I (93 + 2 * k) 0 = 0; exact q; rw [if_neg q] at h54; exact absurd rfl h54))
      · skip
        refine aE_aload dX11_copy_49 rfl ?_
        refine aE_cVi dX11_copy_51 lk_X11_304 mv_X8_isMissing (c_isMissing k hk) rfl (lt_nn (by omega)) (sh_sht hk) rfl ⟨by decide, by decide⟩ (Nat.le_of_ble_eq_true rfl) ⟨rfl, rfl⟩ ⟨by decide, by decide⟩ ?_
        refine aE_if_eq (tgt := 65) dX11_copy_54 (by decide) (fun h54 => ?_) (fun h54 => ?_)
        · skip
          have hzk : ¬ I (93 + 2 * k) 0 = 0 := fun q => by rw [if_pos q] at h54; exact absurd h54 (by decide)
          have hzj : ¬ I (93 + 2 * j) 0 = 0 := fun q => by rw [if_pos q] at h46; exact absurd h46 (by decide)
          refine aE_aload dX11_copy_65 rfl ?_
          refine aE_geti dX11_copy_67 fw_X11_312 (lt_nn (by omega)) (sh_sht hj) (mc_sht (i := 0) hj (by decide)).1 (mc_sht (i := 0) hj (by decide)).2 ?_
          refine aE_aload dX11_copy_70 rfl ?_
          refine aE_geti dX11_copy_72 fw_X11_312 (lt_nn (by omega)) (sh_sht hk) (mc_sht (i := 0) hk (by decide)).1 (mc_sht (i := 0) hk (by decide)).2 ?_
          refine aE_icmp_eq (tgt := 85) dX11_copy_75 (by decide) (fun h75 => ?_) (fun h75 => ?_)
          · skip
            refine aE_aload dX11_copy_85 rfl ?_
            refine aE_iload_n dX11_copy_87 rfl rfl ?_
            refine aE_iload dX11_copy_88 rfl ?_
            refine aE_cVi dX11_copy_90 lk_X11_315 mv_X8_holds (c_holds j f n hj) rfl (lt_nn (by omega)) (sh_sht hj) rfl ⟨by decide, by decide⟩ (Nat.le_of_ble_eq_true rfl) ⟨rfl, rfl⟩ ⟨by decide, by decide⟩ ?_
            refine aE_if_eq (tgt := 108) dX11_copy_93 (by decide) (fun h93 => ?_) (fun h93 => ?_)
            · skip
              refine aE_aload_n dX11_copy_108 rfl rfl ?_
              refine aE_ldc dX11_copy_109 ct_X11_78 ?_
              refine aE_cVi dX11_copy_111 lk_X11_62 mv_X11_found (c_found _) rfl (lt_nn (by decide)) rfl rfl ⟨by decide, by decide⟩ (Nat.le_of_ble_eq_true rfl) ⟨rfl, rfl⟩ ⟨by decide, by decide⟩ ?_
              refine aE_iret dX11_copy_114 rfl ⟨by decide, by decide⟩ ?_
              exact hL j k hj hk rfl rfl hzj hzk h75 (by first | exact Or.inl h93 | exact Or.inr h105)
            · skip
              refine aE_aload dX11_copy_96 rfl ?_
              refine aE_iload dX11_copy_98 rfl ?_
              refine aE_iload dX11_copy_100 rfl ?_
              refine aE_cVi dX11_copy_102 lk_X11_315 mv_X8_holds (c_holds k t n hk) rfl (lt_nn (by omega)) (sh_sht hk) rfl ⟨by decide, by decide⟩ (Nat.le_of_ble_eq_true rfl) ⟨rfl, rfl⟩ ⟨by decide, by decide⟩ ?_
              refine aE_if_ne (tgt := 115) dX11_copy_105 (by decide) (fun h105 => ?_) (fun h105 => ?_)
              · skip
                have cj := hcn j hj
                have ck := hcn k hk
                rw [cj.2] at h93
                rw [ck.2] at h105
                obtain ⟨p, m, rfl, rfl, hp⟩ := hldV_1 (by omega) h93
                obtain ⟨q, m2, rfl, hm2, hq⟩ := hldV_1 (by omega) h105
                have e2 : m = m2 := (nI_eq (by omega) (by omega)).mp hm2
                subst e2
                refine aE_aload dX11_copy_115 rfl ?_
                refine aE_getf dX11_copy_117 fw_X11_318 (lt_nn (by omega)) (sh_sht hj) (mm_num hj) ?_
                refine aE_iload_n dX11_copy_120 rfl rfl ?_
                refine aE_aload dX11_copy_121 rfl ?_
                refine aE_getf dX11_copy_123 fw_X11_318 (lt_nn (by omega)) (sh_sht hk) (mm_num hk) ?_
                refine aE_iload dX11_copy_126 rfl ?_
                refine aE_iload dX11_copy_128 rfl ?_
                refine aE_copyM (p := p) (q := q) (len := m) dX11_copy_130 ac_X11_274 (lt_nn (by omega)) (lt_nn (by omega)) (sh_num hj) (sh_num hk) ⟨rfl, rfl, rfl⟩ (by omega) (by omega) ⟨by decide, by decide⟩ ⟨by decide, by decide⟩ ?_
                refine aE_iload dX11_copy_133 rfl ?_
                refine aE_iret dX11_copy_135 rfl ⟨by decide, by decide⟩ ?_
                exact hO j k p q m hj hk rfl rfl rfl rfl rfl hzj hzk h75 hp hq
              · skip
                refine aE_aload_n dX11_copy_108 rfl rfl ?_
                refine aE_ldc dX11_copy_109 ct_X11_78 ?_
                refine aE_cVi dX11_copy_111 lk_X11_62 mv_X11_found (c_found _) rfl (lt_nn (by decide)) rfl rfl ⟨by decide, by decide⟩ (Nat.le_of_ble_eq_true rfl) ⟨rfl, rfl⟩ ⟨by decide, by decide⟩ ?_
                refine aE_iret dX11_copy_114 rfl ⟨by decide, by decide⟩ ?_
                exact hL j k hj hk rfl rfl hzj hzk h75 (by first | exact Or.inl h93 | exact Or.inr h105)
          · skip
            refine aE_aload_n dX11_copy_78 rfl rfl ?_
            refine aE_ldc dX11_copy_79 ct_X11_122 ?_
            refine aE_cVi dX11_copy_81 lk_X11_62 mv_X11_found (c_found _) rfl (lt_nn (by decide)) rfl rfl ⟨by decide, by decide⟩ (Nat.le_of_ble_eq_true rfl) ⟨rfl, rfl⟩ ⟨by decide, by decide⟩ ?_
            refine aE_iret dX11_copy_84 rfl ⟨by decide, by decide⟩ ?_
            exact hK j k hj hk rfl rfl hzj hzk h75
        · skip
          refine aE_aload_n dX11_copy_57 rfl rfl ?_
          refine aE_ldcw dX11_copy_58 ct_X11_307 ?_
          refine aE_cVi dX11_copy_61 lk_X11_62 mv_X11_found (c_found _) rfl (lt_nn (by decide)) rfl rfl ⟨by decide, by decide⟩ (Nat.le_of_ble_eq_true rfl) ⟨rfl, rfl⟩ ⟨by decide, by decide⟩ ?_
          refine aE_iret dX11_copy_64 rfl ⟨by decide, by decide⟩ ?_
          exact hM j k hj hk rfl rfl (by first | exact Or.inl (by by_cases q : I (93 + 2 * j) 0 = 0; exact q; rw [if_neg q] at h46; exact absurd rfl h46) | exact Or.inr (by by_cases q : I (93 + 2 * k) 0 = 0; exact q; rw [if_neg q] at h54; exact absurd rfl h54))
    · skip
      refine aE_aload_n dX11_copy_18 rfl rfl ?_
      refine aE_ldc dX11_copy_19 ct_X11_78 ?_
      refine aE_cVi dX11_copy_21 lk_X11_62 mv_X11_found (c_found _) rfl (lt_nn (by decide)) rfl rfl ⟨by decide, by decide⟩ (Nat.le_of_ble_eq_true rfl) ⟨rfl, rfl⟩ ⟨by decide, by decide⟩ ?_
      refine aE_iret dX11_copy_24 rfl ⟨by decide, by decide⟩ ?_
      refine hB ?_
      first | exact Or.inl ‹_› | exact Or.inr ‹_›

theorem l_allWithin (j c : Nat) (lo hi : Int32) (hj : j < 4) (hc : I (93 + 2 * j) 1 = nI c) (h10 : c ≤ 10) (hQ : qi Q (allW (I (94 + 2 * j)) lo hi c) I sp pl) : ∀ (d k : Nat), k + d = c → allW (I (94 + 2 * j)) lo hi k = 1 → aE z mX8_allWithin (rK 1) Q 2 [some (.ref (93 + 2 * j)), some (.int lo), some (.int hi), some (.int (nI k))] [] (nn pl) (MM I sp pl) 0 0 := by
  intro d
  induction d with
  | zero =>
    intro k hk hp
    have hk : k = c := by omega
    subst hk
    refine aE_iload_n dX8_allWithin_2 rfl rfl ?_
    refine aE_aload_n dX8_allWithin_3 rfl rfl ?_
    refine aE_geti dX8_allWithin_4 fw_X8_19 (lt_nn (by omega)) (sh_sht hj) (mc_sht (i := 1) hj (by decide)).1 (mc_sht (i := 1) hj (by decide)).2 ?_
    refine aE_icmp_ge (tgt := 32) dX8_allWithin_7 (by decide) (fun h7 => ?_) (fun h7 => absurd (by rw [hc]; exact Int32.le_refl _) h7)
    refine aE_iconst (v := 1) dX8_allWithin_32 rfl ?_
    refine aE_zret dX8_allWithin_33 rfl (by first | exact Or.inl rfl | exact Or.inr rfl | exact wi_or _ _ _ | assumption) ⟨by decide, by decide⟩ ?_
    rw [hp] at hQ; exact hQ
  | succ d ih =>
    intro k hk hp
    have hs : allW (I (94 + 2 * j)) lo hi (k + 1) = wi (I (94 + 2 * j) k) lo hi := by
      show (if allW (I (94 + 2 * j)) lo hi k = 0 then 0 else _) = _
      rw [hp, if_neg (by decide)]
    refine aE_iload_n dX8_allWithin_2 rfl rfl ?_
    refine aE_aload_n dX8_allWithin_3 rfl rfl ?_
    refine aE_geti dX8_allWithin_4 fw_X8_19 (lt_nn (by omega)) (sh_sht hj) (mc_sht (i := 1) hj (by decide)).1 (mc_sht (i := 1) hj (by decide)).2 ?_
    refine aE_icmp_ge (tgt := 32) dX8_allWithin_7 (by decide) (fun h7 => absurd h7 (by rw [hc]; exact nI_ge (by omega) (by omega))) (fun h7 => ?_)
    refine aE_aload_n dX8_allWithin_10 rfl rfl ?_
    refine aE_getf dX8_allWithin_11 fw_X8_9 (lt_nn (by omega)) (sh_sht hj) (mm_num hj) ?_
    refine aE_iload_n dX8_allWithin_14 rfl rfl ?_
    refine aE_ildM dX8_allWithin_15 (lt_nn (by omega)) (sh_num hj) (by decide) rfl (by omega) ?_
    refine aE_iload_n dX8_allWithin_16 rfl rfl ?_
    refine aE_iload_n dX8_allWithin_17 rfl rfl ?_
    refine aE_cSNi dX8_allWithin_18 ln_X8_28 ms_X11_within (c_within _ _ _) rfl rfl ⟨by decide, by decide⟩ (Nat.le_of_ble_eq_true rfl) ⟨rfl, rfl⟩ ⟨by decide, by decide⟩ ?_
    refine aE_if_ne (tgt := 26) dX8_allWithin_21 (by decide) (fun h21 => ?_) (fun h21 => ?_)
    · skip
      refine aE_iinc dX8_allWithin_26 rfl (a_inc _) (by decide) rfl (aE_loc (ls' := [_, _, _, _]) rfl ?_)
      refine aE_goto (tgt := 2) dX8_allWithin_29 (by decide) ?_
      exact ih (k + 1) (by omega) (by rw [hs]; exact (wi_or _ _ _).resolve_left h21)
    · skip
      refine aE_iconst (v := 0) dX8_allWithin_24 rfl ?_
      refine aE_zret dX8_allWithin_25 rfl (by first | exact Or.inl rfl | exact Or.inr rfl | exact wi_or _ _ _ | assumption) ⟨by decide, by decide⟩ ?_
      have e : allW (I (94 + 2 * j)) lo hi c = 0 := by
        rw [show c = (k + 1) + d by omega]
        exact allW_0 d (by rw [hs, h21])
      rw [e] at hQ
      exact hQ
theorem c_allWithin (j c : Nat) (lo hi : Int32) (hj : j < 4) (hc : I (93 + 2 * j) 1 = nI c) (h10 : c ≤ 10) : aRuns mX8_allWithin (rK 1) [.ref (93 + 2 * j), .int lo, .int hi] (nn pl) (MM I sp pl) (a_ri (allW (I (94 + 2 * j)) lo hi c) (nn pl) (MM I sp pl)) := by
  refine aRuns_of pn_X8_allWithin (Nat.le_of_ble_eq_true rfl) (fun z => aE_loc (ls' := [_, _, _, _]) rfl ?_)
  refine aE_iconst (v := 0) dX8_allWithin_0 rfl ?_
  refine aE_istore_n dX8_allWithin_1 rfl (by decide) rfl (aE_loc (ls' := [_, _, _, _]) rfl ?_)
  exact l_allWithin j c lo hi hj hc h10 ⟨rfl, rfl, rfl⟩ c 0 (by omega) rfl
/-- the first k numbers of a sheet as pupils of the stops from f on -/
def rdI (I : Nat → Nat → Int32) (sp : Nat → Nat) (a f : Nat) : Nat → Nat → Nat → Int32
  | 0 => I
  | k + 1 => iu (rdI I sp a f k) (sp (f + k)) 2 (I a k)
theorem rdI_ne {I : Nat → Nat → Int32} {sp : Nat → Nat} {a f q i : Nat} (hq : q < 44 ∨ 54 ≤ q) : ∀ k, (∀ j, j < k → 44 ≤ sp (f + j) ∧ sp (f + j) < 54) → rdI I sp a f k q i = I q i
  | 0, _ => rfl
  | k + 1, h => by
    simp only [rdI]
    have := h k (by omega)
    rw [iu_ne (by omega)]
    exact rdI_ne hq k (fun j hj => h j (by omega))
theorem l_read (j c f : Nat) (v : Int32) (hj : j < 4) (hc : I (93 + 2 * j) 1 = nI c) (h10 : f + c ≤ 10) (hsp : ∀ k, k < 10 → 44 ≤ sp k ∧ sp k < 54) (hQ : qi Q (nI c) (fall (rdI I sp (94 + 2 * j) f c)) sp pl) : ∀ (d k : Nat), k + d = c → aE z mX11_read (rK 2) Q 87 [some (.ref 0), some (.int v), some (.int (nI f)), some (.ref (93 + 2 * j)), some (.int (nI k))] [] (nn pl) (MM (rdI I sp (94 + 2 * j) f k) sp pl) 0 0 := by
  have hrd : ∀ (k q i : Nat), k ≤ c → (q < 44 ∨ 54 ≤ q) → rdI I sp (94 + 2 * j) f k q i = I q i := fun k q i hk hq => rdI_ne hq k (fun x hx => hsp (f + x) (by omega))
  intro d
  induction d with
  | zero =>
    intro k hk
    have hk : k = c := by omega
    subst hk
    refine aE_iload dX11_read_87 rfl ?_
    refine aE_aload_n dX11_read_89 rfl rfl ?_
    refine aE_geti dX11_read_90 fw_X11_308 (lt_nn (by omega)) (sh_sht hj) (mc_sht (i := 1) hj (by decide)).1 (mc_sht (i := 1) hj (by decide)).2 ?_
    refine aE_icmp_ge (tgt := 124) dX11_read_93 (by decide) (fun h93 => ?_) (fun h93 => absurd (by rw [hrd k _ _ (by omega) (by omega), hc]; exact Int32.le_refl _) h93)
    refine aE_aload_n dX11_read_124 rfl rfl ?_
    refine aE_cVv dX11_read_125 lk_X11_82 mv_X11_plansFall (c_plansFall ) rfl (lt_nn (by decide)) rfl rfl ⟨by decide, by decide⟩ (Nat.le_of_ble_eq_true rfl) ⟨rfl, rfl⟩ ⟨by decide, by decide⟩ ?_
    refine aE_aload_n dX11_read_128 rfl rfl ?_
    refine aE_geti dX11_read_129 fw_X11_308 (lt_nn (by omega)) (sh_sht hj) (mc_sht (i := 1) hj (by decide)).1 (mc_sht (i := 1) hj (by decide)).2 ?_
    refine aE_top (x' := nI k) (by unfold fall; rw [iu_ne (by omega), iu_ne (by omega), iu_ne (by omega), hrd k _ _ (by omega) (by omega)]; exact hc) ?_
    refine aE_iret dX11_read_132 rfl ⟨by decide, by decide⟩ ?_
    exact hQ
  | succ d ih =>
    intro k hk
    refine aE_iload dX11_read_87 rfl ?_
    refine aE_aload_n dX11_read_89 rfl rfl ?_
    refine aE_geti dX11_read_90 fw_X11_308 (lt_nn (by omega)) (sh_sht hj) (mc_sht (i := 1) hj (by decide)).1 (mc_sht (i := 1) hj (by decide)).2 ?_
    refine aE_icmp_ge (tgt := 124) dX11_read_93 (by decide) (fun h93 => absurd h93 (by rw [hrd k _ _ (by omega) (by omega), hc]; exact nI_ge (by omega) (by omega))) (fun h93 => ?_)
    refine aE_aload_n dX11_read_96 rfl rfl ?_
    refine aE_getf (v := .ref 1) dX11_read_97 fw_X11_10 (lt_nn (by decide)) rfl rfl ?_
    refine aE_getf (v := .ref 27) dX11_read_100 fw_X11_159 (lt_nn (by decide)) rfl rfl ?_
    refine aE_iload_n dX11_read_103 rfl rfl ?_
    refine aE_iload dX11_read_104 rfl ?_
    refine aE_iadd dX11_read_106 ?_
    refine aE_top (nI_add f k) ?_
    refine aE_aald (t := 103) dX11_read_107 (lt_nn (by decide)) ⟨by decide, by decide⟩ rfl (by decide) rfl (show f + k < 10 by omega) mm_stop ?_
    refine aE_aload_n dX11_read_108 rfl rfl ?_
    refine aE_getf dX11_read_109 fw_X11_318 (lt_nn (by omega)) (sh_sht hj) (mm_num hj) ?_
    refine aE_iload dX11_read_112 rfl ?_
    refine aE_ildM dX11_read_114 (lt_nn (by omega)) (sh_num hj) (by decide) rfl (by omega) ?_
    refine aE_top (x' := I (94 + 2 * j) k) (hrd k _ _ (by omega) (by omega)) ?_
    refine aE_puti dX11_read_115 fp_X11_163 (Or.inl rfl) (lt_nn (by have := (hsp (f + k) (by omega)); omega)) (sh_stop (hsp (f + k) (by omega))) (fun _ => ⟨rfl, rfl⟩) (mc_stop (hsp (f + k) (by omega)) (i := 2)).1 (mc_stop (hsp (f + k) (by omega)) (i := 2)).2 ?_
    refine aE_iinc dX11_read_118 rfl (a_inc _) (by decide) rfl (aE_loc (ls' := [_, _, _, _, _]) rfl ?_)
    refine aE_goto (tgt := 87) dX11_read_121 (by decide) ?_
    exact ih (k + 1) (by omega)
set_option maxRecDepth 20000 in
theorem c_read (v f : Int32) (cn : Nat → Nat) (nst : Nat) (hcn : ∀ j, j < 4 → cn j ≤ 10 ∧ I (93 + 2 * j) 1 = nI (cn j)) (hn : I 1 5 = nI nst) (h10 : nst ≤ 10) (hsp : ∀ k, k < 10 → 44 ≤ sp k ∧ sp k < 54) (hB : wi v 0 3 = 0 → qi Q (-1000001) (fnd I) sp pl) (hM : ∀ j, j < 4 → v = nI j → I (93 + 2 * j) 0 = 0 → qi Q (-1000005) (fnd I) sp pl) (h0 : ∀ j, j < 4 → v = nI j → ¬ I (93 + 2 * j) 0 = 0 → I (93 + 2 * j) 1 = 0 → qi Q 0 I sp pl) (hI : ∀ j, j < 4 → v = nI j → ¬ I (93 + 2 * j) 0 = 0 → ¬ I (93 + 2 * j) 1 = 0 → (wi f 0 (I 1 5 - I (93 + 2 * j) 1) = 0 ∨ allW (I (94 + 2 * j)) 1 30 (cn j) = 0) → qi Q (-1000001) (fnd I) sp pl) (hO : ∀ j p, j < 4 → v = nI j → f = nI p → ¬ I (93 + 2 * j) 0 = 0 → ¬ I (93 + 2 * j) 1 = 0 → p + cn j ≤ nst → ¬ allW (I (94 + 2 * j)) 1 30 (cn j) = 0 → qi Q (nI (cn j)) (fall (rdI I sp (94 + 2 * j) p (cn j))) sp pl) : aRuns mX11_read (rK 2) [.ref 0, .int v, .int f] (nn pl) (MM I sp pl) (Q) := by
  refine aRuns_of pn_X11_read (Nat.le_of_ble_eq_true rfl) (fun z => aE_loc (ls' := [_, _, _, _, _]) rfl ?_)
  refine aE_iload_n dX11_read_0 rfl rfl ?_
  refine aE_iconst (v := 0) dX11_read_1 rfl ?_
  refine aE_iconst (v := 3) dX11_read_2 rfl ?_
  refine aE_cSi dX11_read_3 lk_X11_74 ms_X11_within (c_within _ _ _) rfl rfl ⟨by decide, by decide⟩ (Nat.le_of_ble_eq_true rfl) ⟨rfl, rfl⟩ ⟨by decide, by decide⟩ ?_
  refine aE_if_ne (tgt := 16) dX11_read_6 (by decide) (fun h6 => ?_) (fun h6 => ?_)
  · skip
    obtain ⟨j, hj3, rfl⟩ := wi_c (m := 3) (by decide) (M := 3) rfl h6
    have hj : j < 4 := by omega
    refine aE_aload_n dX11_read_16 rfl rfl ?_
    refine aE_getf (v := .ref 92) dX11_read_17 fw_X11_46 (lt_nn (by decide)) rfl rfl ?_
    refine aE_iload_n dX11_read_20 rfl rfl ?_
    refine aE_aald (t := 104) dX11_read_21 (lt_nn (by decide)) ⟨by decide, by decide⟩ rfl (by decide) rfl hj (mm_shts hj) ?_
    refine aE_astore_n dX11_read_22 rfl (by decide) rfl (aE_loc (ls' := [_, _, _, _, _]) rfl ?_)
    refine aE_aload_n dX11_read_23 rfl rfl ?_
    refine aE_cVi dX11_read_24 lk_X11_304 mv_X8_isMissing (c_isMissing j hj) rfl (lt_nn (by omega)) (sh_sht hj) rfl ⟨by decide, by decide⟩ (Nat.le_of_ble_eq_true rfl) ⟨rfl, rfl⟩ ⟨by decide, by decide⟩ ?_
    refine aE_if_eq (tgt := 38) dX11_read_27 (by decide) (fun h27 => ?_) (fun h27 => ?_)
    · skip
      have hzj : ¬ I (93 + 2 * j) 0 = 0 := fun q => by rw [if_pos q] at h27; exact absurd h27 (by decide)
      have cj := hcn j hj
      refine aE_aload_n dX11_read_38 rfl rfl ?_
      refine aE_geti dX11_read_39 fw_X11_308 (lt_nn (by omega)) (sh_sht hj) (mc_sht (i := 1) hj (by decide)).1 (mc_sht (i := 1) hj (by decide)).2 ?_
      refine aE_if_ne (tgt := 47) dX11_read_42 (by decide) (fun h42 => ?_) (fun h42 => ?_)
      · skip
        refine aE_iload_n dX11_read_47 rfl rfl ?_
        refine aE_iconst (v := 0) dX11_read_48 rfl ?_
        refine aE_aload_n dX11_read_49 rfl rfl ?_
        refine aE_getf (v := .ref 1) dX11_read_50 fw_X11_10 (lt_nn (by decide)) rfl rfl ?_
        refine aE_geti dX11_read_53 fw_X11_149 (lt_nn (by decide)) rfl (by decide) rfl ?_
        refine aE_aload_n dX11_read_56 rfl rfl ?_
        refine aE_geti dX11_read_57 fw_X11_308 (lt_nn (by omega)) (sh_sht hj) (mc_sht (i := 1) hj (by decide)).1 (mc_sht (i := 1) hj (by decide)).2 ?_
        refine aE_isub dX11_read_60 ?_
        refine aE_cSi dX11_read_61 lk_X11_74 ms_X11_within (c_within _ _ _) rfl rfl ⟨by decide, by decide⟩ (Nat.le_of_ble_eq_true rfl) ⟨rfl, rfl⟩ ⟨by decide, by decide⟩ ?_
        refine aE_if_eq (tgt := 77) dX11_read_64 (by decide) (fun h64 => ?_) (fun h64 => ?_)
        · skip
          refine aE_aload_n dX11_read_77 rfl rfl ?_
          refine aE_ldc dX11_read_78 ct_X11_78 ?_
          refine aE_cVi dX11_read_80 lk_X11_62 mv_X11_found (c_found _) rfl (lt_nn (by decide)) rfl rfl ⟨by decide, by decide⟩ (Nat.le_of_ble_eq_true rfl) ⟨rfl, rfl⟩ ⟨by decide, by decide⟩ ?_
          refine aE_iret dX11_read_83 rfl ⟨by decide, by decide⟩ ?_
          exact hI j hj rfl hzj h42 (by first | exact Or.inl h64 | exact Or.inr h74)
        · skip
          refine aE_aload_n dX11_read_67 rfl rfl ?_
          refine aE_iconst (v := 1) dX11_read_68 rfl ?_
          refine aE_bipush (v := 30) dX11_read_69 (by decide) ?_
          refine aE_cVi dX11_read_71 lk_X11_321 mv_X8_allWithin (c_allWithin j (cn j) 1 30 hj cj.2 cj.1) rfl (lt_nn (by omega)) (sh_sht hj) rfl ⟨by decide, by decide⟩ (Nat.le_of_ble_eq_true rfl) ⟨rfl, rfl⟩ ⟨by decide, by decide⟩ ?_
          refine aE_if_ne (tgt := 84) dX11_read_74 (by decide) (fun h74 => ?_) (fun h74 => ?_)
          · skip
            refine aE_iconst (v := 0) dX11_read_84 rfl ?_
            refine aE_istore dX11_read_85 (by decide) rfl (aE_loc (ls' := [_, _, _, _, _]) rfl ?_)
            have hcs : cn j ≤ nst := by
              rcases Nat.lt_or_ge nst (cn j) with q | q
              · obtain ⟨w1, w2⟩ := wi_1 h64
                rw [cj.2, hn] at w2
                exact absurd (Int32.le_trans w1 w2) (Int32.not_le.mpr (pk_sneg (by omega) q))
              · exact q
            rw [cj.2, hn, pk_sub hcs] at h64
            obtain ⟨p, hp, rfl⟩ := wi_c (m := nst - cn j) (by omega) rfl h64
            exact l_read j (cn j) p (nI j) hj cj.2 (by omega) hsp (hO j p hj rfl rfl hzj h42 (by omega) (by first | exact h74)) (cn j) 0 (by omega)
          · skip
            refine aE_aload_n dX11_read_77 rfl rfl ?_
            refine aE_ldc dX11_read_78 ct_X11_78 ?_
            refine aE_cVi dX11_read_80 lk_X11_62 mv_X11_found (c_found _) rfl (lt_nn (by decide)) rfl rfl ⟨by decide, by decide⟩ (Nat.le_of_ble_eq_true rfl) ⟨rfl, rfl⟩ ⟨by decide, by decide⟩ ?_
            refine aE_iret dX11_read_83 rfl ⟨by decide, by decide⟩ ?_
            exact hI j hj rfl hzj h42 (by first | exact Or.inl h64 | exact Or.inr h74)
      · skip
        refine aE_iconst (v := 0) dX11_read_45 rfl ?_
        refine aE_iret dX11_read_46 rfl ⟨by decide, by decide⟩ ?_
        exact h0 j hj rfl hzj h42
    · skip
      refine aE_aload_n dX11_read_30 rfl rfl ?_
      refine aE_ldcw dX11_read_31 ct_X11_307 ?_
      refine aE_cVi dX11_read_34 lk_X11_62 mv_X11_found (c_found _) rfl (lt_nn (by decide)) rfl rfl ⟨by decide, by decide⟩ (Nat.le_of_ble_eq_true rfl) ⟨rfl, rfl⟩ ⟨by decide, by decide⟩ ?_
      refine aE_iret dX11_read_37 rfl ⟨by decide, by decide⟩ ?_
      exact hM j hj rfl (by by_cases q : I (93 + 2 * j) 0 = 0; exact q; rw [if_neg q] at h27; exact absurd rfl h27)
  · skip
    refine aE_aload_n dX11_read_9 rfl rfl ?_
    refine aE_ldc dX11_read_10 ct_X11_78 ?_
    refine aE_cVi dX11_read_12 lk_X11_62 mv_X11_found (c_found _) rfl (lt_nn (by decide)) rfl rfl ⟨by decide, by decide⟩ (Nat.le_of_ble_eq_true rfl) ⟨rfl, rfl⟩ ⟨by decide, by decide⟩ ?_
    refine aE_iret dX11_read_15 rfl ⟨by decide, by decide⟩ ?_
    exact hB h6

end CB8
