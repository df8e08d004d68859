section MPUB
variable {z : Nat × (Nat → Int32)} {n : Nat} {mem : aM} {I : Nat → Nat → Int32} {sp : Nat → Nat} {pl : Bool} {Q : Option Value → Nat → aM → Prop} {R : Room}
set_option maxRecDepth 20000 in
theorem m_routes (v : Int32) (ns nstr nc : Nat) (d : pD) (cs : Nat → pC) (fr to : Nat → Nat) (hW : MW I ns nstr nc d cs fr to) (hst : ¬ I 101 29 = 0 → PlM I d cs (alM I d) ns) (hB : wi v 0 (I 101 2 - 1) = 0 → qi Q (-1000001) (fndM I) sp pl) (hN : ∀ s J, s < ns → v = nI s → FrP I J → MS J ns d cs (alM I d) → ¬ (pS d (cs s) (alM I d s)).1 < 1000000 → qi Q (-1000004) (fndM J) sp pl) (hO : ∀ s J, s < ns → v = nI s → FrP I J → MS J ns d cs (alM I d) → (pS d (cs s) (alM I d s)).1 < 1000000 → qi Q (pS d (cs s) (alM I d s)).1 J sp pl) : aRuns mX12_routes (rK 5) [.ref 101, .int v] (nn pl) (MM I sp pl) Q := by
  refine aRuns_of pn_X12_routes (Nat.le_of_ble_eq_true rfl) (fun z => aE_loc (ls' := [_, _]) rfl ?_)
  refine aE_aload_n dX12_routes_0 rfl rfl ?_
  refine aE_iload_n dX12_routes_1 rfl rfl ?_
  refine aE_cVi dX12_routes_2 lk_X12_198 mv_X12_isSchool (c_isSchool _) rfl (lt_nn (by decide)) rfl rfl ⟨by decide, by decide⟩ (Nat.le_of_ble_eq_true rfl) ⟨rfl, rfl⟩ ⟨by decide, by decide⟩ ?_
  refine aE_if_ne (tgt := 15) dX12_routes_5 (by decide) (fun h5 => ?_) (fun h5 => ?_)
  · skip
    obtain ⟨s, hs, rfl⟩ := wi_ix (m := ns) (by have := hW.2.1; omega) (hW.1 ▸ h5)
    have hs4 : s < 4 := by have := hW.2.1; omega
    refine aE_aload_n dX12_routes_15 rfl rfl ?_
    refine aE_cVq dX12_routes_16 lk_X12_243 mv_X12_plan (m_planS (Q := (fun (r : Option Value) (n' : Nat) (m' : aM) => r = none ∧ n' = nn pl ∧ ∃ J, m' = MM J sp pl ∧ FrP I J ∧ MS J ns d cs (alM I d))) ns nstr nc d cs fr to hW hst (fun J h1 h2 => ⟨rfl, rfl, J, rfl, h1, h2⟩)) rfl (lt_nn (by decide)) rfl rfl ⟨by decide, by decide⟩ (Nat.le_of_ble_eq_true rfl) ⟨rfl, rfl⟩ ⟨by decide, by decide⟩ ?_
    rintro r n' m' ⟨rfl, rfl, J, rfl, hJ, hM⟩
    have hmr : J 131 s = mrV d (cs s) (alM I d s) := (hM.2.2.2.2.1.2.2.2.1 s hs).2
    have hfr : J 130 s = nI (RR d cs (alM I d) s).length := (hM.2.2.2.2.1.2.2.2.1 s hs).1
    have hal := hM.2.2.2.2.2.1 s
    refine aE_aload_n dX12_routes_19 rfl rfl ?_
    refine aE_getf (v := .ref 131) dX12_routes_20 fw_X12_105 (lt_nn (by decide)) rfl rfl ?_
    refine aE_iload_n dX12_routes_23 rfl rfl ?_
    refine aE_ildM dX12_routes_24 (lt_nn (by decide)) rfl (by decide) rfl hs4 ?_
    refine aE_top hmr ?_
    refine aE_if_ge (tgt := 37) dX12_routes_25 (by decide) (fun h25 => ?_) (fun h25 => ?_)
    · skip
      refine aE_aload_n dX12_routes_37 rfl rfl ?_
      refine aE_getf (v := .ref 131) dX12_routes_38 fw_X12_105 (lt_nn (by decide)) rfl rfl ?_
      refine aE_iload_n dX12_routes_41 rfl rfl ?_
      refine aE_ildM dX12_routes_42 (lt_nn (by decide)) rfl (by decide) rfl hs4 ?_
      refine aE_top hmr ?_
      refine aE_iret dX12_routes_43 rfl ⟨by decide, by decide⟩ ?_
      first
        | exact hN s J hs rfl hJ hM ((mrV_neg hal).mp (Int32.not_le.mp h25))
        | (have hp : (pS d (cs s) (alM I d s)).1 < 1000000 := Classical.not_not.mp (fun q => absurd ((mrV_neg hal).mpr q) (Int32.not_lt.mpr h25))
           rw [show mrV d (cs s) (alM I d s) = (pS d (cs s) (alM I d s)).1 from if_pos hp]
           exact hO s J hs rfl hJ hM hp)
    · skip
      refine aE_aload_n dX12_routes_28 rfl rfl ?_
      refine aE_ldc dX12_routes_29 ct_X12_197 ?_
      refine aE_cVi dX12_routes_31 lk_X12_177 mv_X12_finds (c_finds _) rfl (lt_nn (by decide)) rfl rfl ⟨by decide, by decide⟩ (Nat.le_of_ble_eq_true rfl) ⟨rfl, rfl⟩ ⟨by decide, by decide⟩ ?_
      refine aE_goto (tgt := 43) dX12_routes_34 (by decide) ?_
      refine aE_iret dX12_routes_43 rfl ⟨by decide, by decide⟩ ?_
      first
        | exact hN s J hs rfl hJ hM ((mrV_neg hal).mp (Int32.not_le.mp h25))
        | (have hp : (pS d (cs s) (alM I d s)).1 < 1000000 := Classical.not_not.mp (fun q => absurd ((mrV_neg hal).mpr q) (Int32.not_lt.mpr h25))
           rw [show mrV d (cs s) (alM I d s) = (pS d (cs s) (alM I d s)).1 from if_pos hp]
           exact hO s J hs rfl hJ hM hp)
  · skip
    refine aE_aload_n dX12_routes_8 rfl rfl ?_
    refine aE_ldc dX12_routes_9 ct_X12_185 ?_
    refine aE_cVi dX12_routes_11 lk_X12_177 mv_X12_finds (c_finds _) rfl (lt_nn (by decide)) rfl rfl ⟨by decide, by decide⟩ (Nat.le_of_ble_eq_true rfl) ⟨rfl, rfl⟩ ⟨by decide, by decide⟩ ?_
    refine aE_iret dX12_routes_14 rfl ⟨by decide, by decide⟩ ?_
    exact hB (by first | exact h5 | exact Classical.not_not.mp h5)

set_option maxRecDepth 20000 in
theorem m_route (v i k : Int32) (ns nstr nc : Nat) (d : pD) (cs : Nat → pC) (fr to : Nat → Nat) (hW : MW I ns nstr nc d cs fr to) (hst : ¬ I 101 29 = 0 → PlM I d cs (alM I d) ns) (hB : (wi v 0 (I 101 2 - 1) = 0 ∨ i < 0 ∨ k < -1) → qi Q (-1000001) (fndM I) sp pl) (hN : ∀ s J, s < ns → v = nI s → ¬ i < 0 → ¬ k < -1 → FrP I J → MS J ns d cs (alM I d) → (¬ (pS d (cs s) (alM I d s)).1 < 1000000 ∨ (pS d (cs s) (alM I d s)).1 ≤ i) → qi Q (-1000004) (fndM J) sp pl) (hL : ∀ s J ii S, s < ns → v = nI s → i = nI ii → FrP I J → MS J ns d cs (alM I d) → (RLs d (cs s) (alM I d s))[ii]? = some S → k = -1 → qi Q (lS d (cs s) S) J sp pl) (hO : ∀ s J ii S kk, s < ns → v = nI s → i = nI ii → k = nI kk → FrP I J → MS J ns d cs (alM I d) → (RLs d (cs s) (alM I d s))[ii]? = some S → qi Q (rv (oS d (cs s) S (min kk 10)).2) J sp pl) : aRuns mX12_route (rK 5) [.ref 101, .int v, .int i, .int k] (nn pl) (MM I sp pl) Q := by
  refine aRuns_of pn_X12_route (Nat.le_of_ble_eq_true rfl) (fun z => aE_loc (ls' := [_, _, _, _, _]) rfl ?_)
  refine aE_aload_n dX12_route_0 rfl rfl ?_
  refine aE_iload_n dX12_route_1 rfl rfl ?_
  refine aE_cVi dX12_route_2 lk_X12_198 mv_X12_isSchool (c_isSchool _) rfl (lt_nn (by decide)) rfl rfl ⟨by decide, by decide⟩ (Nat.le_of_ble_eq_true rfl) ⟨rfl, rfl⟩ ⟨by decide, by decide⟩ ?_
  refine aE_if_eq (tgt := 17) dX12_route_5 (by decide) (fun h5 => ?_) (fun h5 => ?_)
  · skip
    refine aE_aload_n dX12_route_17 rfl rfl ?_
    refine aE_ldc dX12_route_18 ct_X12_185 ?_
    refine aE_cVi dX12_route_20 lk_X12_177 mv_X12_finds (c_finds _) rfl (lt_nn (by decide)) rfl rfl ⟨by decide, by decide⟩ (Nat.le_of_ble_eq_true rfl) ⟨rfl, rfl⟩ ⟨by decide, by decide⟩ ?_
    refine aE_iret dX12_route_23 rfl ⟨by decide, by decide⟩ ?_
    refine hB ?_
    first | exact Or.inl h5 | exact Or.inr (Or.inl h9) | exact Or.inr (Or.inr (Int32.not_le.mp h14))
  · skip
    refine aE_iload_n dX12_route_8 rfl rfl ?_
    refine aE_if_lt (tgt := 17) dX12_route_9 (by decide) (fun h9 => ?_) (fun h9 => ?_)
    · skip
      refine aE_aload_n dX12_route_17 rfl rfl ?_
      refine aE_ldc dX12_route_18 ct_X12_185 ?_
      refine aE_cVi dX12_route_20 lk_X12_177 mv_X12_finds (c_finds _) rfl (lt_nn (by decide)) rfl rfl ⟨by decide, by decide⟩ (Nat.le_of_ble_eq_true rfl) ⟨rfl, rfl⟩ ⟨by decide, by decide⟩ ?_
      refine aE_iret dX12_route_23 rfl ⟨by decide, by decide⟩ ?_
      refine hB ?_
      first | exact Or.inl h5 | exact Or.inr (Or.inl h9) | exact Or.inr (Or.inr (Int32.not_le.mp h14))
    · skip
      refine aE_iload_n dX12_route_12 rfl rfl ?_
      refine aE_iconst (v := -1) dX12_route_13 rfl ?_
      refine aE_icmp_ge (tgt := 24) dX12_route_14 (by decide) (fun h14 => ?_) (fun h14 => ?_)
      · skip
        obtain ⟨s, hs, rfl⟩ := wi_ix (m := ns) (by have := hW.2.1; omega) (hW.1 ▸ h5)
        have hs4 : s < 4 := by have := hW.2.1; omega
        refine aE_aload_n dX12_route_24 rfl rfl ?_
        refine aE_cVq dX12_route_25 lk_X12_243 mv_X12_plan (m_planS (Q := (fun (r : Option Value) (n' : Nat) (m' : aM) => r = none ∧ n' = nn pl ∧ ∃ J, m' = MM J sp pl ∧ FrP I J ∧ MS J ns d cs (alM I d))) ns nstr nc d cs fr to hW hst (fun J h1 h2 => ⟨rfl, rfl, J, rfl, h1, h2⟩)) rfl (lt_nn (by decide)) rfl rfl ⟨by decide, by decide⟩ (Nat.le_of_ble_eq_true rfl) ⟨rfl, rfl⟩ ⟨by decide, by decide⟩ ?_
        rintro r n' m' ⟨rfl, rfl, J, rfl, hJ, hM⟩
        have hmr : J 131 s = mrV d (cs s) (alM I d s) := (hM.2.2.2.2.1.2.2.2.1 s hs).2
        have hfr : J 130 s = nI (RR d cs (alM I d) s).length := (hM.2.2.2.2.1.2.2.2.1 s hs).1
        have hal := hM.2.2.2.2.2.1 s
        refine aE_aload_n dX12_route_28 rfl rfl ?_
        refine aE_getf (v := .ref 131) dX12_route_29 fw_X12_105 (lt_nn (by decide)) rfl rfl ?_
        refine aE_iload_n dX12_route_32 rfl rfl ?_
        refine aE_ildM dX12_route_33 (lt_nn (by decide)) rfl (by decide) rfl hs4 ?_
        refine aE_top hmr ?_
        refine aE_if_lt (tgt := 47) dX12_route_34 (by decide) (fun h34 => ?_) (fun h34 => ?_)
        · skip
          refine aE_aload_n dX12_route_47 rfl rfl ?_
          refine aE_ldc dX12_route_48 ct_X12_197 ?_
          refine aE_cVi dX12_route_50 lk_X12_177 mv_X12_finds (c_finds _) rfl (lt_nn (by decide)) rfl rfl ⟨by decide, by decide⟩ (Nat.le_of_ble_eq_true rfl) ⟨rfl, rfl⟩ ⟨by decide, by decide⟩ ?_
          refine aE_iret dX12_route_53 rfl ⟨by decide, by decide⟩ ?_
          first | exact hN s J hs rfl h9 (Int32.not_lt.mpr h14) hJ hM (Or.inl ((mrV_neg hal).mp h34)) | exact hN s J hs rfl h9 (Int32.not_lt.mpr h14) hJ hM (Or.inr (by rw [hmv] at h44; exact Int32.not_lt.mp h44))
        · skip
          have hp : (pS d (cs s) (alM I d s)).1 < 1000000 := Classical.not_not.mp (fun q => absurd ((mrV_neg hal).mpr q) h34)
          have hmv : mrV d (cs s) (alM I d s) = (pS d (cs s) (alM I d s)).1 := if_pos hp
          refine aE_iload_n dX12_route_37 rfl rfl ?_
          refine aE_aload_n dX12_route_38 rfl rfl ?_
          refine aE_getf (v := .ref 131) dX12_route_39 fw_X12_105 (lt_nn (by decide)) rfl rfl ?_
          refine aE_iload_n dX12_route_42 rfl rfl ?_
          refine aE_ildM dX12_route_43 (lt_nn (by decide)) rfl (by decide) rfl hs4 ?_
          refine aE_top hmr ?_
          refine aE_icmp_lt (tgt := 54) dX12_route_44 (by decide) (fun h44 => ?_) (fun h44 => ?_)
          · skip
            obtain ⟨m, hm⟩ := pB_lt hal hp
            have hm10 : m ≤ 10 := Nat.le_trans hm.1 (cdB_bound _ 10)
            have hpm : (pS d (cs s) (alM I d s)).1 = nI m := hm.2.1
            obtain ⟨ii, hi31, rfl⟩ := nI_of h9
            have him : ii < m := (nI_ltI hi31 (by omega)).mp (by rw [hmv, hpm] at h44; exact h44)
            have hlen : (RLs d (cs s) (alM I d s)).length = m := by unfold RLs; rw [if_pos hp]; exact rtL_len 10 _ m hal hm10 hm
            obtain ⟨S, hS⟩ : ∃ S, (RLs d (cs s) (alM I d s))[ii]? = some S := ⟨_, List.getElem?_eq_getElem (by omega)⟩
            have hget := RR_get (k := ns) hs hS
            obtain ⟨k1, k2, k3, k4, k5, k6, k7, k8, k9⟩ := MS_rt hM hget
            refine aE_aload_n dX12_route_54 rfl rfl ?_
            refine aE_getf (v := .ref 130) dX12_route_55 fw_X12_102 (lt_nn (by decide)) rfl rfl ?_
            refine aE_iload_n dX12_route_58 rfl rfl ?_
            refine aE_ildM dX12_route_59 (lt_nn (by decide)) rfl (by decide) rfl hs4 ?_
            refine aE_top hfr ?_
            refine aE_iload_n dX12_route_60 rfl rfl ?_
            refine aE_iadd dX12_route_61 ?_
            refine aE_top (nI_add _ _) ?_
            refine aE_istore dX12_route_62 (by decide) rfl (aE_loc (ls' := [_, _, _, _, _]) rfl ?_)
            refine aE_iload_n dX12_route_64 rfl rfl ?_
            refine aE_if_ge (tgt := 78) dX12_route_65 (by decide) (fun h65 => ?_) (fun h65 => ?_)
            · skip
              obtain ⟨kk, hk31, rfl⟩ := nI_of (Int32.not_lt.mpr h65)
              refine aE_aload_n dX12_route_78 rfl rfl ?_
              refine aE_iload dX12_route_79 rfl ?_
              refine aE_iload_n dX12_route_81 rfl rfl ?_
              refine aE_bipush (v := 10) dX12_route_82 (by decide) ?_
              refine aE_icmp_le (tgt := 92) dX12_route_84 (by decide) (fun h84 => ?_) (fun h84 => ?_)
              · skip
                refine aE_iload_n dX12_route_92 rfl rfl ?_
                refine aE_top (x' := nI (min kk 10)) (by
                  first
                    | exact congrArg nI (Nat.min_eq_left ((nI_leI hk31 (by decide)).mp h84)).symm
                    | exact (congrArg nI (Nat.min_eq_right (Nat.le_of_not_le (fun q => h84 ((nI_leI (b := 10) hk31 (by decide)).mpr q))))).symm) ?_
                refine aE_cVi dX12_route_93 lk_X12_250 mv_X12_stopOf (m_stopOf d (cs s) S _ (min kk 10) hM.2.2.1.1 k2 (fun R hR g h1 h2 => MS_tab hM hs (bsub_tr hR k4) h1 h2) k6 k7 (by omega)) rfl (lt_nn (by decide)) rfl rfl ⟨by decide, by decide⟩ (Nat.le_of_ble_eq_true rfl) ⟨rfl, rfl⟩ ⟨by decide, by decide⟩ ?_
                refine aE_iret dX12_route_96 rfl ⟨by decide, by decide⟩ ?_
                first | exact hL s J ii S hs rfl rfl hJ hM hS hk1 | exact hO s J ii S kk hs rfl rfl rfl hJ hM hS
              · skip
                refine aE_bipush (v := 10) dX12_route_87 (by decide) ?_
                refine aE_goto (tgt := 93) dX12_route_89 (by decide) ?_
                refine aE_top (x' := nI (min kk 10)) (by
                  first
                    | exact congrArg nI (Nat.min_eq_left ((nI_leI hk31 (by decide)).mp h84)).symm
                    | exact (congrArg nI (Nat.min_eq_right (Nat.le_of_not_le (fun q => h84 ((nI_leI (b := 10) hk31 (by decide)).mpr q))))).symm) ?_
                refine aE_cVi dX12_route_93 lk_X12_250 mv_X12_stopOf (m_stopOf d (cs s) S _ (min kk 10) hM.2.2.1.1 k2 (fun R hR g h1 h2 => MS_tab hM hs (bsub_tr hR k4) h1 h2) k6 k7 (by omega)) rfl (lt_nn (by decide)) rfl rfl ⟨by decide, by decide⟩ (Nat.le_of_ble_eq_true rfl) ⟨rfl, rfl⟩ ⟨by decide, by decide⟩ ?_
                refine aE_iret dX12_route_96 rfl ⟨by decide, by decide⟩ ?_
                first | exact hL s J ii S hs rfl rfl hJ hM hS hk1 | exact hO s J ii S kk hs rfl rfl rfl hJ hM hS
            · skip
              have hk1 : k = -1 := m1_of (Int32.not_lt.mpr h14) (Int32.not_le.mp h65)
              refine aE_aload_n dX12_route_68 rfl rfl ?_
              refine aE_getf (v := .ref 129) dX12_route_69 fw_X12_99 (lt_nn (by decide)) rfl rfl ?_
              refine aE_iload dX12_route_72 rfl ?_
              refine aE_ildM dX12_route_74 (lt_nn (by decide)) rfl (by decide) rfl k6 ?_
              refine aE_top k9 ?_
              refine aE_goto (tgt := 96) dX12_route_75 (by decide) ?_
              refine aE_iret dX12_route_96 rfl ⟨by decide, by decide⟩ ?_
              first | exact hL s J ii S hs rfl rfl hJ hM hS hk1 | exact hO s J ii S kk hs rfl rfl rfl hJ hM hS
          · skip
            refine aE_aload_n dX12_route_47 rfl rfl ?_
            refine aE_ldc dX12_route_48 ct_X12_197 ?_
            refine aE_cVi dX12_route_50 lk_X12_177 mv_X12_finds (c_finds _) rfl (lt_nn (by decide)) rfl rfl ⟨by decide, by decide⟩ (Nat.le_of_ble_eq_true rfl) ⟨rfl, rfl⟩ ⟨by decide, by decide⟩ ?_
            refine aE_iret dX12_route_53 rfl ⟨by decide, by decide⟩ ?_
            first | exact hN s J hs rfl h9 (Int32.not_lt.mpr h14) hJ hM (Or.inl ((mrV_neg hal).mp h34)) | exact hN s J hs rfl h9 (Int32.not_lt.mpr h14) hJ hM (Or.inr (by rw [hmv] at h44; exact Int32.not_lt.mp h44))
      · skip
        refine aE_aload_n dX12_route_17 rfl rfl ?_
        refine aE_ldc dX12_route_18 ct_X12_185 ?_
        refine aE_cVi dX12_route_20 lk_X12_177 mv_X12_finds (c_finds _) rfl (lt_nn (by decide)) rfl rfl ⟨by decide, by decide⟩ (Nat.le_of_ble_eq_true rfl) ⟨rfl, rfl⟩ ⟨by decide, by decide⟩ ?_
        refine aE_iret dX12_route_23 rfl ⟨by decide, by decide⟩ ?_
        refine hB ?_
        first | exact Or.inl h5 | exact Or.inr (Or.inl h9) | exact Or.inr (Or.inr (Int32.not_le.mp h14))

set_option maxRecDepth 20000 in
theorem m_ride (v : Int32) (sc : Nat → Nat) (ns nstr nc : Nat) (d : pD) (cs : Nat → pC) (fr to : Nat → Nat) (hW : MW I ns nstr nc d cs fr to) (hst : ¬ I 101 29 = 0 → PlM I d cs (alM I d) ns) (hsc : ∀ k, k < d.1 → sc k < ns ∧ I 110 k = nI (sc k)) (hB : wi v 0 (I 101 3 - 1) = 0 → qi Q (-1000001) (fndM I) sp pl) (hN : ∀ t J, t < d.1 → v = nI t → FrP I J → MS J ns d cs (alM I d) → ¬ (pS d (cs (sc t)) (alM I d (sc t))).1 < 1000000 → qi Q (-1000004) (fndM J) sp pl) (hO : ∀ t J, t < d.1 → v = nI t → FrP I J → MS J ns d cs (alM I d) → (pS d (cs (sc t)) (alM I d (sc t))).1 < 1000000 → qi Q (rideL d cs t (RR d cs (alM I d) ns)) J sp pl) : aRuns mX12_ride (rK 5) [.ref 101, .int v] (nn pl) (MM I sp pl) Q := by
  refine aRuns_of pn_X12_ride (Nat.le_of_ble_eq_true rfl) (fun z => aE_loc (ls' := [_, _]) rfl ?_)
  refine aE_aload_n dX12_ride_0 rfl rfl ?_
  refine aE_iload_n dX12_ride_1 rfl rfl ?_
  refine aE_cVi dX12_ride_2 lk_X12_221 mv_X12_isStop (c_isStop _) rfl (lt_nn (by decide)) rfl rfl ⟨by decide, by decide⟩ (Nat.le_of_ble_eq_true rfl) ⟨rfl, rfl⟩ ⟨by decide, by decide⟩ ?_
  refine aE_if_ne (tgt := 15) dX12_ride_5 (by decide) (fun h5 => ?_) (fun h5 => ?_)
  · skip
    obtain ⟨t, ht, rfl⟩ := wi_ix (m := d.1) (by have := hW.2.2.2.2.2.2.2.2.1; omega) (hW.2.2.2.2.2.2.2.1 ▸ h5)
    have ht10 : t < 10 := by have := hW.2.2.2.2.2.2.2.2.1; omega
    have hsc4 : sc t < 4 := by have := hW.2.1; have := (hsc t ht).1; omega
    refine aE_aload_n dX12_ride_15 rfl rfl ?_
    refine aE_cVq dX12_ride_16 lk_X12_243 mv_X12_plan (m_planS (Q := (fun (r : Option Value) (n' : Nat) (m' : aM) => r = none ∧ n' = nn pl ∧ ∃ J, m' = MM J sp pl ∧ FrP I J ∧ MS J ns d cs (alM I d))) ns nstr nc d cs fr to hW hst (fun J h1 h2 => ⟨rfl, rfl, J, rfl, h1, h2⟩)) rfl (lt_nn (by decide)) rfl rfl ⟨by decide, by decide⟩ (Nat.le_of_ble_eq_true rfl) ⟨rfl, rfl⟩ ⟨by decide, by decide⟩ ?_
    rintro r n' m' ⟨rfl, rfl, J, rfl, hJ, hM⟩
    have hmr : J 131 (sc t) = mrV d (cs (sc t)) (alM I d (sc t)) := (hM.2.2.2.2.1.2.2.2.1 _ (hsc t ht).1).2
    have hal := hM.2.2.2.2.2.1 (sc t)
    refine aE_aload_n dX12_ride_19 rfl rfl ?_
    refine aE_getf (v := .ref 131) dX12_ride_20 fw_X12_105 (lt_nn (by decide)) rfl rfl ?_
    refine aE_aload_n dX12_ride_23 rfl rfl ?_
    refine aE_getf (v := .ref 110) dX12_ride_24 fw_X12_42 (lt_nn (by decide)) rfl rfl ?_
    refine aE_iload_n dX12_ride_27 rfl rfl ?_
    refine aE_ildM dX12_ride_28 (lt_nn (by decide)) rfl (by decide) rfl ht10 ?_
    refine aE_top ((hJ.1 110 t (by omega) (by omega)).trans (hsc t ht).2) ?_
    refine aE_ildM dX12_ride_29 (lt_nn (by decide)) rfl (by decide) rfl hsc4 ?_
    refine aE_top hmr ?_
    refine aE_if_ge (tgt := 42) dX12_ride_30 (by decide) (fun h30 => ?_) (fun h30 => ?_)
    · skip
      refine aE_aload_n dX12_ride_42 rfl rfl ?_
      refine aE_iload_n dX12_ride_43 rfl rfl ?_
      refine aE_cVi dX12_ride_44 lk_X12_253 mv_X12_rideOf (m_rideOf ns d cs (alM I d) t hM ht) rfl (lt_nn (by decide)) rfl rfl ⟨by decide, by decide⟩ (Nat.le_of_ble_eq_true rfl) ⟨rfl, rfl⟩ ⟨by decide, by decide⟩ ?_
      refine aE_iret dX12_ride_47 rfl ⟨by decide, by decide⟩ ?_
      first
        | exact hN t J ht rfl hJ hM ((mrV_neg hal).mp (Int32.not_le.mp h30))
        | exact hO t J ht rfl hJ hM (Classical.not_not.mp (fun q => absurd ((mrV_neg hal).mpr q) (Int32.not_lt.mpr h30)))
    · skip
      refine aE_aload_n dX12_ride_33 rfl rfl ?_
      refine aE_ldc dX12_ride_34 ct_X12_197 ?_
      refine aE_cVi dX12_ride_36 lk_X12_177 mv_X12_finds (c_finds _) rfl (lt_nn (by decide)) rfl rfl ⟨by decide, by decide⟩ (Nat.le_of_ble_eq_true rfl) ⟨rfl, rfl⟩ ⟨by decide, by decide⟩ ?_
      refine aE_goto (tgt := 47) dX12_ride_39 (by decide) ?_
      refine aE_iret dX12_ride_47 rfl ⟨by decide, by decide⟩ ?_
      first
        | exact hN t J ht rfl hJ hM ((mrV_neg hal).mp (Int32.not_le.mp h30))
        | exact hO t J ht rfl hJ hM (Classical.not_not.mp (fun q => absurd ((mrV_neg hal).mpr q) (Int32.not_lt.mpr h30)))
  · skip
    refine aE_aload_n dX12_ride_8 rfl rfl ?_
    refine aE_ldc dX12_ride_9 ct_X12_185 ?_
    refine aE_cVi dX12_ride_11 lk_X12_177 mv_X12_finds (c_finds _) rfl (lt_nn (by decide)) rfl rfl ⟨by decide, by decide⟩ (Nat.le_of_ble_eq_true rfl) ⟨rfl, rfl⟩ ⟨by decide, by decide⟩ ?_
    refine aE_iret dX12_ride_14 rfl ⟨by decide, by decide⟩ ?_
    exact hB (by first | exact h5 | exact Classical.not_not.mp h5)

set_option maxRecDepth 20000 in
theorem m_all  (ns nstr nc : Nat) (d : pD) (cs : Nat → pC) (fr to : Nat → Nat) (hW : MW I ns nstr nc d cs fr to) (hst : ¬ I 101 29 = 0 → PlM I d cs (alM I d) ns) (hN : ∀ J, FrP I J → MS J ns d cs (alM I d) → allH d cs (alM I d) ns = false → qi Q (-1000004) (fndM J) sp pl) (hO : ∀ J, FrP I J → MS J ns d cs (alM I d) → allH d cs (alM I d) ns = true → qi Q (nI (RR d cs (alM I d) ns).length) J sp pl) : aRuns mX12_all (rK 5) [.ref 101] (nn pl) (MM I sp pl) Q := by
  refine aRuns_of pn_X12_all (Nat.le_of_ble_eq_true rfl) (fun z => aE_loc (ls' := [_]) rfl ?_)
  refine aE_aload_n dX12_all_0 rfl rfl ?_
  refine aE_cVq dX12_all_1 lk_X12_243 mv_X12_plan (m_planS (Q := (fun (r : Option Value) (n' : Nat) (m' : aM) => r = none ∧ n' = nn pl ∧ ∃ J, m' = MM J sp pl ∧ FrP I J ∧ MS J ns d cs (alM I d))) ns nstr nc d cs fr to hW hst (fun J h1 h2 => ⟨rfl, rfl, J, rfl, h1, h2⟩)) rfl (lt_nn (by decide)) rfl rfl ⟨by decide, by decide⟩ (Nat.le_of_ble_eq_true rfl) ⟨rfl, rfl⟩ ⟨by decide, by decide⟩ ?_
  rintro r n' m' ⟨rfl, rfl, J, rfl, hJ, hM⟩
  have hha : J 101 43 = if allH d cs (alM I d) ns then 1 else 0 := hM.2.2.2.2.1.2.2.2.2
  have hll : J 101 42 = nI (RR d cs (alM I d) ns).length := hM.2.2.2.2.1.2.2.1.1
  have hl10 := hM.2.2.2.2.2.2.1
  refine aE_aload_n dX12_all_4 rfl rfl ?_
  refine aE_geti dX12_all_5 fw_X12_233 (lt_nn (by decide)) rfl (by decide) rfl ?_
  refine aE_top hha ?_
  refine aE_if_eq (tgt := 18) dX12_all_8 (by decide) (fun h8 => ?_) (fun h8 => ?_)
  · skip
    refine aE_aload_n dX12_all_18 rfl rfl ?_
    refine aE_ldc dX12_all_19 ct_X12_197 ?_
    refine aE_cVi dX12_all_21 lk_X12_177 mv_X12_finds (c_finds _) rfl (lt_nn (by decide)) rfl rfl ⟨by decide, by decide⟩ (Nat.le_of_ble_eq_true rfl) ⟨rfl, rfl⟩ ⟨by decide, by decide⟩ ?_
    refine aE_iret dX12_all_24 rfl ⟨by decide, by decide⟩ ?_
    first | exact hN J hJ hM (Bool.eq_false_iff.mpr (fun q => by rw [if_pos q] at h8; exact absurd h8 (by decide))) | exact hO J hJ hM (Classical.byContradiction (fun q => by rw [if_neg q] at h8; exact h8 rfl))
  · skip
    refine aE_aload_n dX12_all_11 rfl rfl ?_
    refine aE_geti dX12_all_12 fw_X12_230 (lt_nn (by decide)) rfl (by decide) rfl ?_
    refine aE_top hll ?_
    refine aE_goto (tgt := 24) dX12_all_15 (by decide) ?_
    refine aE_iret dX12_all_24 rfl ⟨by decide, by decide⟩ ?_
    first | exact hN J hJ hM (Bool.eq_false_iff.mpr (fun q => by rw [if_pos q] at h8; exact absurd h8 (by decide))) | exact hO J hJ hM (Classical.byContradiction (fun q => by rw [if_neg q] at h8; exact h8 rfl))

set_option maxRecDepth 20000 in
theorem m_start (v : Int32) (ns nstr nc : Nat) (d : pD) (cs : Nat → pC) (fr to : Nat → Nat) (hW : MW I ns nstr nc d cs fr to) (hst : ¬ I 101 29 = 0 → PlM I d cs (alM I d) ns) (hB : v < 0 → qi Q (-1000001) (fndM I) sp pl) (hN : ∀ J, 0 ≤ v → FrP I J → MS J ns d cs (alM I d) → (allH d cs (alM I d) ns = false ∨ nI (RR d cs (alM I d) ns).length ≤ v) → qi Q (-1000004) (fndM (ataI J 4)) sp pl) (hO : ∀ r s S J, v = nI r → (RR d cs (alM I d) ns)[r]? = some (s, S) → FrP I J → MS J ns d cs (alM I d) → allH d cs (alM I d) ns = true → qi Q (st1 d cs (fun s => J 108 s) (s, S)) (ataI J 4) sp pl) : aRuns mX12_start (rK 5) [.ref 101, .int v] (nn pl) (MM I sp pl) Q := by
  refine aRuns_of pn_X12_start (Nat.le_of_ble_eq_true rfl) (fun z => aE_loc (ls' := [_, _]) rfl ?_)
  refine aE_iload_n dX12_start_0 rfl rfl ?_
  refine aE_if_ge (tgt := 11) dX12_start_1 (by decide) (fun h1 => ?_) (fun h1 => ?_)
  · skip
    refine aE_aload_n dX12_start_11 rfl rfl ?_
    refine aE_cVq dX12_start_12 lk_X12_243 mv_X12_plan (m_planS (Q := (fun (r : Option Value) (n' : Nat) (m' : aM) => r = none ∧ n' = nn pl ∧ ∃ J, m' = MM J sp pl ∧ FrP I J ∧ MS J ns d cs (alM I d))) ns nstr nc d cs fr to hW hst (fun J h1 h2 => ⟨rfl, rfl, J, rfl, h1, h2⟩)) rfl (lt_nn (by decide)) rfl rfl ⟨by decide, by decide⟩ (Nat.le_of_ble_eq_true rfl) ⟨rfl, rfl⟩ ⟨by decide, by decide⟩ ?_
    rintro r n' m' ⟨rfl, rfl, J, rfl, hJ, hM⟩
    have hha : J 101 43 = if allH d cs (alM I d) ns then 1 else 0 := hM.2.2.2.2.1.2.2.2.2
    have hll : J 101 42 = nI (RR d cs (alM I d) ns).length := hM.2.2.2.2.1.2.2.1.1
    have hl10 := hM.2.2.2.2.2.2.1
    refine aE_aload_n dX12_start_15 rfl rfl ?_
    refine aE_cVv dX12_start_16 lk_X12_262 mv_X12_asTheyAre (m_ata) rfl (lt_nn (by decide)) rfl rfl ⟨by decide, by decide⟩ (Nat.le_of_ble_eq_true rfl) ⟨rfl, rfl⟩ ⟨by decide, by decide⟩ ?_
    have hM2 := ataI_MS hM
    have hha2 : ataI J 4 101 43 = if allH d cs (alM I d) ns then 1 else 0 := (ataI_ne (by decide) 4).trans hha
    have hll2 : ataI J 4 101 42 = nI (RR d cs (alM I d) ns).length := (ataI_ne (by decide) 4).trans hll
    refine aE_aload_n dX12_start_19 rfl rfl ?_
    refine aE_geti dX12_start_20 fw_X12_233 (lt_nn (by decide)) rfl (by decide) rfl ?_
    refine aE_top hha2 ?_
    refine aE_if_eq (tgt := 42) dX12_start_23 (by decide) (fun h23 => ?_) (fun h23 => ?_)
    · skip
      refine aE_aload_n dX12_start_42 rfl rfl ?_
      refine aE_ldc dX12_start_43 ct_X12_197 ?_
      refine aE_cVi dX12_start_45 lk_X12_177 mv_X12_finds (c_finds _) rfl (lt_nn (by decide)) rfl rfl ⟨by decide, by decide⟩ (Nat.le_of_ble_eq_true rfl) ⟨rfl, rfl⟩ ⟨by decide, by decide⟩ ?_
      refine aE_iret dX12_start_48 rfl ⟨by decide, by decide⟩ ?_
      first | exact hN J h1 hJ hM (Or.inl (Bool.eq_false_iff.mpr (fun q => by rw [if_pos q] at h23; exact absurd h23 (by decide)))) | exact hN J h1 hJ hM (Or.inr h31) | exact hO r sr Sr J rfl hgr hJ hM (Classical.byContradiction (fun q => by rw [if_neg q] at h23; exact h23 rfl))
    · skip
      refine aE_iload_n dX12_start_26 rfl rfl ?_
      refine aE_aload_n dX12_start_27 rfl rfl ?_
      refine aE_geti dX12_start_28 fw_X12_230 (lt_nn (by decide)) rfl (by decide) rfl ?_
      refine aE_top hll2 ?_
      refine aE_icmp_ge (tgt := 42) dX12_start_31 (by decide) (fun h31 => ?_) (fun h31 => ?_)
      · skip
        refine aE_aload_n dX12_start_42 rfl rfl ?_
        refine aE_ldc dX12_start_43 ct_X12_197 ?_
        refine aE_cVi dX12_start_45 lk_X12_177 mv_X12_finds (c_finds _) rfl (lt_nn (by decide)) rfl rfl ⟨by decide, by decide⟩ (Nat.le_of_ble_eq_true rfl) ⟨rfl, rfl⟩ ⟨by decide, by decide⟩ ?_
        refine aE_iret dX12_start_48 rfl ⟨by decide, by decide⟩ ?_
        first | exact hN J h1 hJ hM (Or.inl (Bool.eq_false_iff.mpr (fun q => by rw [if_pos q] at h23; exact absurd h23 (by decide)))) | exact hN J h1 hJ hM (Or.inr h31) | exact hO r sr Sr J rfl hgr hJ hM (Classical.byContradiction (fun q => by rw [if_neg q] at h23; exact h23 rfl))
      · skip
        obtain ⟨r, hnr, rfl⟩ := nI_of (Int32.not_lt.mpr h1)
        have hr : r < (RR d cs (alM I d) ns).length := (nI_ltI hnr (by omega)).mp (Int32.not_le.mp h31)
        obtain ⟨sr, Sr, hpr⟩ : ∃ s S, rt0 (RR d cs (alM I d) ns) r = (s, S) := ⟨_, _, rfl⟩
        have hgr := rt0_ex hr
        rw [hpr] at hgr
        refine aE_aload_n dX12_start_34 rfl rfl ?_
        refine aE_iload_n dX12_start_35 rfl rfl ?_
        refine aE_cVi dX12_start_36 lk_X12_259 mv_X12_startOf (m_startOf ns d cs (alM I d) (fun s => J 108 s) (fun s hs => ataI_at 4 s hs) r sr Sr hM2 hgr) rfl (lt_nn (by decide)) rfl rfl ⟨by decide, by decide⟩ (Nat.le_of_ble_eq_true rfl) ⟨rfl, rfl⟩ ⟨by decide, by decide⟩ ?_
        refine aE_goto (tgt := 48) dX12_start_39 (by decide) ?_
        refine aE_iret dX12_start_48 rfl ⟨by decide, by decide⟩ ?_
        first | exact hN J h1 hJ hM (Or.inl (Bool.eq_false_iff.mpr (fun q => by rw [if_pos q] at h23; exact absurd h23 (by decide)))) | exact hN J h1 hJ hM (Or.inr h31) | exact hO r sr Sr J rfl hgr hJ hM (Classical.byContradiction (fun q => by rw [if_neg q] at h23; exact h23 rfl))
  · skip
    refine aE_aload_n dX12_start_4 rfl rfl ?_
    refine aE_ldc dX12_start_5 ct_X12_185 ?_
    refine aE_cVi dX12_start_7 lk_X12_177 mv_X12_finds (c_finds _) rfl (lt_nn (by decide)) rfl rfl ⟨by decide, by decide⟩ (Nat.le_of_ble_eq_true rfl) ⟨rfl, rfl⟩ ⟨by decide, by decide⟩ ?_
    refine aE_iret dX12_start_10 rfl ⟨by decide, by decide⟩ ?_
    exact hB (Int32.not_le.mp h1)

set_option maxRecDepth 20000 in
theorem m_follows (a b : Int32) (ns nstr nc : Nat) (d : pD) (cs : Nat → pC) (fr to : Nat → Nat) (hW : MW I ns nstr nc d cs fr to) (hst : ¬ I 101 29 = 0 → PlM I d cs (alM I d) ns) (hB : (a < 0 ∨ b < 0 ∨ a = b) → qi Q (-1000001) (fndM I) sp pl) (hN : ∀ J, ¬ a < 0 → ¬ b < 0 → ¬ a = b → FrP I J → MS J ns d cs (alM I d) → (allH d cs (alM I d) ns = false ∨ nI (RR d cs (alM I d) ns).length ≤ a ∨ nI (RR d cs (alM I d) ns).length ≤ b) → qi Q (-1000004) (fndM (ataI J 4)) sp pl) (hO : ∀ r q s S s' S' v J, a = nI r → b = nI q → ¬ a = b → (RR d cs (alM I d) ns)[r]? = some (s, S) → (RR d cs (alM I d) ns)[q]? = some (s', S') → FrP I J → MS J ns d cs (alM I d) → allH d cs (alM I d) ns = true → v = (if cf1 d cs (fun s => J 108 s) (J 101 9) s (s', S') then (1 : Int32) else 0) → qi Q v (ataI J 4) sp pl) : aRuns mX12_follows (rK 5) [.ref 101, .int a, .int b] (nn pl) (MM I sp pl) Q := by
  refine aRuns_of pn_X12_follows (Nat.le_of_ble_eq_true rfl) (fun z => aE_loc (ls' := [_, _, _]) rfl ?_)
  refine aE_iload_n dX12_follows_0 rfl rfl ?_
  refine aE_if_lt (tgt := 13) dX12_follows_1 (by decide) (fun h1 => ?_) (fun h1 => ?_)
  · skip
    refine aE_aload_n dX12_follows_13 rfl rfl ?_
    refine aE_ldc dX12_follows_14 ct_X12_185 ?_
    refine aE_cVi dX12_follows_16 lk_X12_177 mv_X12_finds (c_finds _) rfl (lt_nn (by decide)) rfl rfl ⟨by decide, by decide⟩ (Nat.le_of_ble_eq_true rfl) ⟨rfl, rfl⟩ ⟨by decide, by decide⟩ ?_
    refine aE_iret dX12_follows_19 rfl ⟨by decide, by decide⟩ ?_
    refine hB ?_
    first | exact Or.inl h1 | exact Or.inr (Or.inl h5) | exact Or.inr (Or.inr (by first | exact h10 | exact Classical.not_not.mp h10))
  · skip
    refine aE_iload_n dX12_follows_4 rfl rfl ?_
    refine aE_if_lt (tgt := 13) dX12_follows_5 (by decide) (fun h5 => ?_) (fun h5 => ?_)
    · skip
      refine aE_aload_n dX12_follows_13 rfl rfl ?_
      refine aE_ldc dX12_follows_14 ct_X12_185 ?_
      refine aE_cVi dX12_follows_16 lk_X12_177 mv_X12_finds (c_finds _) rfl (lt_nn (by decide)) rfl rfl ⟨by decide, by decide⟩ (Nat.le_of_ble_eq_true rfl) ⟨rfl, rfl⟩ ⟨by decide, by decide⟩ ?_
      refine aE_iret dX12_follows_19 rfl ⟨by decide, by decide⟩ ?_
      refine hB ?_
      first | exact Or.inl h1 | exact Or.inr (Or.inl h5) | exact Or.inr (Or.inr (by first | exact h10 | exact Classical.not_not.mp h10))
    · skip
      refine aE_iload_n dX12_follows_8 rfl rfl ?_
      refine aE_iload_n dX12_follows_9 rfl rfl ?_
      refine aE_icmp_ne (tgt := 20) dX12_follows_10 (by decide) (fun h10 => ?_) (fun h10 => ?_)
      · skip
        refine aE_aload_n dX12_follows_20 rfl rfl ?_
        refine aE_cVq dX12_follows_21 lk_X12_243 mv_X12_plan (m_planS (Q := (fun (r : Option Value) (n' : Nat) (m' : aM) => r = none ∧ n' = nn pl ∧ ∃ J, m' = MM J sp pl ∧ FrP I J ∧ MS J ns d cs (alM I d))) ns nstr nc d cs fr to hW hst (fun J h1 h2 => ⟨rfl, rfl, J, rfl, h1, h2⟩)) rfl (lt_nn (by decide)) rfl rfl ⟨by decide, by decide⟩ (Nat.le_of_ble_eq_true rfl) ⟨rfl, rfl⟩ ⟨by decide, by decide⟩ ?_
        rintro r n' m' ⟨rfl, rfl, J, rfl, hJ, hM⟩
        have hha : J 101 43 = if allH d cs (alM I d) ns then 1 else 0 := hM.2.2.2.2.1.2.2.2.2
        have hll : J 101 42 = nI (RR d cs (alM I d) ns).length := hM.2.2.2.2.1.2.2.1.1
        have hl10 := hM.2.2.2.2.2.2.1
        refine aE_aload_n dX12_follows_24 rfl rfl ?_
        refine aE_cVv dX12_follows_25 lk_X12_262 mv_X12_asTheyAre (m_ata) rfl (lt_nn (by decide)) rfl rfl ⟨by decide, by decide⟩ (Nat.le_of_ble_eq_true rfl) ⟨rfl, rfl⟩ ⟨by decide, by decide⟩ ?_
        have hM2 := ataI_MS hM
        have hha2 : ataI J 4 101 43 = if allH d cs (alM I d) ns then 1 else 0 := (ataI_ne (by decide) 4).trans hha
        have hll2 : ataI J 4 101 42 = nI (RR d cs (alM I d) ns).length := (ataI_ne (by decide) 4).trans hll
        refine aE_aload_n dX12_follows_28 rfl rfl ?_
        refine aE_geti dX12_follows_29 fw_X12_233 (lt_nn (by decide)) rfl (by decide) rfl ?_
        refine aE_top hha2 ?_
        refine aE_if_eq (tgt := 51) dX12_follows_32 (by decide) (fun h32 => ?_) (fun h32 => ?_)
        · skip
          refine aE_aload_n dX12_follows_51 rfl rfl ?_
          refine aE_ldc dX12_follows_52 ct_X12_197 ?_
          refine aE_cVi dX12_follows_54 lk_X12_177 mv_X12_finds (c_finds _) rfl (lt_nn (by decide)) rfl rfl ⟨by decide, by decide⟩ (Nat.le_of_ble_eq_true rfl) ⟨rfl, rfl⟩ ⟨by decide, by decide⟩ ?_
          refine aE_iret dX12_follows_57 rfl ⟨by decide, by decide⟩ ?_
          first | exact hN J h1 h5 h10 hJ hM (Or.inl (Bool.eq_false_iff.mpr (fun q => by rw [if_pos q] at h32; exact absurd h32 (by decide)))) | exact hN J h1 h5 h10 hJ hM (Or.inr (Or.inl h40)) | exact hN J h1 h5 h10 hJ hM (Or.inr (Or.inr (Int32.not_lt.mp h48)))
        · skip
          refine aE_iload_n dX12_follows_35 rfl rfl ?_
          refine aE_aload_n dX12_follows_36 rfl rfl ?_
          refine aE_geti dX12_follows_37 fw_X12_230 (lt_nn (by decide)) rfl (by decide) rfl ?_
          refine aE_top hll2 ?_
          refine aE_icmp_ge (tgt := 51) dX12_follows_40 (by decide) (fun h40 => ?_) (fun h40 => ?_)
          · skip
            refine aE_aload_n dX12_follows_51 rfl rfl ?_
            refine aE_ldc dX12_follows_52 ct_X12_197 ?_
            refine aE_cVi dX12_follows_54 lk_X12_177 mv_X12_finds (c_finds _) rfl (lt_nn (by decide)) rfl rfl ⟨by decide, by decide⟩ (Nat.le_of_ble_eq_true rfl) ⟨rfl, rfl⟩ ⟨by decide, by decide⟩ ?_
            refine aE_iret dX12_follows_57 rfl ⟨by decide, by decide⟩ ?_
            first | exact hN J h1 h5 h10 hJ hM (Or.inl (Bool.eq_false_iff.mpr (fun q => by rw [if_pos q] at h32; exact absurd h32 (by decide)))) | exact hN J h1 h5 h10 hJ hM (Or.inr (Or.inl h40)) | exact hN J h1 h5 h10 hJ hM (Or.inr (Or.inr (Int32.not_lt.mp h48)))
          · skip
            refine aE_iload_n dX12_follows_43 rfl rfl ?_
            refine aE_aload_n dX12_follows_44 rfl rfl ?_
            refine aE_geti dX12_follows_45 fw_X12_230 (lt_nn (by decide)) rfl (by decide) rfl ?_
            refine aE_top hll2 ?_
            refine aE_icmp_lt (tgt := 58) dX12_follows_48 (by decide) (fun h48 => ?_) (fun h48 => ?_)
            · skip
              obtain ⟨r, hnr, rfl⟩ := nI_of h1
              have hr : r < (RR d cs (alM I d) ns).length := (nI_ltI hnr (by omega)).mp (Int32.not_le.mp h40)
              obtain ⟨sr, Sr, hpr⟩ : ∃ s S, rt0 (RR d cs (alM I d) ns) r = (s, S) := ⟨_, _, rfl⟩
              have hgr := rt0_ex hr
              rw [hpr] at hgr
              obtain ⟨q, hnq, rfl⟩ := nI_of h5
              have hq : q < (RR d cs (alM I d) ns).length := (nI_ltI hnq (by omega)).mp h48
              obtain ⟨sq, Sq, hpq⟩ : ∃ s S, rt0 (RR d cs (alM I d) ns) q = (s, S) := ⟨_, _, rfl⟩
              have hgq := rt0_ex hq
              rw [hpq] at hgq
              refine aE_aload_n dX12_follows_58 rfl rfl ?_
              refine aE_iload_n dX12_follows_59 rfl rfl ?_
              refine aE_iload_n dX12_follows_60 rfl rfl ?_
              refine aE_cVi dX12_follows_61 lk_X12_265 mv_X12_canFollow (m_canFollow ns d cs (alM I d) (fun s => J 108 s) (fun s hs => ataI_at 4 s hs) (J 101 9) (ataI_ne (by decide) 4) r q sr Sr sq Sq hM2 hgr hgq) rfl (lt_nn (by decide)) rfl rfl ⟨by decide, by decide⟩ (Nat.le_of_ble_eq_true rfl) ⟨rfl, rfl⟩ ⟨by decide, by decide⟩ ?_
              refine aE_if_eq (tgt := 71) dX12_follows_64 (by decide) (fun h64 => ?_) (fun h64 => ?_)
              · skip
                refine aE_iconst (v := 0) dX12_follows_71 rfl ?_
                refine aE_iret dX12_follows_72 rfl ⟨by decide, by decide⟩ ?_
                have hah := (Classical.byContradiction (fun q => by rw [if_neg q] at h32; exact h32 rfl))
                first | exact hO r q sr Sr sq Sq 0 J rfl rfl h10 hgr hgq hJ hM hah (by rw [h64]) | exact hO r q sr Sr sq Sq 1 J rfl rfl h10 hgr hgq hJ hM hah (by split at h64; rw [if_pos ‹_›]; exact absurd rfl h64)
              · skip
                refine aE_iconst (v := 1) dX12_follows_67 rfl ?_
                refine aE_goto (tgt := 72) dX12_follows_68 (by decide) ?_
                refine aE_iret dX12_follows_72 rfl ⟨by decide, by decide⟩ ?_
                have hah := (Classical.byContradiction (fun q => by rw [if_neg q] at h32; exact h32 rfl))
                first | exact hO r q sr Sr sq Sq 0 J rfl rfl h10 hgr hgq hJ hM hah (by rw [h64]) | exact hO r q sr Sr sq Sq 1 J rfl rfl h10 hgr hgq hJ hM hah (by split at h64; rw [if_pos ‹_›]; exact absurd rfl h64)
            · skip
              refine aE_aload_n dX12_follows_51 rfl rfl ?_
              refine aE_ldc dX12_follows_52 ct_X12_197 ?_
              refine aE_cVi dX12_follows_54 lk_X12_177 mv_X12_finds (c_finds _) rfl (lt_nn (by decide)) rfl rfl ⟨by decide, by decide⟩ (Nat.le_of_ble_eq_true rfl) ⟨rfl, rfl⟩ ⟨by decide, by decide⟩ ?_
              refine aE_iret dX12_follows_57 rfl ⟨by decide, by decide⟩ ?_
              first | exact hN J h1 h5 h10 hJ hM (Or.inl (Bool.eq_false_iff.mpr (fun q => by rw [if_pos q] at h32; exact absurd h32 (by decide)))) | exact hN J h1 h5 h10 hJ hM (Or.inr (Or.inl h40)) | exact hN J h1 h5 h10 hJ hM (Or.inr (Or.inr (Int32.not_lt.mp h48)))
      · skip
        refine aE_aload_n dX12_follows_13 rfl rfl ?_
        refine aE_ldc dX12_follows_14 ct_X12_185 ?_
        refine aE_cVi dX12_follows_16 lk_X12_177 mv_X12_finds (c_finds _) rfl (lt_nn (by decide)) rfl rfl ⟨by decide, by decide⟩ (Nat.le_of_ble_eq_true rfl) ⟨rfl, rfl⟩ ⟨by decide, by decide⟩ ?_
        refine aE_iret dX12_follows_19 rfl ⟨by decide, by decide⟩ ?_
        refine hB ?_
        first | exact Or.inl h1 | exact Or.inr (Or.inl h5) | exact Or.inr (Or.inr (by first | exact h10 | exact Classical.not_not.mp h10))

end MPUB
