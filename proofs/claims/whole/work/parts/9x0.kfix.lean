section KFMROU2
variable {z : Nat × (Nat → Int32)} {n : Nat} {mem : aM} {I : Nat → Nat → Int32} {sp : Nat → Nat} {pl : Bool} {Q : Option Value → Nat → aM → Prop} {R : Room}
set_option maxRecDepth 20000 in
theorem m_rou2 (v i k : Int32) (ns nstr nc : Nat) (d : pD) (cs : Nat → pC) (fr to : Nat → Nat) (hW : MW I ns nstr nc d cs fr to) (hst : ¬ I 101 29 = 0 → PlM I d cs (alM I d) ns) (hB : (wi v 0 (I 101 2 - 1) = 0 ∨ i < 0 ∨ k < -1) → qi Q (-1000001) (fndM I) sp pl) (hN : ∀ s J, s < ns → v = nI s → ¬ i < 0 → ¬ k < -1 → FrP I J → MS J ns d cs (alM I d) → (¬ (pS d (cs s) (alM I d s)).1 < 1000000 ∨ (pS d (cs s) (alM I d s)).1 ≤ i) → qi Q (-1000004) (fndM J) sp pl) (hL : ∀ s J ii S, s < ns → v = nI s → i = nI ii → FrP I J → MS J ns d cs (alM I d) → (RLs d (cs s) (alM I d s))[ii]? = some S → k = -1 → qi Q (lS d (cs s) S) J sp pl) (hO : ∀ s J ii S kk, s < ns → v = nI s → i = nI ii → kk < 2 ^ 31 → k = nI kk → FrP I J → MS J ns d cs (alM I d) → (RLs d (cs s) (alM I d s))[ii]? = some S → qi Q (rv (oS d (cs s) S (min kk 10)).2) J sp pl) : aRuns mX12_route (rK 5) [.ref 101, .int v, .int i, .int k] (nn pl) (MM I sp pl) Q := by
  refine aRuns_of pn_X12_route (Nat.le_of_ble_eq_true rfl) (fun z => aE_loc (ls' := [_, _, _, _, _]) rfl ?_)
  refine aE_aload_n dX12_route_0 rfl rfl ?_
  refine aE_iload_n dX12_route_1 rfl rfl ?_
  refine aE_cVi dX12_route_2 lk_X12_198 mv_X12_isSchool (c_isSchool _) rfl (lt_nn (by decide)) rfl rfl ⟨by decide, by decide⟩ (Nat.le_of_ble_eq_true rfl) ⟨rfl, rfl⟩ ⟨by decide, by decide⟩ ?_
  refine aE_if_eq (tgt := 17) dX12_route_5 (by decide) (fun h5 => ?_) (fun h5 => ?_)
  · skip
    refine aE_aload_n dX12_route_17 rfl rfl ?_
    refine aE_ldc dX12_route_18 ct_X12_185 ?_
    refine aE_cVi dX12_route_20 lk_X12_177 mv_X12_finds (c_finds _) rfl (lt_nn (by decide)) rfl rfl ⟨by decide, by decide⟩ (Nat.le_of_ble_eq_true rfl) ⟨rfl, rfl⟩ ⟨by decide, by decide⟩ ?_
    refine aE_iret dX12_route_23 rfl ⟨by decide, by decide⟩ ?_
    refine hB ?_
    first | exact Or.inl h5 | exact Or.inr (Or.inl h9) | exact Or.inr (Or.inr (Int32.not_le.mp h14))
  · skip
    refine aE_iload_n dX12_route_8 rfl rfl ?_
    refine aE_if_lt (tgt := 17) dX12_route_9 (by decide) (fun h9 => ?_) (fun h9 => ?_)
    · skip
      refine aE_aload_n dX12_route_17 rfl rfl ?_
      refine aE_ldc dX12_route_18 ct_X12_185 ?_
      refine aE_cVi dX12_route_20 lk_X12_177 mv_X12_finds (c_finds _) rfl (lt_nn (by decide)) rfl rfl ⟨by decide, by decide⟩ (Nat.le_of_ble_eq_true rfl) ⟨rfl, rfl⟩ ⟨by decide, by decide⟩ ?_
      refine aE_iret dX12_route_23 rfl ⟨by decide, by decide⟩ ?_
      refine hB ?_
      first | exact Or.inl h5 | exact Or.inr (Or.inl h9) | exact Or.inr (Or.inr (Int32.not_le.mp h14))
    · skip
      refine aE_iload_n dX12_route_12 rfl rfl ?_
      refine aE_iconst (v := -1) dX12_route_13 rfl ?_
      refine aE_icmp_ge (tgt := 24) dX12_route_14 (by decide) (fun h14 => ?_) (fun h14 => ?_)
      · skip
        obtain ⟨s, hs, rfl⟩ := wi_ix (m := ns) (by have := hW.2.1; omega) (hW.1 ▸ h5)
        have hs4 : s < 4 := by have := hW.2.1; omega
        refine aE_aload_n dX12_route_24 rfl rfl ?_
        refine aE_cVq dX12_route_25 lk_X12_243 mv_X12_plan (m_planS (Q := (fun (r : Option Value) (n' : Nat) (m' : aM) => r = none ∧ n' = nn pl ∧ ∃ J, m' = MM J sp pl ∧ FrP I J ∧ MS J ns d cs (alM I d))) ns nstr nc d cs fr to hW hst (fun J h1 h2 => ⟨rfl, rfl, J, rfl, h1, h2⟩)) rfl (lt_nn (by decide)) rfl rfl ⟨by decide, by decide⟩ (Nat.le_of_ble_eq_true rfl) ⟨rfl, rfl⟩ ⟨by decide, by decide⟩ ?_
        rintro r n' m' ⟨rfl, rfl, J, rfl, hJ, hM⟩
        have hmr : J 131 s = mrV d (cs s) (alM I d s) := (hM.2.2.2.2.1.2.2.2.1 s hs).2
        have hfr : J 130 s = nI (RR d cs (alM I d) s).length := (hM.2.2.2.2.1.2.2.2.1 s hs).1
        have hal := hM.2.2.2.2.2.1 s
        refine aE_aload_n dX12_route_28 rfl rfl ?_
        refine aE_getf (v := .ref 131) dX12_route_29 fw_X12_105 (lt_nn (by decide)) rfl rfl ?_
        refine aE_iload_n dX12_route_32 rfl rfl ?_
        refine aE_ildM dX12_route_33 (lt_nn (by decide)) rfl (by decide) rfl hs4 ?_
        refine aE_top hmr ?_
        refine aE_if_lt (tgt := 47) dX12_route_34 (by decide) (fun h34 => ?_) (fun h34 => ?_)
        · skip
          refine aE_aload_n dX12_route_47 rfl rfl ?_
          refine aE_ldc dX12_route_48 ct_X12_197 ?_
          refine aE_cVi dX12_route_50 lk_X12_177 mv_X12_finds (c_finds _) rfl (lt_nn (by decide)) rfl rfl ⟨by decide, by decide⟩ (Nat.le_of_ble_eq_true rfl) ⟨rfl, rfl⟩ ⟨by decide, by decide⟩ ?_
          refine aE_iret dX12_route_53 rfl ⟨by decide, by decide⟩ ?_
          first | exact hN s J hs rfl h9 (Int32.not_lt.mpr h14) hJ hM (Or.inl ((mrV_neg hal).mp h34)) | exact hN s J hs rfl h9 (Int32.not_lt.mpr h14) hJ hM (Or.inr (by rw [hmv] at h44; exact Int32.not_lt.mp h44))
        · skip
          have hp : (pS d (cs s) (alM I d s)).1 < 1000000 := Classical.not_not.mp (fun q => absurd ((mrV_neg hal).mpr q) h34)
          have hmv : mrV d (cs s) (alM I d s) = (pS d (cs s) (alM I d s)).1 := if_pos hp
          refine aE_iload_n dX12_route_37 rfl rfl ?_
          refine aE_aload_n dX12_route_38 rfl rfl ?_
          refine aE_getf (v := .ref 131) dX12_route_39 fw_X12_105 (lt_nn (by decide)) rfl rfl ?_
          refine aE_iload_n dX12_route_42 rfl rfl ?_
          refine aE_ildM dX12_route_43 (lt_nn (by decide)) rfl (by decide) rfl hs4 ?_
          refine aE_top hmr ?_
          refine aE_icmp_lt (tgt := 54) dX12_route_44 (by decide) (fun h44 => ?_) (fun h44 => ?_)
          · skip
            obtain ⟨m, hm⟩ := pB_lt hal hp
            have hm10 : m ≤ 10 := Nat.le_trans hm.1 (cdB_bound _ 10)
            have hpm : (pS d (cs s) (alM I d s)).1 = nI m := hm.2.1
            obtain ⟨ii, hi31, rfl⟩ := nI_of h9
            have him : ii < m := (nI_ltI hi31 (by omega)).mp (by rw [hmv, hpm] at h44; exact h44)
            have hlen : (RLs d (cs s) (alM I d s)).length = m := by unfold RLs; rw [if_pos hp]; exact rtL_len 10 _ m hal hm10 hm
            obtain ⟨S, hS⟩ : ∃ S, (RLs d (cs s) (alM I d s))[ii]? = some S := ⟨_, List.getElem?_eq_getElem (by omega)⟩
            have hget := RR_get (k := ns) hs hS
            obtain ⟨k1, k2, k3, k4, k5, k6, k7, k8, k9⟩ := MS_rt hM hget
            refine aE_aload_n dX12_route_54 rfl rfl ?_
            refine aE_getf (v := .ref 130) dX12_route_55 fw_X12_102 (lt_nn (by decide)) rfl rfl ?_
            refine aE_iload_n dX12_route_58 rfl rfl ?_
            refine aE_ildM dX12_route_59 (lt_nn (by decide)) rfl (by decide) rfl hs4 ?_
            refine aE_top hfr ?_
            refine aE_iload_n dX12_route_60 rfl rfl ?_
            refine aE_iadd dX12_route_61 ?_
            refine aE_top (nI_add _ _) ?_
            refine aE_istore dX12_route_62 (by decide) rfl (aE_loc (ls' := [_, _, _, _, _]) rfl ?_)
            refine aE_iload_n dX12_route_64 rfl rfl ?_
            refine aE_if_ge (tgt := 78) dX12_route_65 (by decide) (fun h65 => ?_) (fun h65 => ?_)
            · skip
              obtain ⟨kk, hk31, rfl⟩ := nI_of (Int32.not_lt.mpr h65)
              refine aE_aload_n dX12_route_78 rfl rfl ?_
              refine aE_iload dX12_route_79 rfl ?_
              refine aE_iload_n dX12_route_81 rfl rfl ?_
              refine aE_bipush (v := 10) dX12_route_82 (by decide) ?_
              refine aE_icmp_le (tgt := 92) dX12_route_84 (by decide) (fun h84 => ?_) (fun h84 => ?_)
              · skip
                refine aE_iload_n dX12_route_92 rfl rfl ?_
                refine aE_top (x' := nI (min kk 10)) (by
                  first
                    | exact congrArg nI (Nat.min_eq_left ((nI_leI hk31 (by decide)).mp h84)).symm
                    | exact (congrArg nI (Nat.min_eq_right (Nat.le_of_not_le (fun q => h84 ((nI_leI (b := 10) hk31 (by decide)).mpr q))))).symm) ?_
                refine aE_cVi dX12_route_93 lk_X12_250 mv_X12_stopOf (m_stopOf d (cs s) S _ (min kk 10) hM.2.2.1.1 k2 (fun R hR g h1 h2 => MS_tab hM hs (bsub_tr hR k4) h1 h2) k6 k7 (by omega)) rfl (lt_nn (by decide)) rfl rfl ⟨by decide, by decide⟩ (Nat.le_of_ble_eq_true rfl) ⟨rfl, rfl⟩ ⟨by decide, by decide⟩ ?_
                refine aE_iret dX12_route_96 rfl ⟨by decide, by decide⟩ ?_
                first | exact hL s J ii S hs rfl rfl hJ hM hS hk1 | exact hO s J ii S kk hs rfl rfl hk31 rfl hJ hM hS
              · skip
                refine aE_bipush (v := 10) dX12_route_87 (by decide) ?_
                refine aE_goto (tgt := 93) dX12_route_89 (by decide) ?_
                refine aE_top (x' := nI (min kk 10)) (by
                  first
                    | exact congrArg nI (Nat.min_eq_left ((nI_leI hk31 (by decide)).mp h84)).symm
                    | exact (congrArg nI (Nat.min_eq_right (Nat.le_of_not_le (fun q => h84 ((nI_leI (b := 10) hk31 (by decide)).mpr q))))).symm) ?_
                refine aE_cVi dX12_route_93 lk_X12_250 mv_X12_stopOf (m_stopOf d (cs s) S _ (min kk 10) hM.2.2.1.1 k2 (fun R hR g h1 h2 => MS_tab hM hs (bsub_tr hR k4) h1 h2) k6 k7 (by omega)) rfl (lt_nn (by decide)) rfl rfl ⟨by decide, by decide⟩ (Nat.le_of_ble_eq_true rfl) ⟨rfl, rfl⟩ ⟨by decide, by decide⟩ ?_
                refine aE_iret dX12_route_96 rfl ⟨by decide, by decide⟩ ?_
                first | exact hL s J ii S hs rfl rfl hJ hM hS hk1 | exact hO s J ii S kk hs rfl rfl hk31 rfl hJ hM hS
            · skip
              have hk1 : k = -1 := m1_of (Int32.not_lt.mpr h14) (Int32.not_le.mp h65)
              refine aE_aload_n dX12_route_68 rfl rfl ?_
              refine aE_getf (v := .ref 129) dX12_route_69 fw_X12_99 (lt_nn (by decide)) rfl rfl ?_
              refine aE_iload dX12_route_72 rfl ?_
              refine aE_ildM dX12_route_74 (lt_nn (by decide)) rfl (by decide) rfl k6 ?_
              refine aE_top k9 ?_
              refine aE_goto (tgt := 96) dX12_route_75 (by decide) ?_
              refine aE_iret dX12_route_96 rfl ⟨by decide, by decide⟩ ?_
              first | exact hL s J ii S hs rfl rfl hJ hM hS hk1 | exact hO s J ii S kk hs rfl rfl hk31 rfl hJ hM hS
          · skip
            refine aE_aload_n dX12_route_47 rfl rfl ?_
            refine aE_ldc dX12_route_48 ct_X12_197 ?_
            refine aE_cVi dX12_route_50 lk_X12_177 mv_X12_finds (c_finds _) rfl (lt_nn (by decide)) rfl rfl ⟨by decide, by decide⟩ (Nat.le_of_ble_eq_true rfl) ⟨rfl, rfl⟩ ⟨by decide, by decide⟩ ?_
            refine aE_iret dX12_route_53 rfl ⟨by decide, by decide⟩ ?_
            first | exact hN s J hs rfl h9 (Int32.not_lt.mpr h14) hJ hM (Or.inl ((mrV_neg hal).mp h34)) | exact hN s J hs rfl h9 (Int32.not_lt.mpr h14) hJ hM (Or.inr (by rw [hmv] at h44; exact Int32.not_lt.mp h44))
      · skip
        refine aE_aload_n dX12_route_17 rfl rfl ?_
        refine aE_ldc dX12_route_18 ct_X12_185 ?_
        refine aE_cVi dX12_route_20 lk_X12_177 mv_X12_finds (c_finds _) rfl (lt_nn (by decide)) rfl rfl ⟨by decide, by decide⟩ (Nat.le_of_ble_eq_true rfl) ⟨rfl, rfl⟩ ⟨by decide, by decide⟩ ?_
        refine aE_iret dX12_route_23 rfl ⟨by decide, by decide⟩ ?_
        refine hB ?_
        first | exact Or.inl h5 | exact Or.inr (Or.inl h9) | exact Or.inr (Or.inr (Int32.not_le.mp h14))

end KFMROU2
section KFMCHA2
variable {z : Nat × (Nat → Int32)} {n : Nat} {mem : aM} {I : Nat → Nat → Int32} {sp : Nat → Nat} {pl : Bool} {Q : Option Value → Nat → aM → Prop} {R : Room}
set_option maxRecDepth 20000 in
theorem m_cha2 (v i : Int32) (dp : Nat → Nat) (ns nstr nc : Nat) (d : pD) (cs : Nat → pC) (fr to : Nat → Nat) (hW : MW I ns nstr nc d cs fr to) (hst : ¬ I 101 29 = 0 → PlM I d cs (alM I d) ns) (hdp : dpOK (nxG (mayF d cs (fun s => I 108 s) (I 101 9) (RR d cs (alM I d) ns)) (RR d cs (alM I d) ns).length) (RR d cs (alM I d) ns).length dp) (hB : (v < 0 ∨ i < 0) → qi Q (-1000001) (fndM I) sp pl) (hN0 : ∀ J, ¬ v < 0 → 0 ≤ i → FrP I J → MS J ns d cs (alM I d) → allH d cs (alM I d) ns = false → qi Q (-1000004) (fndM J) sp pl) (hN : ∀ K bb, bb < 2 ^ 31 → v = nI bb → MC I K ns d cs → allH d cs (alM I d) ns = true → kth (fun r => isF (nxG (mayF d cs (fun s => I 108 s) (I 101 9) (RR d cs (alM I d) ns)) (RR d cs (alM I d) ns).length) r (RR d cs (alM I d) ns).length) (RR d cs (alM I d) ns).length bb (RR d cs (alM I d) ns).length 0 = none → qi Q (-1000004) (fndM K) sp pl) (hO : ∀ K bb ii r, bb < 2 ^ 31 → ii < 2 ^ 31 → v = nI bb → i = nI ii → MC I K ns d cs → allH d cs (alM I d) ns = true → kth (fun r => isF (nxG (mayF d cs (fun s => I 108 s) (I 101 9) (RR d cs (alM I d) ns)) (RR d cs (alM I d) ns).length) r (RR d cs (alM I d) ns).length) (RR d cs (alM I d) ns).length bb (RR d cs (alM I d) ns).length 0 = some r → qi Q (rv (itN (nxG (mayF d cs (fun s => I 108 s) (I 101 9) (RR d cs (alM I d) ns)) (RR d cs (alM I d) ns).length) ii (some r))) K sp pl) : aRuns mX12_chain (rK 6) [.ref 101, .int v, .int i] (nn pl) (MM I sp pl) Q := by
  refine aRuns_of pn_X12_chain (Nat.le_of_ble_eq_true rfl) (fun z => aE_loc (ls' := [_, _, _, _, _, _, _]) rfl ?_)
  refine aE_iload_n dX12_chain_0 rfl rfl ?_
  refine aE_if_lt (tgt := 8) dX12_chain_1 (by decide) (fun h1 => ?_) (fun h1 => ?_)
  · skip
    refine aE_aload_n dX12_chain_8 rfl rfl ?_
    refine aE_ldc dX12_chain_9 ct_X12_185 ?_
    refine aE_cVi dX12_chain_11 lk_X12_177 mv_X12_finds (c_finds _) rfl (lt_nn (by decide)) rfl rfl ⟨by decide, by decide⟩ (Nat.le_of_ble_eq_true rfl) ⟨rfl, rfl⟩ ⟨by decide, by decide⟩ ?_
    refine aE_iret dX12_chain_14 rfl ⟨by decide, by decide⟩ ?_
    exact hB (by first | exact Or.inl h1 | exact Or.inr (Int32.not_le.mp h5))
  · skip
    refine aE_iload_n dX12_chain_4 rfl rfl ?_
    refine aE_if_ge (tgt := 15) dX12_chain_5 (by decide) (fun h5 => ?_) (fun h5 => ?_)
    · skip
      refine aE_aload_n dX12_chain_15 rfl rfl ?_
      refine aE_cVq dX12_chain_16 lk_X12_243 mv_X12_plan (m_planS (Q := (fun (r : Option Value) (n' : Nat) (m' : aM) => r = none ∧ n' = nn pl ∧ ∃ J, m' = MM J sp pl ∧ FrP I J ∧ MS J ns d cs (alM I d))) ns nstr nc d cs fr to hW hst (fun J h1 h2 => ⟨rfl, rfl, J, rfl, h1, h2⟩)) rfl (lt_nn (by decide)) rfl rfl ⟨by decide, by decide⟩ (Nat.le_of_ble_eq_true rfl) ⟨rfl, rfl⟩ ⟨by decide, by decide⟩ ?_
      rintro r n' m' ⟨rfl, rfl, J, rfl, hJ, hM⟩
      have hha : J 101 43 = if allH d cs (alM I d) ns then 1 else 0 := hM.2.2.2.2.1.2.2.2.2
      have hll : J 101 42 = nI (RR d cs (alM I d) ns).length := hM.2.2.2.2.1.2.2.1.1
      have hl10 := hM.2.2.2.2.2.2.1
      refine aE_aload_n dX12_chain_19 rfl rfl ?_
      refine aE_geti dX12_chain_20 fw_X12_233 (lt_nn (by decide)) rfl (by decide) rfl ?_
      refine aE_top hha ?_
      refine aE_if_ne (tgt := 33) dX12_chain_23 (by decide) (fun h23 => ?_) (fun h23 => ?_)
      · skip
        refine aE_aload_n dX12_chain_33 rfl rfl ?_
        refine aE_cVq dX12_chain_34 lk_X12_271 mv_X12_findChains (m_findChains (Q := (fun (r : Option Value) (n' : Nat) (m' : aM) => r = none ∧ n' = nn pl ∧ ∃ K, m' = MM K sp pl ∧ MC I K ns d cs)) ns nstr nc d cs fr to (MW_fr hW hJ) (fun _ => (alM_fr (d := d) hJ).symm ▸ hM.2.2.2.2.1) (fun K h => ⟨rfl, rfl, K, rfl, MC_tr hJ h⟩)) rfl (lt_nn (by decide)) rfl rfl ⟨by decide, by decide⟩ (Nat.le_of_ble_eq_true rfl) ⟨rfl, rfl⟩ ⟨by decide, by decide⟩ ?_
        rintro r n' m' ⟨rfl, rfl, K, rfl, hC⟩
        have hCM := hC.2.2.1
        have hCl : K 101 42 = nI (RR d cs (alM I d) ns).length := hCM.2.2.2.2.1.2.2.1.1
        have hCn := hCM.2.2.2.2.2.2.1
        refine aE_iconst (v := -1) dX12_chain_37 rfl ?_
        refine aE_istore_n dX12_chain_38 rfl (by decide) rfl (aE_loc (ls' := [_, _, _, _, _, _, _]) rfl ?_)
        refine aE_iconst (v := 0) dX12_chain_39 rfl ?_
        refine aE_istore dX12_chain_40 (by decide) rfl (aE_loc (ls' := [_, _, _, _, _, _, _]) rfl ?_)
        have hah := (Classical.byContradiction (fun q => by rw [if_neg q] at h23; exact h23 rfl))
        obtain ⟨bb, hbb, rfl⟩ := nI_of h1
        obtain ⟨ii, hii, rfl⟩ := nI_of (Int32.not_lt.mpr h5)
        exact l_chain1 (RR d cs (alM I d) ns).length (nxG (mayF d cs (fun s => I 108 s) (I 101 9) (RR d cs (alM I d) ns)) (RR d cs (alM I d) ns).length) hCl hCn hC.2.2.2.2.1 dp hdp bb ii hbb hii (fun q => hN K bb hbb rfl hC hah q) (fun r q => hO K bb ii r hbb hii rfl rfl hC hah q) (RR d cs (alM I d) ns).length 0 0 (by omega) (Nat.le_refl _) rfl _ _ _ (by decide)
      · skip
        refine aE_aload_n dX12_chain_26 rfl rfl ?_
        refine aE_ldc dX12_chain_27 ct_X12_197 ?_
        refine aE_cVi dX12_chain_29 lk_X12_177 mv_X12_finds (c_finds _) rfl (lt_nn (by decide)) rfl rfl ⟨by decide, by decide⟩ (Nat.le_of_ble_eq_true rfl) ⟨rfl, rfl⟩ ⟨by decide, by decide⟩ ?_
        refine aE_iret dX12_chain_32 rfl ⟨by decide, by decide⟩ ?_
        exact hN0 J h1 h5 hJ hM (Bool.eq_false_iff.mpr (fun q => by rw [if_pos q] at h23; exact absurd (show (1 : Int32) = 0 by first | exact h23 | exact Classical.not_not.mp h23) (by decide)))
    · skip
      refine aE_aload_n dX12_chain_8 rfl rfl ?_
      refine aE_ldc dX12_chain_9 ct_X12_185 ?_
      refine aE_cVi dX12_chain_11 lk_X12_177 mv_X12_finds (c_finds _) rfl (lt_nn (by decide)) rfl rfl ⟨by decide, by decide⟩ (Nat.le_of_ble_eq_true rfl) ⟨rfl, rfl⟩ ⟨by decide, by decide⟩ ?_
      refine aE_iret dX12_chain_14 rfl ⟨by decide, by decide⟩ ?_
      exact hB (by first | exact Or.inl h1 | exact Or.inr (Int32.not_le.mp h5))

end KFMCHA2
section KFCROU2
variable {z : Nat × (Nat → Int32)} {n : Nat} {mem : aM} {I : Nat → Nat → Int32} {sp : Nat → Nat} {pl : Bool} {Q : Option Value → Nat → aM → Prop} {R : Room}variable {ns nstr nc : Nat} {d : pD} {cs : Nat → pC} {fr to : Nat → Nat}
set_option maxRecDepth 20000 in
theorem c_rou2_t (v i k : Int32) (hW : CW I sp ns nstr nc d cs fr to)  (hst : ¬ I 0 7 = 0 → PCs I ns d cs (alC I sp d) ∧ FlC I ns d cs (alC I sp d) (I 1 8)) (hB : (wi v 0 (I 1 4 - 1) = 0 ∨ i < 0 ∨ k < -1) → qi Q (-1000001) (fnd I) sp true) (hN : ∀ s J, s < ns → v = nI s → ¬ i < 0 → ¬ k < -1 → DP I J sp ns nstr nc d cs fr to → (¬ (pS d (cs s) ((alC I sp d) s)).1 < 1000000 ∨ (pS d (cs s) ((alC I sp d) s)).1 ≤ i) → qi Q (-1000004) (fnd J) sp true) (hL : ∀ s J ii S, s < ns → v = nI s → i = nI ii → DP I J sp ns nstr nc d cs fr to → (RLs d (cs s) ((alC I sp d) s))[ii]? = some S → k = -1 → qi Q (lS d (cs s) S) J sp true) (hO : ∀ s J ii S kk, s < ns → v = nI s → i = nI ii → kk < 2 ^ 31 → k = nI kk → DP I J sp ns nstr nc d cs fr to → (RLs d (cs s) ((alC I sp d) s))[ii]? = some S → qi Q (rv (oS d (cs s) S (min kk 10)).2) J sp true) : aRuns mX11_route (rK 6) [.ref 0, .int v, .int i, .int k] (nn true) (MM I sp true) Q := by
  refine aRuns_of pn_X11_route (Nat.le_of_ble_eq_true rfl) (fun z => aE_loc (ls' := [_, _, _, _, _]) rfl ?_)
  refine aE_aload_n dX11_route_0 rfl rfl ?_
  refine aE_getf (v := .ref 1) dX11_route_1 fw_X11_10 (lt_nn (by decide)) rfl rfl ?_
  refine aE_iload_n dX11_route_4 rfl rfl ?_
  refine aE_cVi dX11_route_5 lk_X11_106 mv_X0_hasSchool (c_hasSchool _) rfl (lt_nn (by decide)) rfl rfl ⟨by decide, by decide⟩ (Nat.le_of_ble_eq_true rfl) ⟨rfl, rfl⟩ ⟨by decide, by decide⟩ ?_
  refine aE_if_eq (tgt := 20) dX11_route_8 (by decide) (fun h8 => ?_) (fun h8 => ?_)
  · skip
    refine aE_aload_n dX11_route_20 rfl rfl ?_
    refine aE_ldc dX11_route_21 ct_X11_78 ?_
    refine aE_cVi dX11_route_23 lk_X11_62 mv_X11_found (c_found _) rfl (lt_nn (by decide)) rfl rfl ⟨by decide, by decide⟩ (Nat.le_of_ble_eq_true rfl) ⟨rfl, rfl⟩ ⟨by decide, by decide⟩ ?_
    refine aE_iret dX11_route_26 rfl ⟨by decide, by decide⟩ ?_
    first
      | exact hB (Or.inl h8)
      | exact hB (Or.inr (Or.inl h12))
      | exact hB (Or.inr (Or.inr (Int32.not_le.mp h17)))
  · skip
    refine aE_iload_n dX11_route_11 rfl rfl ?_
    refine aE_if_lt (tgt := 20) dX11_route_12 (by decide) (fun h12 => ?_) (fun h12 => ?_)
    · skip
      refine aE_aload_n dX11_route_20 rfl rfl ?_
      refine aE_ldc dX11_route_21 ct_X11_78 ?_
      refine aE_cVi dX11_route_23 lk_X11_62 mv_X11_found (c_found _) rfl (lt_nn (by decide)) rfl rfl ⟨by decide, by decide⟩ (Nat.le_of_ble_eq_true rfl) ⟨rfl, rfl⟩ ⟨by decide, by decide⟩ ?_
      refine aE_iret dX11_route_26 rfl ⟨by decide, by decide⟩ ?_
      first
        | exact hB (Or.inl h8)
        | exact hB (Or.inr (Or.inl h12))
        | exact hB (Or.inr (Or.inr (Int32.not_le.mp h17)))
    · skip
      refine aE_iload_n dX11_route_15 rfl rfl ?_
      refine aE_iconst (v := -1) dX11_route_16 rfl ?_
      refine aE_icmp_ge (tgt := 27) dX11_route_17 (by decide) (fun h17 => ?_) (fun h17 => ?_)
      · skip
        obtain ⟨s, hs, rfl⟩ := wi_ix (m := ns) (by have := hW.1.2; omega) (hW.1.1 ▸ h8)
        have hs4 : s < 4 := by have := hW.1.2; omega
        refine aE_aload_n dX11_route_27 rfl rfl ?_
        refine aE_cVq dX11_route_28 lk_X11_181 mv_X11_drawPlans (c_drawPlans_t (Q := (fun (r : Option Value) (n' : Nat) (m' : aM) => r = none ∧ n' = nn true ∧ ∃ J, m' = MM J sp true ∧ DP I J sp ns nstr nc d cs fr to)) hW hst (fun J a b c e f g => ⟨rfl, rfl, J, rfl, a, b, c, e, f, g⟩)) rfl (lt_nn (by decide)) rfl rfl ⟨by decide, by decide⟩ (Nat.le_of_ble_eq_true rfl) ⟨rfl, rfl⟩ ⟨by decide, by decide⟩ ?_
        rintro r n' m' ⟨rfl, rfl, J, rfl, hJ⟩
        have hWJ := hJ.2.2.1
        have hP := hJ.2.2.2.2.1
        have hF := hJ.2.2.2.2.2
        have hA := CW_al hW
        have hpl := (hP s hs).1
        have hrc := (hP s hs).2.1
        have hal := hA.1 s
        refine aE_aload_n dX11_route_31 rfl rfl ?_
        refine aE_getf (v := .ref 1) dX11_route_32 fw_X11_10 (lt_nn (by decide)) rfl rfl ?_
        refine aE_getf (v := .ref 25) dX11_route_35 fw_X11_109 (lt_nn (by decide)) rfl rfl ?_
        refine aE_iload_n dX11_route_38 rfl rfl ?_
        refine aE_aald (t := 102) dX11_route_39 (lt_nn (by decide)) ⟨by decide, by decide⟩ rfl (by decide) rfl hs4 (mm_schs hs4) ?_
        refine aE_astore dX11_route_40 (by decide) rfl (aE_loc (ls' := [_, _, _, _, _]) rfl ?_)
        refine aE_aload dX11_route_42 rfl ?_
        refine aE_geti dX11_route_44 fw_X11_184 (lt_nn (by omega)) (sh_sch hs4) (mc_sch (i := 3) hs4 (by decide)).1 (mc_sch (i := 3) hs4 (by decide)).2 ?_
        refine aE_if_eq (tgt := 59) dX11_route_47 (by decide) (fun h47 => ?_) (fun h47 => ?_)
        · skip
          refine aE_aload_n dX11_route_59 rfl rfl ?_
          refine aE_ldc dX11_route_60 ct_X11_98 ?_
          refine aE_cVi dX11_route_62 lk_X11_62 mv_X11_found (c_found _) rfl (lt_nn (by decide)) rfl rfl ⟨by decide, by decide⟩ (Nat.le_of_ble_eq_true rfl) ⟨rfl, rfl⟩ ⟨by decide, by decide⟩ ?_
          refine aE_iret dX11_route_65 rfl ⟨by decide, by decide⟩ ?_
          first
            | (have hp : ¬ (pS d (cs s) ((alC I sp d) s)).1 < 1000000 := fun q => by rw [if_pos q] at hpl; rw [hpl] at h47; exact absurd h47 (by decide)
               exact hN s J hs rfl h12 (Int32.not_lt.mpr h17) hJ (Or.inl hp))
            | exact hN s J hs rfl h12 (Int32.not_lt.mpr h17) hJ (Or.inr (by rw [hpm, ← hrc]; exact Int32.not_lt.mp h56))
        · skip
          have hp : (pS d (cs s) ((alC I sp d) s)).1 < 1000000 := Classical.byContradiction fun q => by rw [if_neg q] at hpl; exact h47 hpl
          have hpm := RLs_len hal hp
          have hcd := RLs_card (d := d) (c := cs s) hal
          have hcb := cdB_bound ((alC I sp d) s) 10
          refine aE_iload_n dX11_route_50 rfl rfl ?_
          refine aE_aload dX11_route_51 rfl ?_
          refine aE_geti dX11_route_53 fw_X11_187 (lt_nn (by omega)) (sh_sch hs4) (mc_sch (i := 4) hs4 (by decide)).1 (mc_sch (i := 4) hs4 (by decide)).2 ?_
          refine aE_icmp_lt (tgt := 66) dX11_route_56 (by decide) (fun h56 => ?_) (fun h56 => ?_)
          · skip
            obtain ⟨ii, hi31, rfl⟩ := nI_of h12
            have him : ii < (RLs d (cs s) ((alC I sp d) s)).length := (nI_ltI hi31 (by omega)).mp (by rw [← hrc]; exact h56)
            obtain ⟨S, hS⟩ : ∃ S, (RLs d (cs s) ((alC I sp d) s))[ii]? = some S := ⟨_, List.getElem?_eq_getElem him⟩
            have hRow := (hP s hs).2
            have hbl := bgn_le hal hS
            have h10 := hW.2.2.2.2.2.2.1.2
            have hSs : bdiff S ((alC I sp d) s) = 0 := by
              have hS2 := hS
              unfold RLs at hS2
              rw [if_pos hp] at hS2
              exact (rtL_mem 10 _ S hal hp (List.mem_of_getElem? hS2)).1
            have hSb : ∀ g, S.testBit g = true → g < d.1 := fun g hg => hA.2.2 s g (bsub_tb hSs hg)
            have hcS := cdB_bound S 10
            refine aE_iload_n dX11_route_66 rfl rfl ?_
            refine aE_iconst (v := -1) dX11_route_67 rfl ?_
            refine aE_icmp_ne (tgt := 79) dX11_route_68 (by decide) (fun h68 => ?_) (fun h68 => ?_)
            · skip
              obtain ⟨kk, hk31, rfl⟩ := nI_of (fun q => h68 (m1_of (Int32.not_lt.mpr h17) q))
              refine aE_iload_n dX11_route_79 rfl rfl ?_
              refine aE_aload dX11_route_80 rfl ?_
              refine aE_iload_n dX11_route_82 rfl rfl ?_
              refine aE_cVi dX11_route_83 lk_X11_193 mv_X7_stopsIn (c_stopsIn hWJ hA hP s ii S hs hS) rfl (lt_nn (by omega)) (sh_sch hs4) rfl ⟨by decide, by decide⟩ (Nat.le_of_ble_eq_true rfl) ⟨rfl, rfl⟩ ⟨by decide, by decide⟩ ?_
              refine aE_icmp_ge (tgt := 107) dX11_route_86 (by decide) (fun h86 => ?_) (fun h86 => ?_)
              · skip
                have hkk : cdB S 10 ≤ kk := (nI_leI (by omega) hk31).mp h86
                have hn := oS_none (c := cs s) (S := S) (k := min kk 10) h10 (by omega)
                refine aE_iconst (v := -1) dX11_route_107 rfl ?_
                refine aE_iret dX11_route_108 rfl ⟨by decide, by decide⟩ ?_
                first
                  | (have e : nI g = rv (oS d (cs s) S (min kk 10)).2 := by rw [Nat.min_eq_left (by omega), hg]; rfl
                     show qi Q (nI g) J sp true
                     rw [e]
                     exact hO s J ii S kk hs rfl rfl hk31 rfl hJ hS)
                  | (have e : (-1 : Int32) = rv (oS d (cs s) S (min kk 10)).2 := by rw [hn]; rfl
                     show qi Q (-1) J sp true
                     rw [e]
                     exact hO s J ii S kk hs rfl rfl hk31 rfl hJ hS)
              · skip
                have hkk : kk < cdB S 10 := (nI_ltI hk31 (by omega)).mp (Int32.not_le.mp h86)
                obtain ⟨g, hg⟩ := oS_ex (c := cs s) (k := kk) h10 hSb hkk
                refine aE_aload dX11_route_89 rfl ?_
                refine aE_getf dX11_route_91 fw_X11_196 (lt_nn (by omega)) (sh_sch hs4) (mm_ord hs4) ?_
                refine aE_aload dX11_route_94 rfl ?_
                refine aE_getf dX11_route_96 fw_X11_199 (lt_nn (by omega)) (sh_sch hs4) (mm_beg hs4) ?_
                refine aE_iload_n dX11_route_99 rfl rfl ?_
                refine aE_ildM dX11_route_100 (lt_nn (by omega)) (sh_beg hs4) (by decide) rfl (by omega) ?_
                refine aE_top (hRow.2.1 ii (by omega)) ?_
                refine aE_iload_n dX11_route_101 rfl rfl ?_
                refine aE_iadd dX11_route_102 ?_
                refine aE_top (nI_add _ _) ?_
                refine aE_ildM dX11_route_103 (lt_nn (by omega)) (sh_ord hs4) (by decide) rfl (by omega) ?_
                refine aE_top ((hRow.2.2 ii S hS).2 kk g hg) ?_
                refine aE_goto (tgt := 108) dX11_route_104 (by decide) ?_
                refine aE_iret dX11_route_108 rfl ⟨by decide, by decide⟩ ?_
                first
                  | (have e : nI g = rv (oS d (cs s) S (min kk 10)).2 := by rw [Nat.min_eq_left (by omega), hg]; rfl
                     show qi Q (nI g) J sp true
                     rw [e]
                     exact hO s J ii S kk hs rfl rfl hk31 rfl hJ hS)
                  | (have e : (-1 : Int32) = rv (oS d (cs s) S (min kk 10)).2 := by rw [hn]; rfl
                     show qi Q (-1) J sp true
                     rw [e]
                     exact hO s J ii S kk hs rfl rfl hk31 rfl hJ hS)
            · skip
              have hk1 : k = -1 := by first | exact h68 | exact Classical.not_not.mp h68
              refine aE_aload dX11_route_71 rfl ?_
              refine aE_getf dX11_route_73 fw_X11_190 (lt_nn (by omega)) (sh_sch hs4) (mm_len hs4) ?_
              refine aE_iload_n dX11_route_76 rfl rfl ?_
              refine aE_ildM dX11_route_77 (lt_nn (by omega)) (sh_len hs4) (by decide) rfl (by omega) ?_
              refine aE_top (hRow.2.2 ii S hS).1 ?_
              refine aE_iret dX11_route_78 rfl ⟨by decide, by decide⟩ ?_
              exact hL s J ii S hs rfl rfl hJ hS hk1
          · skip
            refine aE_aload_n dX11_route_59 rfl rfl ?_
            refine aE_ldc dX11_route_60 ct_X11_98 ?_
            refine aE_cVi dX11_route_62 lk_X11_62 mv_X11_found (c_found _) rfl (lt_nn (by decide)) rfl rfl ⟨by decide, by decide⟩ (Nat.le_of_ble_eq_true rfl) ⟨rfl, rfl⟩ ⟨by decide, by decide⟩ ?_
            refine aE_iret dX11_route_65 rfl ⟨by decide, by decide⟩ ?_
            first
              | (have hp : ¬ (pS d (cs s) ((alC I sp d) s)).1 < 1000000 := fun q => by rw [if_pos q] at hpl; rw [hpl] at h47; exact absurd h47 (by decide)
                 exact hN s J hs rfl h12 (Int32.not_lt.mpr h17) hJ (Or.inl hp))
              | exact hN s J hs rfl h12 (Int32.not_lt.mpr h17) hJ (Or.inr (by rw [hpm, ← hrc]; exact Int32.not_lt.mp h56))
      · skip
        refine aE_aload_n dX11_route_20 rfl rfl ?_
        refine aE_ldc dX11_route_21 ct_X11_78 ?_
        refine aE_cVi dX11_route_23 lk_X11_62 mv_X11_found (c_found _) rfl (lt_nn (by decide)) rfl rfl ⟨by decide, by decide⟩ (Nat.le_of_ble_eq_true rfl) ⟨rfl, rfl⟩ ⟨by decide, by decide⟩ ?_
        refine aE_iret dX11_route_26 rfl ⟨by decide, by decide⟩ ?_
        first
          | exact hB (Or.inl h8)
          | exact hB (Or.inr (Or.inl h12))
          | exact hB (Or.inr (Or.inr (Int32.not_le.mp h17)))

set_option maxRecDepth 20000 in
theorem c_rou2_f (v i k : Int32) (hW : CW I sp ns nstr nc d cs fr to)  (h07 : I 0 7 = 0) (hG : ¬ (wi v 0 (I 1 4 - 1) = 0 ∨ i < 0 ∨ k < -1)) (hN : ∀ s J, s < ns → v = nI s → ¬ i < 0 → ¬ k < -1 → DP I J sp ns nstr nc d cs fr to → (¬ (pS d (cs s) ((alC I sp d) s)).1 < 1000000 ∨ (pS d (cs s) ((alC I sp d) s)).1 ≤ i) → qi Q (-1000004) (fnd J) sp true) (hL : ∀ s J ii S, s < ns → v = nI s → i = nI ii → DP I J sp ns nstr nc d cs fr to → (RLs d (cs s) ((alC I sp d) s))[ii]? = some S → k = -1 → qi Q (lS d (cs s) S) J sp true) (hO : ∀ s J ii S kk, s < ns → v = nI s → i = nI ii → kk < 2 ^ 31 → k = nI kk → DP I J sp ns nstr nc d cs fr to → (RLs d (cs s) ((alC I sp d) s))[ii]? = some S → qi Q (rv (oS d (cs s) S (min kk 10)).2) J sp true) : aRuns mX11_route (rP 6) [.ref 0, .int v, .int i, .int k] (nn false) (MM I sp false) Q := by
  refine aRuns_of pn_X11_route (Nat.le_of_ble_eq_true rfl) (fun z => aE_loc (ls' := [_, _, _, _, _]) rfl ?_)
  refine aE_aload_n dX11_route_0 rfl rfl ?_
  refine aE_getf (v := .ref 1) dX11_route_1 fw_X11_10 (lt_nn (by decide)) rfl rfl ?_
  refine aE_iload_n dX11_route_4 rfl rfl ?_
  refine aE_cVi dX11_route_5 lk_X11_106 mv_X0_hasSchool (c_hasSchool _) rfl (lt_nn (by decide)) rfl rfl ⟨by decide, by decide⟩ (Nat.le_of_ble_eq_true rfl) ⟨rfl, rfl⟩ ⟨by decide, by decide⟩ ?_
  refine aE_if_eq (tgt := 20) dX11_route_8 (by decide) (fun h8 => ?_) (fun h8 => ?_)
  · skip
    refine aE_aload_n dX11_route_20 rfl rfl ?_
    refine aE_ldc dX11_route_21 ct_X11_78 ?_
    refine aE_cVi dX11_route_23 lk_X11_62 mv_X11_found (c_found _) rfl (lt_nn (by decide)) rfl rfl ⟨by decide, by decide⟩ (Nat.le_of_ble_eq_true rfl) ⟨rfl, rfl⟩ ⟨by decide, by decide⟩ ?_
    refine aE_iret dX11_route_26 rfl ⟨by decide, by decide⟩ ?_
    first
      | exact absurd (Or.inl h8) hG
      | exact absurd (Or.inr (Or.inl h12)) hG
      | exact absurd (Or.inr (Or.inr (Int32.not_le.mp h17))) hG
  · skip
    refine aE_iload_n dX11_route_11 rfl rfl ?_
    refine aE_if_lt (tgt := 20) dX11_route_12 (by decide) (fun h12 => ?_) (fun h12 => ?_)
    · skip
      refine aE_aload_n dX11_route_20 rfl rfl ?_
      refine aE_ldc dX11_route_21 ct_X11_78 ?_
      refine aE_cVi dX11_route_23 lk_X11_62 mv_X11_found (c_found _) rfl (lt_nn (by decide)) rfl rfl ⟨by decide, by decide⟩ (Nat.le_of_ble_eq_true rfl) ⟨rfl, rfl⟩ ⟨by decide, by decide⟩ ?_
      refine aE_iret dX11_route_26 rfl ⟨by decide, by decide⟩ ?_
      first
        | exact absurd (Or.inl h8) hG
        | exact absurd (Or.inr (Or.inl h12)) hG
        | exact absurd (Or.inr (Or.inr (Int32.not_le.mp h17))) hG
    · skip
      refine aE_iload_n dX11_route_15 rfl rfl ?_
      refine aE_iconst (v := -1) dX11_route_16 rfl ?_
      refine aE_icmp_ge (tgt := 27) dX11_route_17 (by decide) (fun h17 => ?_) (fun h17 => ?_)
      · skip
        obtain ⟨s, hs, rfl⟩ := wi_ix (m := ns) (by have := hW.1.2; omega) (hW.1.1 ▸ h8)
        have hs4 : s < 4 := by have := hW.1.2; omega
        refine aE_aload_n dX11_route_27 rfl rfl ?_
        refine aE_callV dX11_route_28 lk_X11_181 mv_X11_drawPlans (c_drawPlans_f (Q := (fun (r : Option Value) (n' : Nat) (m' : aM) => r = none ∧ n' = nn true ∧ ∃ J, m' = MM J sp true ∧ DP I J sp ns nstr nc d cs fr to)) hW h07 (fun J a b c e f g => ⟨rfl, rfl, J, rfl, a, b, c, e, f, g⟩)) rfl (lt_nn (by decide)) rfl rfl ⟨by decide, by decide⟩ (Nat.le_of_ble_eq_true rfl) ⟨by decide, by decide⟩ ?_
        rintro r n' m' ⟨rfl, rfl, J, rfl, hJ⟩
        have hWJ := hJ.2.2.1
        have hP := hJ.2.2.2.2.1
        have hF := hJ.2.2.2.2.2
        have hA := CW_al hW
        have hpl := (hP s hs).1
        have hrc := (hP s hs).2.1
        have hal := hA.1 s
        refine aE_aload_n dX11_route_31 rfl rfl ?_
        refine aE_getf (v := .ref 1) dX11_route_32 fw_X11_10 (lt_nn (by decide)) rfl rfl ?_
        refine aE_getf (v := .ref 25) dX11_route_35 fw_X11_109 (lt_nn (by decide)) rfl rfl ?_
        refine aE_iload_n dX11_route_38 rfl rfl ?_
        refine aE_aald (t := 102) dX11_route_39 (lt_nn (by decide)) ⟨by decide, by decide⟩ rfl (by decide) rfl hs4 (mm_schs hs4) ?_
        refine aE_astore dX11_route_40 (by decide) rfl (aE_loc (ls' := [_, _, _, _, _]) rfl ?_)
        refine aE_aload dX11_route_42 rfl ?_
        refine aE_geti dX11_route_44 fw_X11_184 (lt_nn (by omega)) (sh_sch hs4) (mc_sch (i := 3) hs4 (by decide)).1 (mc_sch (i := 3) hs4 (by decide)).2 ?_
        refine aE_if_eq (tgt := 59) dX11_route_47 (by decide) (fun h47 => ?_) (fun h47 => ?_)
        · skip
          refine aE_aload_n dX11_route_59 rfl rfl ?_
          refine aE_ldc dX11_route_60 ct_X11_98 ?_
          refine aE_cVi dX11_route_62 lk_X11_62 mv_X11_found (c_found _) rfl (lt_nn (by decide)) rfl rfl ⟨by decide, by decide⟩ (Nat.le_of_ble_eq_true rfl) ⟨rfl, rfl⟩ ⟨by decide, by decide⟩ ?_
          refine aE_iret dX11_route_65 rfl ⟨by decide, by decide⟩ ?_
          first
            | (have hp : ¬ (pS d (cs s) ((alC I sp d) s)).1 < 1000000 := fun q => by rw [if_pos q] at hpl; rw [hpl] at h47; exact absurd h47 (by decide)
               exact hN s J hs rfl h12 (Int32.not_lt.mpr h17) hJ (Or.inl hp))
            | exact hN s J hs rfl h12 (Int32.not_lt.mpr h17) hJ (Or.inr (by rw [hpm, ← hrc]; exact Int32.not_lt.mp h56))
        · skip
          have hp : (pS d (cs s) ((alC I sp d) s)).1 < 1000000 := Classical.byContradiction fun q => by rw [if_neg q] at hpl; exact h47 hpl
          have hpm := RLs_len hal hp
          have hcd := RLs_card (d := d) (c := cs s) hal
          have hcb := cdB_bound ((alC I sp d) s) 10
          refine aE_iload_n dX11_route_50 rfl rfl ?_
          refine aE_aload dX11_route_51 rfl ?_
          refine aE_geti dX11_route_53 fw_X11_187 (lt_nn (by omega)) (sh_sch hs4) (mc_sch (i := 4) hs4 (by decide)).1 (mc_sch (i := 4) hs4 (by decide)).2 ?_
          refine aE_icmp_lt (tgt := 66) dX11_route_56 (by decide) (fun h56 => ?_) (fun h56 => ?_)
          · skip
            obtain ⟨ii, hi31, rfl⟩ := nI_of h12
            have him : ii < (RLs d (cs s) ((alC I sp d) s)).length := (nI_ltI hi31 (by omega)).mp (by rw [← hrc]; exact h56)
            obtain ⟨S, hS⟩ : ∃ S, (RLs d (cs s) ((alC I sp d) s))[ii]? = some S := ⟨_, List.getElem?_eq_getElem him⟩
            have hRow := (hP s hs).2
            have hbl := bgn_le hal hS
            have h10 := hW.2.2.2.2.2.2.1.2
            have hSs : bdiff S ((alC I sp d) s) = 0 := by
              have hS2 := hS
              unfold RLs at hS2
              rw [if_pos hp] at hS2
              exact (rtL_mem 10 _ S hal hp (List.mem_of_getElem? hS2)).1
            have hSb : ∀ g, S.testBit g = true → g < d.1 := fun g hg => hA.2.2 s g (bsub_tb hSs hg)
            have hcS := cdB_bound S 10
            refine aE_iload_n dX11_route_66 rfl rfl ?_
            refine aE_iconst (v := -1) dX11_route_67 rfl ?_
            refine aE_icmp_ne (tgt := 79) dX11_route_68 (by decide) (fun h68 => ?_) (fun h68 => ?_)
            · skip
              obtain ⟨kk, hk31, rfl⟩ := nI_of (fun q => h68 (m1_of (Int32.not_lt.mpr h17) q))
              refine aE_iload_n dX11_route_79 rfl rfl ?_
              refine aE_aload dX11_route_80 rfl ?_
              refine aE_iload_n dX11_route_82 rfl rfl ?_
              refine aE_cVi dX11_route_83 lk_X11_193 mv_X7_stopsIn (c_stopsIn hWJ hA hP s ii S hs hS) rfl (lt_nn (by omega)) (sh_sch hs4) rfl ⟨by decide, by decide⟩ (Nat.le_of_ble_eq_true rfl) ⟨rfl, rfl⟩ ⟨by decide, by decide⟩ ?_
              refine aE_icmp_ge (tgt := 107) dX11_route_86 (by decide) (fun h86 => ?_) (fun h86 => ?_)
              · skip
                have hkk : cdB S 10 ≤ kk := (nI_leI (by omega) hk31).mp h86
                have hn := oS_none (c := cs s) (S := S) (k := min kk 10) h10 (by omega)
                refine aE_iconst (v := -1) dX11_route_107 rfl ?_
                refine aE_iret dX11_route_108 rfl ⟨by decide, by decide⟩ ?_
                first
                  | (have e : nI g = rv (oS d (cs s) S (min kk 10)).2 := by rw [Nat.min_eq_left (by omega), hg]; rfl
                     show qi Q (nI g) J sp true
                     rw [e]
                     exact hO s J ii S kk hs rfl rfl hk31 rfl hJ hS)
                  | (have e : (-1 : Int32) = rv (oS d (cs s) S (min kk 10)).2 := by rw [hn]; rfl
                     show qi Q (-1) J sp true
                     rw [e]
                     exact hO s J ii S kk hs rfl rfl hk31 rfl hJ hS)
              · skip
                have hkk : kk < cdB S 10 := (nI_ltI hk31 (by omega)).mp (Int32.not_le.mp h86)
                obtain ⟨g, hg⟩ := oS_ex (c := cs s) (k := kk) h10 hSb hkk
                refine aE_aload dX11_route_89 rfl ?_
                refine aE_getf dX11_route_91 fw_X11_196 (lt_nn (by omega)) (sh_sch hs4) (mm_ord hs4) ?_
                refine aE_aload dX11_route_94 rfl ?_
                refine aE_getf dX11_route_96 fw_X11_199 (lt_nn (by omega)) (sh_sch hs4) (mm_beg hs4) ?_
                refine aE_iload_n dX11_route_99 rfl rfl ?_
                refine aE_ildM dX11_route_100 (lt_nn (by omega)) (sh_beg hs4) (by decide) rfl (by omega) ?_
                refine aE_top (hRow.2.1 ii (by omega)) ?_
                refine aE_iload_n dX11_route_101 rfl rfl ?_
                refine aE_iadd dX11_route_102 ?_
                refine aE_top (nI_add _ _) ?_
                refine aE_ildM dX11_route_103 (lt_nn (by omega)) (sh_ord hs4) (by decide) rfl (by omega) ?_
                refine aE_top ((hRow.2.2 ii S hS).2 kk g hg) ?_
                refine aE_goto (tgt := 108) dX11_route_104 (by decide) ?_
                refine aE_iret dX11_route_108 rfl ⟨by decide, by decide⟩ ?_
                first
                  | (have e : nI g = rv (oS d (cs s) S (min kk 10)).2 := by rw [Nat.min_eq_left (by omega), hg]; rfl
                     show qi Q (nI g) J sp true
                     rw [e]
                     exact hO s J ii S kk hs rfl rfl hk31 rfl hJ hS)
                  | (have e : (-1 : Int32) = rv (oS d (cs s) S (min kk 10)).2 := by rw [hn]; rfl
                     show qi Q (-1) J sp true
                     rw [e]
                     exact hO s J ii S kk hs rfl rfl hk31 rfl hJ hS)
            · skip
              have hk1 : k = -1 := by first | exact h68 | exact Classical.not_not.mp h68
              refine aE_aload dX11_route_71 rfl ?_
              refine aE_getf dX11_route_73 fw_X11_190 (lt_nn (by omega)) (sh_sch hs4) (mm_len hs4) ?_
              refine aE_iload_n dX11_route_76 rfl rfl ?_
              refine aE_ildM dX11_route_77 (lt_nn (by omega)) (sh_len hs4) (by decide) rfl (by omega) ?_
              refine aE_top (hRow.2.2 ii S hS).1 ?_
              refine aE_iret dX11_route_78 rfl ⟨by decide, by decide⟩ ?_
              exact hL s J ii S hs rfl rfl hJ hS hk1
          · skip
            refine aE_aload_n dX11_route_59 rfl rfl ?_
            refine aE_ldc dX11_route_60 ct_X11_98 ?_
            refine aE_cVi dX11_route_62 lk_X11_62 mv_X11_found (c_found _) rfl (lt_nn (by decide)) rfl rfl ⟨by decide, by decide⟩ (Nat.le_of_ble_eq_true rfl) ⟨rfl, rfl⟩ ⟨by decide, by decide⟩ ?_
            refine aE_iret dX11_route_65 rfl ⟨by decide, by decide⟩ ?_
            first
              | (have hp : ¬ (pS d (cs s) ((alC I sp d) s)).1 < 1000000 := fun q => by rw [if_pos q] at hpl; rw [hpl] at h47; exact absurd h47 (by decide)
                 exact hN s J hs rfl h12 (Int32.not_lt.mpr h17) hJ (Or.inl hp))
              | exact hN s J hs rfl h12 (Int32.not_lt.mpr h17) hJ (Or.inr (by rw [hpm, ← hrc]; exact Int32.not_lt.mp h56))
      · skip
        refine aE_aload_n dX11_route_20 rfl rfl ?_
        refine aE_ldc dX11_route_21 ct_X11_78 ?_
        refine aE_cVi dX11_route_23 lk_X11_62 mv_X11_found (c_found _) rfl (lt_nn (by decide)) rfl rfl ⟨by decide, by decide⟩ (Nat.le_of_ble_eq_true rfl) ⟨rfl, rfl⟩ ⟨by decide, by decide⟩ ?_
        refine aE_iret dX11_route_26 rfl ⟨by decide, by decide⟩ ?_
        first
          | exact absurd (Or.inl h8) hG
          | exact absurd (Or.inr (Or.inl h12)) hG
          | exact absurd (Or.inr (Or.inr (Int32.not_le.mp h17))) hG

set_option maxRecDepth 20000 in
theorem c_rou2_b (v i k : Int32) (hW : CW I sp ns nstr nc d cs fr to)  (hb : wi v 0 (I 1 4 - 1) = 0 ∨ i < 0 ∨ k < -1) (hB : qi Q (-1000001) (fnd I) sp false) : aRuns mX11_route (rK 6) [.ref 0, .int v, .int i, .int k] (nn false) (MM I sp false) Q := by
  refine aRuns_of pn_X11_route (Nat.le_of_ble_eq_true rfl) (fun z => aE_loc (ls' := [_, _, _, _, _]) rfl ?_)
  refine aE_aload_n dX11_route_0 rfl rfl ?_
  refine aE_getf (v := .ref 1) dX11_route_1 fw_X11_10 (lt_nn (by decide)) rfl rfl ?_
  refine aE_iload_n dX11_route_4 rfl rfl ?_
  refine aE_cVi dX11_route_5 lk_X11_106 mv_X0_hasSchool (c_hasSchool _) rfl (lt_nn (by decide)) rfl rfl ⟨by decide, by decide⟩ (Nat.le_of_ble_eq_true rfl) ⟨rfl, rfl⟩ ⟨by decide, by decide⟩ ?_
  refine aE_if_eq (tgt := 20) dX11_route_8 (by decide) (fun h8 => ?_) (fun h8 => ?_)
  · skip
    refine aE_aload_n dX11_route_20 rfl rfl ?_
    refine aE_ldc dX11_route_21 ct_X11_78 ?_
    refine aE_cVi dX11_route_23 lk_X11_62 mv_X11_found (c_found _) rfl (lt_nn (by decide)) rfl rfl ⟨by decide, by decide⟩ (Nat.le_of_ble_eq_true rfl) ⟨rfl, rfl⟩ ⟨by decide, by decide⟩ ?_
    refine aE_iret dX11_route_26 rfl ⟨by decide, by decide⟩ ?_
    exact hB
  · skip
    refine aE_iload_n dX11_route_11 rfl rfl ?_
    refine aE_if_lt (tgt := 20) dX11_route_12 (by decide) (fun h12 => ?_) (fun h12 => ?_)
    · skip
      refine aE_aload_n dX11_route_20 rfl rfl ?_
      refine aE_ldc dX11_route_21 ct_X11_78 ?_
      refine aE_cVi dX11_route_23 lk_X11_62 mv_X11_found (c_found _) rfl (lt_nn (by decide)) rfl rfl ⟨by decide, by decide⟩ (Nat.le_of_ble_eq_true rfl) ⟨rfl, rfl⟩ ⟨by decide, by decide⟩ ?_
      refine aE_iret dX11_route_26 rfl ⟨by decide, by decide⟩ ?_
      exact hB
    · skip
      refine aE_iload_n dX11_route_15 rfl rfl ?_
      refine aE_iconst (v := -1) dX11_route_16 rfl ?_
      refine aE_icmp_ge (tgt := 27) dX11_route_17 (by decide) (fun h17 => ?_) (fun h17 => ?_)
      · skip
        exact absurd hb (fun q => by rcases q with q | q | q; exact h8 q; exact h12 q; exact Int32.not_le.mpr q h17)
      · skip
        refine aE_aload_n dX11_route_20 rfl rfl ?_
        refine aE_ldc dX11_route_21 ct_X11_78 ?_
        refine aE_cVi dX11_route_23 lk_X11_62 mv_X11_found (c_found _) rfl (lt_nn (by decide)) rfl rfl ⟨by decide, by decide⟩ (Nat.le_of_ble_eq_true rfl) ⟨rfl, rfl⟩ ⟨by decide, by decide⟩ ?_
        refine aE_iret dX11_route_26 rfl ⟨by decide, by decide⟩ ?_
        exact hB

end KFCROU2
section KFCCHA2
variable {z : Nat × (Nat → Int32)} {n : Nat} {mem : aM} {I : Nat → Nat → Int32} {sp : Nat → Nat} {pl : Bool} {Q : Option Value → Nat → aM → Prop} {R : Room}variable {ns nstr nc : Nat} {d : pD} {cs : Nat → pC} {fr to : Nat → Nat}
set_option maxRecDepth 20000 in
theorem c_cha2_t (v i : Int32) (dp : Nat → Nat) (hW : CW I sp ns nstr nc d cs fr to) (hbe : ∀ s, s < ns → 0 ≤ (I 26 s).toInt ∧ (I 26 s).toInt ≤ 6) (hsl : 0 ≤ (I 1 8).toInt ∧ (I 1 8).toInt ≤ 30) (hch : ¬ I 0 8 = 0 → ¬ I 0 7 = 0 ∧ ChC I (fC I sp ns d cs) (RR d cs (alC I sp d) ns).length) (hdp : dpOK (nxG (fC I sp ns d cs) (RR d cs (alC I sp d) ns).length) (RR d cs (alC I sp d) ns).length dp) (hdn : ∀ r, r < (RR d cs (alC I sp d) ns).length → dp r < (RR d cs (alC I sp d) ns).length) (hst : ¬ I 0 7 = 0 → PCs I ns d cs (alC I sp d) ∧ FlC I ns d cs (alC I sp d) (I 1 8)) (hB : (v < 0 ∨ i < 0) → qi Q (-1000001) (fnd I) sp true) (hN0 : ∀ J, ¬ v < 0 → 0 ≤ i → DP I J sp ns nstr nc d cs fr to → allH d cs (alC I sp d) ns = false → qi Q (-1000004) (fnd J) sp true) (hN : ∀ K bb, bb < 2 ^ 31 → v = nI bb → LC I K sp ns nstr nc d cs fr to → allH d cs (alC I sp d) ns = true → kth (fun r => isF (nxG (fC I sp ns d cs) (RR d cs (alC I sp d) ns).length) r (RR d cs (alC I sp d) ns).length) (RR d cs (alC I sp d) ns).length bb (RR d cs (alC I sp d) ns).length 0 = none → qi Q (-1000004) (fnd K) sp true) (hO : ∀ K bb ii r, bb < 2 ^ 31 → ii < 2 ^ 31 → v = nI bb → i = nI ii → LC I K sp ns nstr nc d cs fr to → allH d cs (alC I sp d) ns = true → kth (fun r => isF (nxG (fC I sp ns d cs) (RR d cs (alC I sp d) ns).length) r (RR d cs (alC I sp d) ns).length) (RR d cs (alC I sp d) ns).length bb (RR d cs (alC I sp d) ns).length 0 = some r → qi Q (rv (itN (nxG (fC I sp ns d cs) (RR d cs (alC I sp d) ns).length) ii (some r))) K sp true) : aRuns mX11_chain (rK 7) [.ref 0, .int v, .int i] (nn true) (MM I sp true) Q := by
  refine aRuns_of pn_X11_chain (Nat.le_of_ble_eq_true rfl) (fun z => aE_loc (ls' := [_, _, _]) rfl ?_)
  refine aE_iload_n dX11_chain_0 rfl rfl ?_
  refine aE_if_lt (tgt := 8) dX11_chain_1 (by decide) (fun h1 => ?_) (fun h1 => ?_)
  · skip
    refine aE_aload_n dX11_chain_8 rfl rfl ?_
    refine aE_ldc dX11_chain_9 ct_X11_78 ?_
    refine aE_cVi dX11_chain_11 lk_X11_62 mv_X11_found (c_found _) rfl (lt_nn (by decide)) rfl rfl ⟨by decide, by decide⟩ (Nat.le_of_ble_eq_true rfl) ⟨rfl, rfl⟩ ⟨by decide, by decide⟩ ?_
    refine aE_iret dX11_chain_14 rfl ⟨by decide, by decide⟩ ?_
    first
      | exact hB (Or.inl h1)
      | exact hB (Or.inr (Int32.not_le.mp h5))
  · skip
    refine aE_iload_n dX11_chain_4 rfl rfl ?_
    refine aE_if_ge (tgt := 15) dX11_chain_5 (by decide) (fun h5 => ?_) (fun h5 => ?_)
    · skip
      refine aE_aload_n dX11_chain_15 rfl rfl ?_
      refine aE_cVq dX11_chain_16 lk_X11_225 mv_X11_linkChains (c_linkChains_t (Q := (fun (r : Option Value) (n' : Nat) (m' : aM) => n' = nn true ∧ ((r = some (.int 0) ∧ ∃ J, m' = MM J sp true ∧ DP I J sp ns nstr nc d cs fr to ∧ allH d cs (alC I sp d) ns = false) ∨ (r = some (.int 1) ∧ ∃ K, m' = MM K sp true ∧ LC I K sp ns nstr nc d cs fr to ∧ allH d cs (alC I sp d) ns = true)))) hW hbe hsl hst hch (fun J a b => ⟨rfl, Or.inl ⟨rfl, J, rfl, a, b⟩⟩) (fun K a b => ⟨rfl, Or.inr ⟨rfl, K, rfl, a, b⟩⟩)) rfl (lt_nn (by decide)) rfl rfl ⟨by decide, by decide⟩ (Nat.le_of_ble_eq_true rfl) ⟨rfl, rfl⟩ ⟨by decide, by decide⟩ ?_
      rintro r n' m' ⟨rfl, ⟨rfl, J, rfl, hJ, hah⟩ | ⟨rfl, K, rfl, hK, hah⟩⟩
      · skip
        refine aE_if_eq (tgt := 33) dX11_chain_19 (by decide) (fun h19 => ?_) (fun h19 => absurd (rfl) h19)
        refine aE_aload_n dX11_chain_33 rfl rfl ?_
        refine aE_ldc dX11_chain_34 ct_X11_98 ?_
        refine aE_cVi dX11_chain_36 lk_X11_62 mv_X11_found (c_found _) rfl (lt_nn (by decide)) rfl rfl ⟨by decide, by decide⟩ (Nat.le_of_ble_eq_true rfl) ⟨rfl, rfl⟩ ⟨by decide, by decide⟩ ?_
        refine aE_iret dX11_chain_39 rfl ⟨by decide, by decide⟩ ?_
        exact hN0 J h1 h5 hJ hah
      · have hK2 := hK
        obtain ⟨⟨J, hJ, hJK⟩, k08, kch, kW, kP, kF, k07⟩ := hK
        have hA := CW_al hW
        have h10 := hA.2.1
        have htk := tkG_lt (fC I sp ns d cs) (RR d cs (alC I sp d) ns).length (RR d cs (alC I sp d) ns).length
        have hp := pow10' h10
        obtain ⟨bb, hbb, rfl⟩ := nI_of h1
        obtain ⟨ii, hii, rfl⟩ := nI_of (Int32.not_lt.mpr h5)
        have hfir : (fun r => isF (nxG (fC I sp ns d cs) (RR d cs (alC I sp d) ns).length) r (RR d cs (alC I sp d) ns).length) = (fun r => !(tkG (fC I sp ns d cs) (RR d cs (alC I sp d) ns).length (RR d cs (alC I sp d) ns).length).testBit r) := funext fun r => isF_tk
        have hcnt := cntP_cd htk
        have hcE := cntE_P (fir := fun r => !(tkG (fC I sp ns d cs) (RR d cs (alC I sp d) ns).length (RR d cs (alC I sp d) ns).length).testBit r) (n := (RR d cs (alC I sp d) ns).length) (RR d cs (alC I sp d) ns).length (Nat.le_refl _)
        have hc0 : cntP (fun r => !(tkG (fC I sp ns d cs) (RR d cs (alC I sp d) ns).length (RR d cs (alC I sp d) ns).length).testBit r) ((RR d cs (alC I sp d) ns).length - (RR d cs (alC I sp d) ns).length) = 0 := by rw [Nat.sub_self]; rfl
        have hbig := cdB_big htk 10 h10
        have hsub : nI (RR d cs (alC I sp d) ns).length - nI (cdB (tkG (fC I sp ns d cs) (RR d cs (alC I sp d) ns).length (RR d cs (alC I sp d) ns).length) 10) = nI ((RR d cs (alC I sp d) ns).length - cdB (tkG (fC I sp ns d cs) (RR d cs (alC I sp d) ns).length (RR d cs (alC I sp d) ns).length) 10) := by
          rw [show nI (RR d cs (alC I sp d) ns).length = nI ((RR d cs (alC I sp d) ns).length - cdB (tkG (fC I sp ns d cs) (RR d cs (alC I sp d) ns).length (RR d cs (alC I sp d) ns).length) 10) + nI (cdB (tkG (fC I sp ns d cs) (RR d cs (alC I sp d) ns).length (RR d cs (alC I sp d) ns).length) 10) by rw [nI_add, Nat.sub_add_cancel (by omega)], Int32.add_sub_cancel]
        have hki := kth_iff (fir := fun r => !(tkG (fC I sp ns d cs) (RR d cs (alC I sp d) ns).length (RR d cs (alC I sp d) ns).length).testBit r) (n := (RR d cs (alC I sp d) ns).length) (bb := bb) (RR d cs (alC I sp d) ns).length 0 (Nat.zero_le _)
        refine aE_if_eq (tgt := 33) dX11_chain_19 (by decide) (fun h19 => absurd h19 (by decide)) (fun h19 => ?_)
        refine aE_iload_n dX11_chain_22 rfl rfl ?_
        refine aE_aload_n dX11_chain_23 rfl rfl ?_
        refine aE_getf (v := .ref 54) dX11_chain_24 fw_X11_19 (lt_nn (by decide)) rfl rfl ?_
        refine aE_cVi dX11_chain_27 lk_X11_229 mv_X1_busCount (c_busCount (RR d cs (alC I sp d) ns).length (tkG (fC I sp ns d cs) (RR d cs (alC I sp d) ns).length (RR d cs (alC I sp d) ns).length) kF.2.1 kch.2 (by omega)) rfl (lt_nn (by decide)) rfl rfl ⟨by decide, by decide⟩ (Nat.le_of_ble_eq_true rfl) ⟨rfl, rfl⟩ ⟨by decide, by decide⟩ ?_
        refine aE_top hsub ?_
        refine aE_icmp_lt (tgt := 40) dX11_chain_30 (by decide) (fun h30 => ?_) (fun h30 => ?_)
        · skip
          obtain ⟨r0, hr0⟩ : ∃ r0, kth (fun r => isF (nxG (fC I sp ns d cs) (RR d cs (alC I sp d) ns).length) r (RR d cs (alC I sp d) ns).length) (RR d cs (alC I sp d) ns).length bb (RR d cs (alC I sp d) ns).length 0 = some r0 := by
            cases hk : kth (fun r => isF (nxG (fC I sp ns d cs) (RR d cs (alC I sp d) ns).length) r (RR d cs (alC I sp d) ns).length) (RR d cs (alC I sp d) ns).length bb (RR d cs (alC I sp d) ns).length 0 with
            | some r0 => exact ⟨r0, rfl⟩
            | none =>
              rw [hfir, hki] at hk
              have := (nI_ltI hbb (by omega)).mp h30
              omega
          have hr0n := kth_lt _ _ (Nat.le_refl _) hr0
          have hr1 := hr0
          rw [hfir] at hr1
          refine aE_aload_n dX11_chain_40 rfl rfl ?_
          refine aE_getf (v := .ref 54) dX11_chain_41 fw_X11_19 (lt_nn (by decide)) rfl rfl ?_
          refine aE_iload_n dX11_chain_44 rfl rfl ?_
          refine aE_iload_n dX11_chain_45 rfl rfl ?_
          refine aE_cVi dX11_chain_46 lk_X11_232 mv_X1_driven (c_driven (nxG (fC I sp ns d cs) (RR d cs (alC I sp d) ns).length) (RR d cs (alC I sp d) ns).length (tkG (fC I sp ns d cs) (RR d cs (alC I sp d) ns).length (RR d cs (alC I sp d) ns).length) bb ii kF.2.1 h10 hii kch.1 (fun a b ha hn => (nxG_some hn).1) kch.2 (by omega) hbb r0 hr1) rfl (lt_nn (by decide)) rfl rfl ⟨by decide, by decide⟩ (Nat.le_of_ble_eq_true rfl) ⟨rfl, rfl⟩ ⟨by decide, by decide⟩ ?_
          refine aE_iret dX11_chain_49 rfl ⟨by decide, by decide⟩ ?_
          rw [itN_cap hdp hdn hr0n]
          exact hO K bb ii r0 hbb hii rfl rfl hK2 hah hr0
        · skip
          have hno : kth (fun r => isF (nxG (fC I sp ns d cs) (RR d cs (alC I sp d) ns).length) r (RR d cs (alC I sp d) ns).length) (RR d cs (alC I sp d) ns).length bb (RR d cs (alC I sp d) ns).length 0 = none := by
            rw [hfir, hki]
            have := (nI_leI (by omega) hbb).mp (Int32.not_lt.mp h30)
            omega
          refine aE_aload_n dX11_chain_33 rfl rfl ?_
          refine aE_ldc dX11_chain_34 ct_X11_98 ?_
          refine aE_cVi dX11_chain_36 lk_X11_62 mv_X11_found (c_found _) rfl (lt_nn (by decide)) rfl rfl ⟨by decide, by decide⟩ (Nat.le_of_ble_eq_true rfl) ⟨rfl, rfl⟩ ⟨by decide, by decide⟩ ?_
          refine aE_iret dX11_chain_39 rfl ⟨by decide, by decide⟩ ?_
          exact hN K bb hbb rfl hK2 hah hno
    · skip
      refine aE_aload_n dX11_chain_8 rfl rfl ?_
      refine aE_ldc dX11_chain_9 ct_X11_78 ?_
      refine aE_cVi dX11_chain_11 lk_X11_62 mv_X11_found (c_found _) rfl (lt_nn (by decide)) rfl rfl ⟨by decide, by decide⟩ (Nat.le_of_ble_eq_true rfl) ⟨rfl, rfl⟩ ⟨by decide, by decide⟩ ?_
      refine aE_iret dX11_chain_14 rfl ⟨by decide, by decide⟩ ?_
      first
        | exact hB (Or.inl h1)
        | exact hB (Or.inr (Int32.not_le.mp h5))

set_option maxRecDepth 20000 in
theorem c_cha2_f (v i : Int32) (dp : Nat → Nat) (hW : CW I sp ns nstr nc d cs fr to) (hbe : ∀ s, s < ns → 0 ≤ (I 26 s).toInt ∧ (I 26 s).toInt ≤ 6) (hsl : 0 ≤ (I 1 8).toInt ∧ (I 1 8).toInt ≤ 30) (hch : ¬ I 0 8 = 0 → ¬ I 0 7 = 0 ∧ ChC I (fC I sp ns d cs) (RR d cs (alC I sp d) ns).length) (hdp : dpOK (nxG (fC I sp ns d cs) (RR d cs (alC I sp d) ns).length) (RR d cs (alC I sp d) ns).length dp) (hdn : ∀ r, r < (RR d cs (alC I sp d) ns).length → dp r < (RR d cs (alC I sp d) ns).length) (h07 : I 0 7 = 0) (hG : ¬ (v < 0 ∨ i < 0)) (hN0 : ∀ J, ¬ v < 0 → 0 ≤ i → DP I J sp ns nstr nc d cs fr to → allH d cs (alC I sp d) ns = false → qi Q (-1000004) (fnd J) sp true) (hN : ∀ K bb, bb < 2 ^ 31 → v = nI bb → LC I K sp ns nstr nc d cs fr to → allH d cs (alC I sp d) ns = true → kth (fun r => isF (nxG (fC I sp ns d cs) (RR d cs (alC I sp d) ns).length) r (RR d cs (alC I sp d) ns).length) (RR d cs (alC I sp d) ns).length bb (RR d cs (alC I sp d) ns).length 0 = none → qi Q (-1000004) (fnd K) sp true) (hO : ∀ K bb ii r, bb < 2 ^ 31 → ii < 2 ^ 31 → v = nI bb → i = nI ii → LC I K sp ns nstr nc d cs fr to → allH d cs (alC I sp d) ns = true → kth (fun r => isF (nxG (fC I sp ns d cs) (RR d cs (alC I sp d) ns).length) r (RR d cs (alC I sp d) ns).length) (RR d cs (alC I sp d) ns).length bb (RR d cs (alC I sp d) ns).length 0 = some r → qi Q (rv (itN (nxG (fC I sp ns d cs) (RR d cs (alC I sp d) ns).length) ii (some r))) K sp true) : aRuns mX11_chain (rP 7) [.ref 0, .int v, .int i] (nn false) (MM I sp false) Q := by
  refine aRuns_of pn_X11_chain (Nat.le_of_ble_eq_true rfl) (fun z => aE_loc (ls' := [_, _, _]) rfl ?_)
  refine aE_iload_n dX11_chain_0 rfl rfl ?_
  refine aE_if_lt (tgt := 8) dX11_chain_1 (by decide) (fun h1 => ?_) (fun h1 => ?_)
  · skip
    refine aE_aload_n dX11_chain_8 rfl rfl ?_
    refine aE_ldc dX11_chain_9 ct_X11_78 ?_
    refine aE_cVi dX11_chain_11 lk_X11_62 mv_X11_found (c_found _) rfl (lt_nn (by decide)) rfl rfl ⟨by decide, by decide⟩ (Nat.le_of_ble_eq_true rfl) ⟨rfl, rfl⟩ ⟨by decide, by decide⟩ ?_
    refine aE_iret dX11_chain_14 rfl ⟨by decide, by decide⟩ ?_
    first
      | exact absurd (Or.inl h1) hG
      | exact absurd (Or.inr (Int32.not_le.mp h5)) hG
  · skip
    refine aE_iload_n dX11_chain_4 rfl rfl ?_
    refine aE_if_ge (tgt := 15) dX11_chain_5 (by decide) (fun h5 => ?_) (fun h5 => ?_)
    · skip
      refine aE_aload_n dX11_chain_15 rfl rfl ?_
      refine aE_callV dX11_chain_16 lk_X11_225 mv_X11_linkChains (c_linkChains_f (Q := (fun (r : Option Value) (n' : Nat) (m' : aM) => n' = nn true ∧ ((r = some (.int 0) ∧ ∃ J, m' = MM J sp true ∧ DP I J sp ns nstr nc d cs fr to ∧ allH d cs (alC I sp d) ns = false) ∨ (r = some (.int 1) ∧ ∃ K, m' = MM K sp true ∧ LC I K sp ns nstr nc d cs fr to ∧ allH d cs (alC I sp d) ns = true)))) hW hbe hsl h07 hch (fun J a b => ⟨rfl, Or.inl ⟨rfl, J, rfl, a, b⟩⟩) (fun K a b => ⟨rfl, Or.inr ⟨rfl, K, rfl, a, b⟩⟩)) rfl (lt_nn (by decide)) rfl rfl ⟨by decide, by decide⟩ (Nat.le_of_ble_eq_true rfl) ⟨by decide, by decide⟩ ?_
      rintro r n' m' ⟨rfl, ⟨rfl, J, rfl, hJ, hah⟩ | ⟨rfl, K, rfl, hK, hah⟩⟩
      · skip
        refine aE_if_eq (tgt := 33) dX11_chain_19 (by decide) (fun h19 => ?_) (fun h19 => absurd (rfl) h19)
        refine aE_aload_n dX11_chain_33 rfl rfl ?_
        refine aE_ldc dX11_chain_34 ct_X11_98 ?_
        refine aE_cVi dX11_chain_36 lk_X11_62 mv_X11_found (c_found _) rfl (lt_nn (by decide)) rfl rfl ⟨by decide, by decide⟩ (Nat.le_of_ble_eq_true rfl) ⟨rfl, rfl⟩ ⟨by decide, by decide⟩ ?_
        refine aE_iret dX11_chain_39 rfl ⟨by decide, by decide⟩ ?_
        exact hN0 J h1 h5 hJ hah
      · have hK2 := hK
        obtain ⟨⟨J, hJ, hJK⟩, k08, kch, kW, kP, kF, k07⟩ := hK
        have hA := CW_al hW
        have h10 := hA.2.1
        have htk := tkG_lt (fC I sp ns d cs) (RR d cs (alC I sp d) ns).length (RR d cs (alC I sp d) ns).length
        have hp := pow10' h10
        obtain ⟨bb, hbb, rfl⟩ := nI_of h1
        obtain ⟨ii, hii, rfl⟩ := nI_of (Int32.not_lt.mpr h5)
        have hfir : (fun r => isF (nxG (fC I sp ns d cs) (RR d cs (alC I sp d) ns).length) r (RR d cs (alC I sp d) ns).length) = (fun r => !(tkG (fC I sp ns d cs) (RR d cs (alC I sp d) ns).length (RR d cs (alC I sp d) ns).length).testBit r) := funext fun r => isF_tk
        have hcnt := cntP_cd htk
        have hcE := cntE_P (fir := fun r => !(tkG (fC I sp ns d cs) (RR d cs (alC I sp d) ns).length (RR d cs (alC I sp d) ns).length).testBit r) (n := (RR d cs (alC I sp d) ns).length) (RR d cs (alC I sp d) ns).length (Nat.le_refl _)
        have hc0 : cntP (fun r => !(tkG (fC I sp ns d cs) (RR d cs (alC I sp d) ns).length (RR d cs (alC I sp d) ns).length).testBit r) ((RR d cs (alC I sp d) ns).length - (RR d cs (alC I sp d) ns).length) = 0 := by rw [Nat.sub_self]; rfl
        have hbig := cdB_big htk 10 h10
        have hsub : nI (RR d cs (alC I sp d) ns).length - nI (cdB (tkG (fC I sp ns d cs) (RR d cs (alC I sp d) ns).length (RR d cs (alC I sp d) ns).length) 10) = nI ((RR d cs (alC I sp d) ns).length - cdB (tkG (fC I sp ns d cs) (RR d cs (alC I sp d) ns).length (RR d cs (alC I sp d) ns).length) 10) := by
          rw [show nI (RR d cs (alC I sp d) ns).length = nI ((RR d cs (alC I sp d) ns).length - cdB (tkG (fC I sp ns d cs) (RR d cs (alC I sp d) ns).length (RR d cs (alC I sp d) ns).length) 10) + nI (cdB (tkG (fC I sp ns d cs) (RR d cs (alC I sp d) ns).length (RR d cs (alC I sp d) ns).length) 10) by rw [nI_add, Nat.sub_add_cancel (by omega)], Int32.add_sub_cancel]
        have hki := kth_iff (fir := fun r => !(tkG (fC I sp ns d cs) (RR d cs (alC I sp d) ns).length (RR d cs (alC I sp d) ns).length).testBit r) (n := (RR d cs (alC I sp d) ns).length) (bb := bb) (RR d cs (alC I sp d) ns).length 0 (Nat.zero_le _)
        refine aE_if_eq (tgt := 33) dX11_chain_19 (by decide) (fun h19 => absurd h19 (by decide)) (fun h19 => ?_)
        refine aE_iload_n dX11_chain_22 rfl rfl ?_
        refine aE_aload_n dX11_chain_23 rfl rfl ?_
        refine aE_getf (v := .ref 54) dX11_chain_24 fw_X11_19 (lt_nn (by decide)) rfl rfl ?_
        refine aE_cVi dX11_chain_27 lk_X11_229 mv_X1_busCount (c_busCount (RR d cs (alC I sp d) ns).length (tkG (fC I sp ns d cs) (RR d cs (alC I sp d) ns).length (RR d cs (alC I sp d) ns).length) kF.2.1 kch.2 (by omega)) rfl (lt_nn (by decide)) rfl rfl ⟨by decide, by decide⟩ (Nat.le_of_ble_eq_true rfl) ⟨rfl, rfl⟩ ⟨by decide, by decide⟩ ?_
        refine aE_top hsub ?_
        refine aE_icmp_lt (tgt := 40) dX11_chain_30 (by decide) (fun h30 => ?_) (fun h30 => ?_)
        · skip
          obtain ⟨r0, hr0⟩ : ∃ r0, kth (fun r => isF (nxG (fC I sp ns d cs) (RR d cs (alC I sp d) ns).length) r (RR d cs (alC I sp d) ns).length) (RR d cs (alC I sp d) ns).length bb (RR d cs (alC I sp d) ns).length 0 = some r0 := by
            cases hk : kth (fun r => isF (nxG (fC I sp ns d cs) (RR d cs (alC I sp d) ns).length) r (RR d cs (alC I sp d) ns).length) (RR d cs (alC I sp d) ns).length bb (RR d cs (alC I sp d) ns).length 0 with
            | some r0 => exact ⟨r0, rfl⟩
            | none =>
              rw [hfir, hki] at hk
              have := (nI_ltI hbb (by omega)).mp h30
              omega
          have hr0n := kth_lt _ _ (Nat.le_refl _) hr0
          have hr1 := hr0
          rw [hfir] at hr1
          refine aE_aload_n dX11_chain_40 rfl rfl ?_
          refine aE_getf (v := .ref 54) dX11_chain_41 fw_X11_19 (lt_nn (by decide)) rfl rfl ?_
          refine aE_iload_n dX11_chain_44 rfl rfl ?_
          refine aE_iload_n dX11_chain_45 rfl rfl ?_
          refine aE_cVi dX11_chain_46 lk_X11_232 mv_X1_driven (c_driven (nxG (fC I sp ns d cs) (RR d cs (alC I sp d) ns).length) (RR d cs (alC I sp d) ns).length (tkG (fC I sp ns d cs) (RR d cs (alC I sp d) ns).length (RR d cs (alC I sp d) ns).length) bb ii kF.2.1 h10 hii kch.1 (fun a b ha hn => (nxG_some hn).1) kch.2 (by omega) hbb r0 hr1) rfl (lt_nn (by decide)) rfl rfl ⟨by decide, by decide⟩ (Nat.le_of_ble_eq_true rfl) ⟨rfl, rfl⟩ ⟨by decide, by decide⟩ ?_
          refine aE_iret dX11_chain_49 rfl ⟨by decide, by decide⟩ ?_
          rw [itN_cap hdp hdn hr0n]
          exact hO K bb ii r0 hbb hii rfl rfl hK2 hah hr0
        · skip
          have hno : kth (fun r => isF (nxG (fC I sp ns d cs) (RR d cs (alC I sp d) ns).length) r (RR d cs (alC I sp d) ns).length) (RR d cs (alC I sp d) ns).length bb (RR d cs (alC I sp d) ns).length 0 = none := by
            rw [hfir, hki]
            have := (nI_leI (by omega) hbb).mp (Int32.not_lt.mp h30)
            omega
          refine aE_aload_n dX11_chain_33 rfl rfl ?_
          refine aE_ldc dX11_chain_34 ct_X11_98 ?_
          refine aE_cVi dX11_chain_36 lk_X11_62 mv_X11_found (c_found _) rfl (lt_nn (by decide)) rfl rfl ⟨by decide, by decide⟩ (Nat.le_of_ble_eq_true rfl) ⟨rfl, rfl⟩ ⟨by decide, by decide⟩ ?_
          refine aE_iret dX11_chain_39 rfl ⟨by decide, by decide⟩ ?_
          exact hN K bb hbb rfl hK2 hah hno
    · skip
      refine aE_aload_n dX11_chain_8 rfl rfl ?_
      refine aE_ldc dX11_chain_9 ct_X11_78 ?_
      refine aE_cVi dX11_chain_11 lk_X11_62 mv_X11_found (c_found _) rfl (lt_nn (by decide)) rfl rfl ⟨by decide, by decide⟩ (Nat.le_of_ble_eq_true rfl) ⟨rfl, rfl⟩ ⟨by decide, by decide⟩ ?_
      refine aE_iret dX11_chain_14 rfl ⟨by decide, by decide⟩ ?_
      first
        | exact absurd (Or.inl h1) hG
        | exact absurd (Or.inr (Int32.not_le.mp h5)) hG

set_option maxRecDepth 20000 in
theorem c_cha2_b (v i : Int32) (dp : Nat → Nat) (hW : CW I sp ns nstr nc d cs fr to) (hbe : ∀ s, s < ns → 0 ≤ (I 26 s).toInt ∧ (I 26 s).toInt ≤ 6) (hsl : 0 ≤ (I 1 8).toInt ∧ (I 1 8).toInt ≤ 30) (hch : ¬ I 0 8 = 0 → ¬ I 0 7 = 0 ∧ ChC I (fC I sp ns d cs) (RR d cs (alC I sp d) ns).length) (hdp : dpOK (nxG (fC I sp ns d cs) (RR d cs (alC I sp d) ns).length) (RR d cs (alC I sp d) ns).length dp) (hdn : ∀ r, r < (RR d cs (alC I sp d) ns).length → dp r < (RR d cs (alC I sp d) ns).length) (hb : v < 0 ∨ i < 0) (hB : qi Q (-1000001) (fnd I) sp false) : aRuns mX11_chain (rK 7) [.ref 0, .int v, .int i] (nn false) (MM I sp false) Q := by
  refine aRuns_of pn_X11_chain (Nat.le_of_ble_eq_true rfl) (fun z => aE_loc (ls' := [_, _, _]) rfl ?_)
  refine aE_iload_n dX11_chain_0 rfl rfl ?_
  refine aE_if_lt (tgt := 8) dX11_chain_1 (by decide) (fun h1 => ?_) (fun h1 => ?_)
  · skip
    refine aE_aload_n dX11_chain_8 rfl rfl ?_
    refine aE_ldc dX11_chain_9 ct_X11_78 ?_
    refine aE_cVi dX11_chain_11 lk_X11_62 mv_X11_found (c_found _) rfl (lt_nn (by decide)) rfl rfl ⟨by decide, by decide⟩ (Nat.le_of_ble_eq_true rfl) ⟨rfl, rfl⟩ ⟨by decide, by decide⟩ ?_
    refine aE_iret dX11_chain_14 rfl ⟨by decide, by decide⟩ ?_
    exact hB
  · skip
    refine aE_iload_n dX11_chain_4 rfl rfl ?_
    refine aE_if_ge (tgt := 15) dX11_chain_5 (by decide) (fun h5 => ?_) (fun h5 => ?_)
    · skip
      exact absurd hb (fun q => by rcases q with q | q; exact h1 q; exact Int32.not_le.mpr q h5)
    · skip
      refine aE_aload_n dX11_chain_8 rfl rfl ?_
      refine aE_ldc dX11_chain_9 ct_X11_78 ?_
      refine aE_cVi dX11_chain_11 lk_X11_62 mv_X11_found (c_found _) rfl (lt_nn (by decide)) rfl rfl ⟨by decide, by decide⟩ (Nat.le_of_ble_eq_true rfl) ⟨rfl, rfl⟩ ⟨by decide, by decide⟩ ?_
      refine aE_iret dX11_chain_14 rfl ⟨by decide, by decide⟩ ?_
      exact hB

end KFCCHA2
