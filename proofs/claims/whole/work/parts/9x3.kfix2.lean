section KFMMOR2
variable {z : Nat × (Nat → Int32)} {n : Nat} {mem : aM} {I : Nat → Nat → Int32} {sp : Nat → Nat} {pl : Bool} {Q : Option Value → Nat → aM → Prop} {R : Room}
set_option maxRecDepth 20000 in
theorem m_mor2 (route late snow : Int32) (dp : Nat → Nat) (ns nstr nc : Nat) (d : pD) (cs : Nat → pC) (fr to : Nat → Nat) (hW : MW I ns nstr nc d cs fr to) (hst : ¬ I 101 29 = 0 → PlM I d cs (alM I d) ns) (hdp : dpOK (nxG (mayF d cs (fun s => I 108 s) (I 101 9) (RR d cs (alM I d) ns)) (RR d cs (alM I d) ns).length) (RR d cs (alM I d) ns).length dp) (hdn : ∀ r, r < (RR d cs (alM I d) ns).length → dp r < (RR d cs (alM I d) ns).length) (hB : (route < 0 ∨ wi late 0 60 = 0 ∨ wi snow 0 10 = 0) → qi Q (-1000001) (fndM I) sp pl) (hN : ∀ J, ¬ route < 0 → FrP I J → MS J ns d cs (alM I d) → (allH d cs (alM I d) ns = false ∨ nI (RR d cs (alM I d) ns).length ≤ route) → qi Q (-1000004) (fndM J) sp pl) (hO : ∀ J D (C : Nat → Int32), (∀ r, C r = I 144 r) → D = dTab fr to (I 104) (I 105) snow nstr → ¬ route < 0 → route < nI (RR d cs (alM I d) ns).length → (∀ q i, ¬ (121 ≤ q ∧ q ≤ 135) → q ≠ 144 → q ≠ 145 → ¬ (q = 101 ∧ (i = 29 ∨ i = 42 ∨ i = 43 ∨ i = 57)) → J q i = I q i) → ¬ J 101 29 = 0 → PlM J d cs (alM I d) ns → allH d cs (alM I d) ns = true → J 101 57 = nI (RR d cs (alM I d) ns).length → (∀ r, r < (RR d cs (alM I d) ns).length → J 144 r = (drA (mpM d cs (RR d cs (alM I d) ns) D (fun s => I 108 s) (I 112) route late) (nxG (mayF d cs (fun s => I 108 s) (I 101 9) (RR d cs (alM I d) ns)) (RR d cs (alM I d) ns).length) (fun r => isF (nxG (mayF d cs (fun s => I 108 s) (I 101 9) (RR d cs (alM I d) ns)) (RR d cs (alM I d) ns).length) r (RR d cs (alM I d) ns).length) (RR d cs (alM I d) ns).length (RR d cs (alM I d) ns).length (C, 0)).1 r) → qi Q (drA (mpM d cs (RR d cs (alM I d) ns) D (fun s => I 108 s) (I 112) route late) (nxG (mayF d cs (fun s => I 108 s) (I 101 9) (RR d cs (alM I d) ns)) (RR d cs (alM I d) ns).length) (fun r => isF (nxG (mayF d cs (fun s => I 108 s) (I 101 9) (RR d cs (alM I d) ns)) (RR d cs (alM I d) ns).length) r (RR d cs (alM I d) ns).length) (RR d cs (alM I d) ns).length (RR d cs (alM I d) ns).length (C, 0)).2 J sp pl) : aRuns mX12_morning (rK 6) [.ref 101, .int route, .int late, .int snow] (nn pl) (MM I sp pl) Q := by
  refine aRuns_of pn_X12_morning (Nat.le_of_ble_eq_true rfl) (fun z => aE_loc (ls' := [_, _, _, _, _, _, _, _, _, _]) rfl ?_)
  refine aE_iload_n dX12_morning_0 rfl rfl ?_
  refine aE_if_lt (tgt := 24) dX12_morning_1 (by decide) (fun h1 => ?_) (fun h1 => ?_)
  · skip
    refine aE_aload_n dX12_morning_24 rfl rfl ?_
    refine aE_ldc dX12_morning_25 ct_X12_185 ?_
    refine aE_cVi dX12_morning_27 lk_X12_177 mv_X12_finds (c_finds _) rfl (lt_nn (by decide)) rfl rfl ⟨by decide, by decide⟩ (Nat.le_of_ble_eq_true rfl) ⟨rfl, rfl⟩ ⟨by decide, by decide⟩ ?_
    refine aE_iret dX12_morning_30 rfl ⟨by decide, by decide⟩ ?_
    refine hB ?_
    first | exact Or.inl h1 | exact Or.inr (Or.inl h11) | exact Or.inr (Or.inr (by first | exact h21 | exact Classical.not_not.mp h21))
  · skip
    refine aE_iload_n dX12_morning_4 rfl rfl ?_
    refine aE_iconst (v := 0) dX12_morning_5 rfl ?_
    refine aE_bipush (v := 60) dX12_morning_6 (by decide) ?_
    refine aE_cSi dX12_morning_8 lk_X12_159 ms_X12_in (c_in _ _ _) rfl rfl ⟨by decide, by decide⟩ (Nat.le_of_ble_eq_true rfl) ⟨rfl, rfl⟩ ⟨by decide, by decide⟩ ?_
    refine aE_if_eq (tgt := 24) dX12_morning_11 (by decide) (fun h11 => ?_) (fun h11 => ?_)
    · skip
      refine aE_aload_n dX12_morning_24 rfl rfl ?_
      refine aE_ldc dX12_morning_25 ct_X12_185 ?_
      refine aE_cVi dX12_morning_27 lk_X12_177 mv_X12_finds (c_finds _) rfl (lt_nn (by decide)) rfl rfl ⟨by decide, by decide⟩ (Nat.le_of_ble_eq_true rfl) ⟨rfl, rfl⟩ ⟨by decide, by decide⟩ ?_
      refine aE_iret dX12_morning_30 rfl ⟨by decide, by decide⟩ ?_
      refine hB ?_
      first | exact Or.inl h1 | exact Or.inr (Or.inl h11) | exact Or.inr (Or.inr (by first | exact h21 | exact Classical.not_not.mp h21))
    · skip
      refine aE_iload_n dX12_morning_14 rfl rfl ?_
      refine aE_iconst (v := 0) dX12_morning_15 rfl ?_
      refine aE_bipush (v := 10) dX12_morning_16 (by decide) ?_
      refine aE_cSi dX12_morning_18 lk_X12_159 ms_X12_in (c_in _ _ _) rfl rfl ⟨by decide, by decide⟩ (Nat.le_of_ble_eq_true rfl) ⟨rfl, rfl⟩ ⟨by decide, by decide⟩ ?_
      refine aE_if_ne (tgt := 31) dX12_morning_21 (by decide) (fun h21 => ?_) (fun h21 => ?_)
      · skip
        refine aE_aload_n dX12_morning_31 rfl rfl ?_
        refine aE_cVq dX12_morning_32 lk_X12_243 mv_X12_plan (m_planS (Q := (fun (r : Option Value) (n' : Nat) (m' : aM) => r = none ∧ n' = nn pl ∧ ∃ J, m' = MM J sp pl ∧ FrP I J ∧ MS J ns d cs (alM I d))) ns nstr nc d cs fr to hW hst (fun J h1 h2 => ⟨rfl, rfl, J, rfl, h1, h2⟩)) rfl (lt_nn (by decide)) rfl rfl ⟨by decide, by decide⟩ (Nat.le_of_ble_eq_true rfl) ⟨rfl, rfl⟩ ⟨by decide, by decide⟩ ?_
        rintro r n' m' ⟨rfl, rfl, J, rfl, hJ, hM⟩
        have hha : J 101 43 = if allH d cs (alM I d) ns then 1 else 0 := hM.2.2.2.2.1.2.2.2.2
        have hll : J 101 42 = nI (RR d cs (alM I d) ns).length := hM.2.2.2.2.1.2.2.1.1
        have hl10 := hM.2.2.2.2.2.2.1
        refine aE_aload_n dX12_morning_35 rfl rfl ?_
        refine aE_geti dX12_morning_36 fw_X12_233 (lt_nn (by decide)) rfl (by decide) rfl ?_
        refine aE_top hha ?_
        refine aE_if_eq (tgt := 50) dX12_morning_39 (by decide) (fun h39 => ?_) (fun h39 => ?_)
        · skip
          refine aE_aload_n dX12_morning_50 rfl rfl ?_
          refine aE_ldc dX12_morning_51 ct_X12_197 ?_
          refine aE_cVi dX12_morning_53 lk_X12_177 mv_X12_finds (c_finds _) rfl (lt_nn (by decide)) rfl rfl ⟨by decide, by decide⟩ (Nat.le_of_ble_eq_true rfl) ⟨rfl, rfl⟩ ⟨by decide, by decide⟩ ?_
          refine aE_iret dX12_morning_56 rfl ⟨by decide, by decide⟩ ?_
          first | exact hN J h1 hJ hM (Or.inl (Bool.eq_false_iff.mpr (fun q => by rw [if_pos q] at h39; exact absurd h39 (by decide)))) | exact hN J h1 hJ hM (Or.inr (Int32.not_lt.mp h47))
        · skip
          refine aE_iload_n dX12_morning_42 rfl rfl ?_
          refine aE_aload_n dX12_morning_43 rfl rfl ?_
          refine aE_geti dX12_morning_44 fw_X12_230 (lt_nn (by decide)) rfl (by decide) rfl ?_
          refine aE_top hll ?_
          refine aE_icmp_lt (tgt := 57) dX12_morning_47 (by decide) (fun h47 => ?_) (fun h47 => ?_)
          · skip
            refine aE_aload_n dX12_morning_57 rfl rfl ?_
            refine aE_cVq dX12_morning_58 lk_X12_271 mv_X12_findChains (m_findChains (Q := (fun (r : Option Value) (n' : Nat) (m' : aM) => r = none ∧ n' = nn pl ∧ ∃ K, m' = MM K sp pl ∧ MC I K ns d cs)) ns nstr nc d cs fr to (MW_fr hW hJ) (fun _ => (alM_fr (d := d) hJ).symm ▸ hM.2.2.2.2.1) (fun K h => ⟨rfl, rfl, K, rfl, MC_tr hJ h⟩)) rfl (lt_nn (by decide)) rfl rfl ⟨by decide, by decide⟩ (Nat.le_of_ble_eq_true rfl) ⟨rfl, rfl⟩ ⟨by decide, by decide⟩ ?_
            rintro r n' m' ⟨rfl, rfl, K, rfl, hC⟩
            have hCM := hC.2.2.1
            have hCl : K 101 42 = nI (RR d cs (alM I d) ns).length := hCM.2.2.2.2.1.2.2.1.1
            have hCn := hCM.2.2.2.2.2.2.1
            refine aE_iconst (v := 0) dX12_morning_61 rfl ?_
            refine aE_istore dX12_morning_62 (by decide) rfl (aE_loc (ls' := [_, _, _, _, _, _, _, _, _, _]) rfl ?_)
            have hah := (Classical.byContradiction (fun q => by rw [if_neg q] at h39; exact h39 rfl))
            refine l_mo3 ns d cs (alM I d) K hCM route late snow _ _ _ _ (fun J2 l5 j1 j2 => ?_) (RR d cs (alM I d) ns).length 0 K _ (by omega) (fun _ _ _ => rfl) (fun r' s S hr' k' hk' hlt => absurd hlt (by omega))
            have e104 : J2 104 = I 104 := funext fun i => (j1 104 i (by decide)).trans (hC.1 104 i (by omega) (by omega))
            have e105 : J2 105 = I 105 := funext fun i => (j1 105 i (by decide)).trans (hC.1 105 i (by omega) (by omega))
            have eI : ∀ q i, q < 121 → (q = 101 → i < 29) → J2 q i = I q i := fun q i h1 h2 => (j1 q i (by omega)).trans (hC.1 q i (by omega) (by omega))
            refine aE_aload_n dX12_morning_116 rfl rfl ?_
            refine aE_iload_n dX12_morning_117 rfl rfl ?_
            refine aE_cVv dX12_morning_118 lk_X12_193 mv_X12_findFars (m_findFars snow nstr nc fr to ((eI 101 1 (by omega) (by omega)).trans hW.2.2.1) hW.2.2.2.1 hW.2.2.2.2.1 (fun s hs => by
              obtain ⟨a, b, c, g⟩ := hW.2.2.2.2.2.1 s hs
              exact ⟨a, b, (eI 102 s (by omega) (by omega)).trans c, (eI 103 s (by omega) (by omega)).trans g⟩)) rfl (lt_nn (by decide)) rfl rfl ⟨by decide, by decide⟩ (Nat.le_of_ble_eq_true rfl) ⟨rfl, rfl⟩ ⟨by decide, by decide⟩ ?_
            rw [e104, e105]
            refine aE_iconst (v := 0) dX12_morning_121 rfl ?_
            refine aE_istore dX12_morning_122 (by decide) rfl (aE_loc (ls' := [_, _, _, _, _, _, _, _, _, _]) rfl ?_)
            refine aE_iconst (v := 0) dX12_morning_124 rfl ?_
            refine aE_istore dX12_morning_125 (by decide) rfl (aE_loc (ls' := [_, _, _, _, _, _, _, _, _, _]) rfl ?_)
            obtain ⟨D, hD⟩ : ∃ D, dTab fr to (I 104) (I 105) snow nstr = D := ⟨_, rfl⟩
            rw [hD]
            obtain ⟨K3, hK3⟩ : ∃ K3, pfk J2 64 D = K3 := ⟨_, rfl⟩
            refine aE_I hK3 ?_
            have g1 : ∀ q i, q ≠ 121 → q ≠ 145 → K3 q i = K q i := fun q i h1 h2 => by rw [← hK3, pfk_o h1]; exact j1 q i h2
            have g2 : ∀ a b, a < 8 → b < 8 → K3 121 (8 * a + b) = D a b := fun a b ha hb => by rw [← hK3]; exact pfk_at ha hb
            have gI : ∀ q i, q < 121 → (q = 101 → i < 29) → K3 q i = I q i := fun q i h1 h2 => (g1 q i (by omega) (by omega)).trans (hC.1 q i (by omega) (by omega))
            have hMO : MO K3 ns d cs (RR d cs (alM I d) ns) D (fun s => I 108 s) (nxG (mayF d cs (fun s => I 108 s) (I 101 9) (RR d cs (alM I d) ns)) (RR d cs (alM I d) ns).length) (I 112) := by
              refine ⟨(g1 101 42 (by decide) (by decide)).trans hCl, (gI 101 3 (by omega) (by omega)).trans hW.2.2.2.2.2.2.2.1, fun r s S hr => ?_, fun k hk => ⟨(hW.2.2.2.2.2.2.2.2.2.1 k hk).1, (gI 111 k (by omega) (by omega)).trans (hW.2.2.2.2.2.2.2.2.2.1 k hk).2⟩, fun s hs => ⟨(hW.2.2.2.2.2.2.2.2.2.2.2.2 s hs).1, (gI 107 s (by omega) (by omega)).trans (hW.2.2.2.2.2.2.2.2.2.2.2.2 s hs).2.1⟩, g2, fun s hs => (g1 132 s (by decide) (by decide)).trans (hC.2.2.2.1 s hs), fun a ha => (g1 135 a (by decide) (by decide)).trans (hC.2.2.2.2.1 a ha), fun r s S hr k hk => ?_, fun i => gI 112 i (by omega) (by omega), hCn, hW.2.2.2.2.2.2.2.2.1, hW.2.1⟩
              · obtain ⟨m1, m2, m3, m4, m5, m6, m7, m8, m9⟩ := MS_rt hCM hr
                rw [g1 127 r (by decide) (by decide), g1 128 r (by decide) (by decide), g1 129 r (by decide) (by decide)]
                exact ⟨m1, m2, m3, fun i hi => MS_bit hCM m4 hi, m7, m8, m9⟩
              · rw [← hK3, pfk_o (by decide)]
                exact j2 r s S hr k hk (Or.inl (List.getElem?_eq_some_iff.mp hr).1)
            refine l_mo1 ns d cs (RR d cs (alM I d) ns) D (fun s => I 108 s) (nxG (mayF d cs (fun s => I 108 s) (I 101 9) (RR d cs (alM I d) ns)) (RR d cs (alM I d) ns).length) (I 112) route late snow dp hdp hdn K3 (drA (mpM d cs (RR d cs (alM I d) ns) D (fun s => I 108 s) (I 112) route late) (nxG (mayF d cs (fun s => I 108 s) (I 101 9) (RR d cs (alM I d) ns)) (RR d cs (alM I d) ns).length) (fun r => isF (nxG (mayF d cs (fun s => I 108 s) (I 101 9) (RR d cs (alM I d) ns)) (RR d cs (alM I d) ns).length) r (RR d cs (alM I d) ns).length) (RR d cs (alM I d) ns).length (RR d cs (alM I d) ns).length (fun r => K3 144 r, 0)) (fun J4 b1 b2 b3 => ?_) (RR d cs (alM I d) ns).length 0 (fun r => K3 144 r, 0) K3 (by omega) rfl (fun _ _ _ => rfl) hMO (fun _ _ => rfl) _ _ _ _
            have b4 : ∀ q i, ¬ (121 ≤ q ∧ q ≤ 135) → q ≠ 144 → q ≠ 145 → ¬ (q = 101 ∧ (i = 29 ∨ i = 42 ∨ i = 43 ∨ i = 57)) → J4 q i = I q i := fun q i h1 h2 h3 h4 => (b1 q i h2 (by omega)).trans ((g1 q i (by omega) h3).trans (hC.1 q i h1 (by omega)))
            exact hO J4 D (fun r => K3 144 r) (fun r => (g1 144 r (by decide) (by decide)).trans (hC.1 144 r (by omega) (by omega))) hD.symm h1 h47 b4 (by rw [b1 101 29 (by decide) (by decide), g1 101 29 (by decide) (by decide)]; exact hC.2.1) (PlM_fr hW.2.2.2.2.2.2.2.2.1 hCM.2.2.2.2.1 (fun q i hq => (b1 q i (by omega) (by omega)).trans (g1 q i (by omega) (by omega)))) hah b2 b3
          · skip
            refine aE_aload_n dX12_morning_50 rfl rfl ?_
            refine aE_ldc dX12_morning_51 ct_X12_197 ?_
            refine aE_cVi dX12_morning_53 lk_X12_177 mv_X12_finds (c_finds _) rfl (lt_nn (by decide)) rfl rfl ⟨by decide, by decide⟩ (Nat.le_of_ble_eq_true rfl) ⟨rfl, rfl⟩ ⟨by decide, by decide⟩ ?_
            refine aE_iret dX12_morning_56 rfl ⟨by decide, by decide⟩ ?_
            first | exact hN J h1 hJ hM (Or.inl (Bool.eq_false_iff.mpr (fun q => by rw [if_pos q] at h39; exact absurd h39 (by decide)))) | exact hN J h1 hJ hM (Or.inr (Int32.not_lt.mp h47))
      · skip
        refine aE_aload_n dX12_morning_24 rfl rfl ?_
        refine aE_ldc dX12_morning_25 ct_X12_185 ?_
        refine aE_cVi dX12_morning_27 lk_X12_177 mv_X12_finds (c_finds _) rfl (lt_nn (by decide)) rfl rfl ⟨by decide, by decide⟩ (Nat.le_of_ble_eq_true rfl) ⟨rfl, rfl⟩ ⟨by decide, by decide⟩ ?_
        refine aE_iret dX12_morning_30 rfl ⟨by decide, by decide⟩ ?_
        refine hB ?_
        first | exact Or.inl h1 | exact Or.inr (Or.inl h11) | exact Or.inr (Or.inr (by first | exact h21 | exact Classical.not_not.mp h21))
end KFMMOR2
section KFB
variable {z : Nat × (Nat → Int32)} {n : Nat} {mem : aM} {I : Nat → Nat → Int32} {sp : Nat → Nat} {pl : Bool} {Q : Option Value → Nat → aM → Prop} {R : Room}
set_option maxRecDepth 20000 in
theorem m_fair_b (q w : Int32) (hb : wi q 0 3 = 0 ∨ wi w 0 3 = 0) (hB : qi Q (-1000001) (fndM I) sp pl) : aRuns mX12_fair (rK 5) [.ref 101, .int q, .int w] (nn pl) (MM I sp pl) Q := by
  refine aRuns_of pn_X12_fair (Nat.le_of_ble_eq_true rfl) (fun z => aE_loc (ls' := [_, _, _, _, _, _]) rfl ?_)
  refine aE_iload_n dX12_fair_0 rfl rfl ?_
  refine aE_iconst (v := 0) dX12_fair_1 rfl ?_
  refine aE_iconst (v := 3) dX12_fair_2 rfl ?_
  refine aE_cSi dX12_fair_3 lk_X12_159 ms_X12_in (c_in _ _ _) rfl rfl ⟨by decide, by decide⟩ (Nat.le_of_ble_eq_true rfl) ⟨rfl, rfl⟩ ⟨by decide, by decide⟩ ?_
  refine aE_if_eq (tgt := 18) dX12_fair_6 (by decide) (fun h6 => ?_) (fun h6 => ?_)
  · skip
    refine aE_aload_n dX12_fair_18 rfl rfl ?_
    refine aE_ldc dX12_fair_19 ct_X12_185 ?_
    refine aE_cVi dX12_fair_21 lk_X12_177 mv_X12_finds (c_finds _) rfl (lt_nn (by decide)) rfl rfl ⟨by decide, by decide⟩ (Nat.le_of_ble_eq_true rfl) ⟨rfl, rfl⟩ ⟨by decide, by decide⟩ ?_
    refine aE_iret dX12_fair_24 rfl ⟨by decide, by decide⟩ ?_
    exact hB
  · skip
    refine aE_iload_n dX12_fair_9 rfl rfl ?_
    refine aE_iconst (v := 0) dX12_fair_10 rfl ?_
    refine aE_iconst (v := 3) dX12_fair_11 rfl ?_
    refine aE_cSi dX12_fair_12 lk_X12_159 ms_X12_in (c_in _ _ _) rfl rfl ⟨by decide, by decide⟩ (Nat.le_of_ble_eq_true rfl) ⟨rfl, rfl⟩ ⟨by decide, by decide⟩ ?_
    refine aE_if_ne (tgt := 25) dX12_fair_15 (by decide) (fun h15 => ?_) (fun h15 => ?_)
    · skip
      exact absurd hb (fun u => by rcases u with u | u; exact h6 u; exact h15 u)
    · skip
      refine aE_aload_n dX12_fair_18 rfl rfl ?_
      refine aE_ldc dX12_fair_19 ct_X12_185 ?_
      refine aE_cVi dX12_fair_21 lk_X12_177 mv_X12_finds (c_finds _) rfl (lt_nn (by decide)) rfl rfl ⟨by decide, by decide⟩ (Nat.le_of_ble_eq_true rfl) ⟨rfl, rfl⟩ ⟨by decide, by decide⟩ ?_
      refine aE_iret dX12_fair_24 rfl ⟨by decide, by decide⟩ ?_
      exact hB

set_option maxRecDepth 20000 in
theorem m_morning_b (route late snow : Int32) (hb : route < 0 ∨ wi late 0 60 = 0 ∨ wi snow 0 10 = 0) (hB : qi Q (-1000001) (fndM I) sp pl) : aRuns mX12_morning (rK 6) [.ref 101, .int route, .int late, .int snow] (nn pl) (MM I sp pl) Q := by
  refine aRuns_of pn_X12_morning (Nat.le_of_ble_eq_true rfl) (fun z => aE_loc (ls' := [_, _, _, _, _, _, _, _, _, _]) rfl ?_)
  refine aE_iload_n dX12_morning_0 rfl rfl ?_
  refine aE_if_lt (tgt := 24) dX12_morning_1 (by decide) (fun h1 => ?_) (fun h1 => ?_)
  · skip
    refine aE_aload_n dX12_morning_24 rfl rfl ?_
    refine aE_ldc dX12_morning_25 ct_X12_185 ?_
    refine aE_cVi dX12_morning_27 lk_X12_177 mv_X12_finds (c_finds _) rfl (lt_nn (by decide)) rfl rfl ⟨by decide, by decide⟩ (Nat.le_of_ble_eq_true rfl) ⟨rfl, rfl⟩ ⟨by decide, by decide⟩ ?_
    refine aE_iret dX12_morning_30 rfl ⟨by decide, by decide⟩ ?_
    exact hB
  · skip
    refine aE_iload_n dX12_morning_4 rfl rfl ?_
    refine aE_iconst (v := 0) dX12_morning_5 rfl ?_
    refine aE_bipush (v := 60) dX12_morning_6 (by decide) ?_
    refine aE_cSi dX12_morning_8 lk_X12_159 ms_X12_in (c_in _ _ _) rfl rfl ⟨by decide, by decide⟩ (Nat.le_of_ble_eq_true rfl) ⟨rfl, rfl⟩ ⟨by decide, by decide⟩ ?_
    refine aE_if_eq (tgt := 24) dX12_morning_11 (by decide) (fun h11 => ?_) (fun h11 => ?_)
    · skip
      refine aE_aload_n dX12_morning_24 rfl rfl ?_
      refine aE_ldc dX12_morning_25 ct_X12_185 ?_
      refine aE_cVi dX12_morning_27 lk_X12_177 mv_X12_finds (c_finds _) rfl (lt_nn (by decide)) rfl rfl ⟨by decide, by decide⟩ (Nat.le_of_ble_eq_true rfl) ⟨rfl, rfl⟩ ⟨by decide, by decide⟩ ?_
      refine aE_iret dX12_morning_30 rfl ⟨by decide, by decide⟩ ?_
      exact hB
    · skip
      refine aE_iload_n dX12_morning_14 rfl rfl ?_
      refine aE_iconst (v := 0) dX12_morning_15 rfl ?_
      refine aE_bipush (v := 10) dX12_morning_16 (by decide) ?_
      refine aE_cSi dX12_morning_18 lk_X12_159 ms_X12_in (c_in _ _ _) rfl rfl ⟨by decide, by decide⟩ (Nat.le_of_ble_eq_true rfl) ⟨rfl, rfl⟩ ⟨by decide, by decide⟩ ?_
      refine aE_if_ne (tgt := 31) dX12_morning_21 (by decide) (fun h21 => ?_) (fun h21 => ?_)
      · skip
        exact absurd hb (fun u => by rcases u with u | u | u; exact h1 u; exact h11 u; exact h21 u)
      · skip
        refine aE_aload_n dX12_morning_24 rfl rfl ?_
        refine aE_ldc dX12_morning_25 ct_X12_185 ?_
        refine aE_cVi dX12_morning_27 lk_X12_177 mv_X12_finds (c_finds _) rfl (lt_nn (by decide)) rfl rfl ⟨by decide, by decide⟩ (Nat.le_of_ble_eq_true rfl) ⟨rfl, rfl⟩ ⟨by decide, by decide⟩ ?_
        refine aE_iret dX12_morning_30 rfl ⟨by decide, by decide⟩ ?_
        exact hB

set_option maxRecDepth 20000 in
theorem m_chain_b (v i : Int32) (hb : v < 0 ∨ i < 0) (hB : qi Q (-1000001) (fndM I) sp pl) : aRuns mX12_chain (rK 6) [.ref 101, .int v, .int i] (nn pl) (MM I sp pl) Q := by
  refine aRuns_of pn_X12_chain (Nat.le_of_ble_eq_true rfl) (fun z => aE_loc (ls' := [_, _, _, _, _, _, _]) rfl ?_)
  refine aE_iload_n dX12_chain_0 rfl rfl ?_
  refine aE_if_lt (tgt := 8) dX12_chain_1 (by decide) (fun h1 => ?_) (fun h1 => ?_)
  · skip
    refine aE_aload_n dX12_chain_8 rfl rfl ?_
    refine aE_ldc dX12_chain_9 ct_X12_185 ?_
    refine aE_cVi dX12_chain_11 lk_X12_177 mv_X12_finds (c_finds _) rfl (lt_nn (by decide)) rfl rfl ⟨by decide, by decide⟩ (Nat.le_of_ble_eq_true rfl) ⟨rfl, rfl⟩ ⟨by decide, by decide⟩ ?_
    refine aE_iret dX12_chain_14 rfl ⟨by decide, by decide⟩ ?_
    exact hB
  · skip
    refine aE_iload_n dX12_chain_4 rfl rfl ?_
    refine aE_if_ge (tgt := 15) dX12_chain_5 (by decide) (fun h5 => ?_) (fun h5 => ?_)
    · skip
      exact absurd hb (fun u => by rcases u with u | u; exact h1 u; exact Int32.not_le.mpr u h5)
    · skip
      refine aE_aload_n dX12_chain_8 rfl rfl ?_
      refine aE_ldc dX12_chain_9 ct_X12_185 ?_
      refine aE_cVi dX12_chain_11 lk_X12_177 mv_X12_finds (c_finds _) rfl (lt_nn (by decide)) rfl rfl ⟨by decide, by decide⟩ (Nat.le_of_ble_eq_true rfl) ⟨rfl, rfl⟩ ⟨by decide, by decide⟩ ?_
      refine aE_iret dX12_chain_14 rfl ⟨by decide, by decide⟩ ?_
      exact hB

end KFB
section KFC
variable {z : Nat × (Nat → Int32)} {n : Nat} {mem : aM} {I : Nat → Nat → Int32} {sp : Nat → Nat} {pl : Bool} {Q : Option Value → Nat → aM → Prop} {R : Room}
variable {ns nstr nc : Nat} {d : pD} {cs : Nat → pC} {fr to : Nat → Nat}

set_option maxRecDepth 20000 in
theorem c_chain_bt (v i : Int32) (dp : Nat → Nat) (hW : CW I sp ns nstr nc d cs fr to) (hbe : ∀ s, s < ns → 0 ≤ (I 26 s).toInt ∧ (I 26 s).toInt ≤ 6) (hsl : 0 ≤ (I 1 8).toInt ∧ (I 1 8).toInt ≤ 30) (hch : ¬ I 0 8 = 0 → ¬ I 0 7 = 0 ∧ ChC I (fC I sp ns d cs) (RR d cs (alC I sp d) ns).length) (hdp : dpOK (nxG (fC I sp ns d cs) (RR d cs (alC I sp d) ns).length) (RR d cs (alC I sp d) ns).length dp) (hdn : ∀ r, r < (RR d cs (alC I sp d) ns).length → dp r < (RR d cs (alC I sp d) ns).length) (hb : v < 0 ∨ i < 0) (hB : qi Q (-1000001) (fnd I) sp true) : aRuns mX11_chain (rK 7) [.ref 0, .int v, .int i] (nn true) (MM I sp true) Q := by
  refine aRuns_of pn_X11_chain (Nat.le_of_ble_eq_true rfl) (fun z => aE_loc (ls' := [_, _, _]) rfl ?_)
  refine aE_iload_n dX11_chain_0 rfl rfl ?_
  refine aE_if_lt (tgt := 8) dX11_chain_1 (by decide) (fun h1 => ?_) (fun h1 => ?_)
  · skip
    refine aE_aload_n dX11_chain_8 rfl rfl ?_
    refine aE_ldc dX11_chain_9 ct_X11_78 ?_
    refine aE_cVi dX11_chain_11 lk_X11_62 mv_X11_found (c_found _) rfl (lt_nn (by decide)) rfl rfl ⟨by decide, by decide⟩ (Nat.le_of_ble_eq_true rfl) ⟨rfl, rfl⟩ ⟨by decide, by decide⟩ ?_
    refine aE_iret dX11_chain_14 rfl ⟨by decide, by decide⟩ ?_
    exact hB
  · skip
    refine aE_iload_n dX11_chain_4 rfl rfl ?_
    refine aE_if_ge (tgt := 15) dX11_chain_5 (by decide) (fun h5 => ?_) (fun h5 => ?_)
    · skip
      exact absurd hb (fun q => by rcases q with q | q; exact h1 q; exact Int32.not_le.mpr q h5)
    · skip
      refine aE_aload_n dX11_chain_8 rfl rfl ?_
      refine aE_ldc dX11_chain_9 ct_X11_78 ?_
      refine aE_cVi dX11_chain_11 lk_X11_62 mv_X11_found (c_found _) rfl (lt_nn (by decide)) rfl rfl ⟨by decide, by decide⟩ (Nat.le_of_ble_eq_true rfl) ⟨rfl, rfl⟩ ⟨by decide, by decide⟩ ?_
      refine aE_iret dX11_chain_14 rfl ⟨by decide, by decide⟩ ?_
      exact hB

set_option maxRecDepth 20000 in
theorem c_trade_bt (i w : Int32) (hW : CW I sp ns nstr nc d cs fr to) (nr : Nat) (kd : Nat → Nat) (hr : I 75 1 = nI nr) (hr8 : nr ≤ 8) (hrk : ∀ r, r < nr → ¬ I 77 r < 0) (hkd : ∀ s, s < ns → kd s < 4 ∧ I (28 + 4 * s) 0 = nI (kd s)) (hwi : ∀ s, s < ns → 0 ≤ (I (28 + 4 * s) 2).toInt ∧ (I (28 + 4 * s) 2).toInt ≤ 6) (hsl : 0 ≤ (I 1 8).toInt ∧ (I 1 8).toInt ≤ 30) (K7 : Nat) (hK7 : 7 ^ ns = K7) (l : List Nat) (ts : tU) (hts : tS (alN I nr ns) (coN I sp d ns) (nbN d cs (alC I sp d) (I 1 8) ns) K7 = ts) (hl : (lsT ts.1 2000000000 11).2 = l) (htr : ¬ I 0 9 = 0 → ¬ I 0 7 = 0 ∧ MkT I l ts ns) (hb : i < 0 ∨ w < 0 ∨ ¬ w < 2 + I 1 4) (hB : qi Q (-1000001) (fnd I) sp true) : aRuns mX11_trade (rK 7) [.ref 0, .int i, .int w] (nn true) (MM I sp true) Q := by
  refine aRuns_of pn_X11_trade (Nat.le_of_ble_eq_true rfl) (fun z => aE_loc (ls' := [_, _, _]) rfl ?_)
  refine aE_iload_n dX11_trade_0 rfl rfl ?_
  refine aE_if_lt (tgt := 21) dX11_trade_1 (by decide) (fun h1 => ?_) (fun h1 => ?_)
  · skip
    refine aE_aload_n dX11_trade_21 rfl rfl ?_
    refine aE_ldc dX11_trade_22 ct_X11_78 ?_
    refine aE_cVi dX11_trade_24 lk_X11_62 mv_X11_found (c_found _) rfl (lt_nn (by decide)) rfl rfl ⟨by decide, by decide⟩ (Nat.le_of_ble_eq_true rfl) ⟨rfl, rfl⟩ ⟨by decide, by decide⟩ ?_
    refine aE_iret dX11_trade_27 rfl ⟨by decide, by decide⟩ ?_
    exact hB
  · skip
    refine aE_iload_n dX11_trade_4 rfl rfl ?_
    refine aE_if_lt (tgt := 21) dX11_trade_5 (by decide) (fun h5 => ?_) (fun h5 => ?_)
    · skip
      refine aE_aload_n dX11_trade_21 rfl rfl ?_
      refine aE_ldc dX11_trade_22 ct_X11_78 ?_
      refine aE_cVi dX11_trade_24 lk_X11_62 mv_X11_found (c_found _) rfl (lt_nn (by decide)) rfl rfl ⟨by decide, by decide⟩ (Nat.le_of_ble_eq_true rfl) ⟨rfl, rfl⟩ ⟨by decide, by decide⟩ ?_
      refine aE_iret dX11_trade_27 rfl ⟨by decide, by decide⟩ ?_
      exact hB
    · skip
      refine aE_iload_n dX11_trade_8 rfl rfl ?_
      refine aE_iconst (v := 2) dX11_trade_9 rfl ?_
      refine aE_aload_n dX11_trade_10 rfl rfl ?_
      refine aE_getf (v := .ref 1) dX11_trade_11 fw_X11_10 (lt_nn (by decide)) rfl rfl ?_
      refine aE_geti dX11_trade_14 fw_X11_99 (lt_nn (by decide)) rfl (by decide) rfl ?_
      refine aE_iadd dX11_trade_17 ?_
      refine aE_icmp_lt (tgt := 28) dX11_trade_18 (by decide) (fun h18 => ?_) (fun h18 => ?_)
      · skip
        exact absurd hb (fun q => by rcases q with q | q | q; exact h1 q; exact h5 q; exact q h18)
      · skip
        refine aE_aload_n dX11_trade_21 rfl rfl ?_
        refine aE_ldc dX11_trade_22 ct_X11_78 ?_
        refine aE_cVi dX11_trade_24 lk_X11_62 mv_X11_found (c_found _) rfl (lt_nn (by decide)) rfl rfl ⟨by decide, by decide⟩ (Nat.le_of_ble_eq_true rfl) ⟨rfl, rfl⟩ ⟨by decide, by decide⟩ ?_
        refine aE_iret dX11_trade_27 rfl ⟨by decide, by decide⟩ ?_
        exact hB

set_option maxRecDepth 20000 in
theorem c_morning_bt (route late snow : Int32) (dp : Nat → Nat) (C : Nat → Int32) (hW : CW I sp ns nstr nc d cs fr to) (hbe : ∀ s, s < ns → 0 ≤ (I 26 s).toInt ∧ (I 26 s).toInt ≤ 6) (hsl : 0 ≤ (I 1 8).toInt ∧ (I 1 8).toInt ≤ 30) (hch : ¬ I 0 8 = 0 → ¬ I 0 7 = 0 ∧ ChC I (fC I sp ns d cs) (RR d cs (alC I sp d) ns).length) (hdp : dpOK (nxG (fC I sp ns d cs) (RR d cs (alC I sp d) ns).length) (RR d cs (alC I sp d) ns).length dp) (hdn : ∀ r, r < (RR d cs (alC I sp d) ns).length → dp r < (RR d cs (alC I sp d) ns).length) (hmi : ∀ s, s < nstr → 0 ≤ (I 5 s).toInt ∧ (I 5 s).toInt ≤ 20) (hb : route < 0 ∨ wi late 0 60 = 0 ∨ wi snow 0 10 = 0) (hB : qi Q (-1000001) (fnd I) sp true) : aRuns mX11_morning (rK 7) [.ref 0, .int route, .int late, .int snow] (nn true) (MM I sp true) Q := by
  refine aRuns_of pn_X11_morning (Nat.le_of_ble_eq_true rfl) (fun z => aE_loc (ls' := [_, _, _, _]) rfl ?_)
  refine aE_iload_n dX11_morning_0 rfl rfl ?_
  refine aE_if_lt (tgt := 24) dX11_morning_1 (by decide) (fun h1 => ?_) (fun h1 => ?_)
  · skip
    refine aE_aload_n dX11_morning_24 rfl rfl ?_
    refine aE_ldc dX11_morning_25 ct_X11_78 ?_
    refine aE_cVi dX11_morning_27 lk_X11_62 mv_X11_found (c_found _) rfl (lt_nn (by decide)) rfl rfl ⟨by decide, by decide⟩ (Nat.le_of_ble_eq_true rfl) ⟨rfl, rfl⟩ ⟨by decide, by decide⟩ ?_
    refine aE_iret dX11_morning_30 rfl ⟨by decide, by decide⟩ ?_
    exact hB
  · skip
    refine aE_iload_n dX11_morning_4 rfl rfl ?_
    refine aE_iconst (v := 0) dX11_morning_5 rfl ?_
    refine aE_bipush (v := 60) dX11_morning_6 (by decide) ?_
    refine aE_cSi dX11_morning_8 lk_X11_74 ms_X11_within (c_within _ _ _) rfl rfl ⟨by decide, by decide⟩ (Nat.le_of_ble_eq_true rfl) ⟨rfl, rfl⟩ ⟨by decide, by decide⟩ ?_
    refine aE_if_eq (tgt := 24) dX11_morning_11 (by decide) (fun h11 => ?_) (fun h11 => ?_)
    · skip
      refine aE_aload_n dX11_morning_24 rfl rfl ?_
      refine aE_ldc dX11_morning_25 ct_X11_78 ?_
      refine aE_cVi dX11_morning_27 lk_X11_62 mv_X11_found (c_found _) rfl (lt_nn (by decide)) rfl rfl ⟨by decide, by decide⟩ (Nat.le_of_ble_eq_true rfl) ⟨rfl, rfl⟩ ⟨by decide, by decide⟩ ?_
      refine aE_iret dX11_morning_30 rfl ⟨by decide, by decide⟩ ?_
      exact hB
    · skip
      refine aE_iload_n dX11_morning_14 rfl rfl ?_
      refine aE_iconst (v := 0) dX11_morning_15 rfl ?_
      refine aE_bipush (v := 10) dX11_morning_16 (by decide) ?_
      refine aE_cSi dX11_morning_18 lk_X11_74 ms_X11_within (c_within _ _ _) rfl rfl ⟨by decide, by decide⟩ (Nat.le_of_ble_eq_true rfl) ⟨rfl, rfl⟩ ⟨by decide, by decide⟩ ?_
      refine aE_if_ne (tgt := 31) dX11_morning_21 (by decide) (fun h21 => ?_) (fun h21 => ?_)
      · skip
        exact absurd hb (fun q => by rcases q with q | q | q; exact h1 q; exact h11 q; exact h21 q)
      · skip
        refine aE_aload_n dX11_morning_24 rfl rfl ?_
        refine aE_ldc dX11_morning_25 ct_X11_78 ?_
        refine aE_cVi dX11_morning_27 lk_X11_62 mv_X11_found (c_found _) rfl (lt_nn (by decide)) rfl rfl ⟨by decide, by decide⟩ (Nat.le_of_ble_eq_true rfl) ⟨rfl, rfl⟩ ⟨by decide, by decide⟩ ?_
        refine aE_iret dX11_morning_30 rfl ⟨by decide, by decide⟩ ?_
        exact hB

set_option maxRecDepth 20000 in
theorem c_fair_bt (q w : Int32) (hW : CW I sp ns nstr nc d cs fr to) (sc : Nat → Nat) (hsc : ∀ k, k < d.1 → sc k < ns ∧ I (sp k) 0 = nI (sc k)) (hb : wi q 0 3 = 0 ∨ wi w 0 3 = 0) (hB : qi Q (-1000001) (fnd I) sp true) : aRuns mX11_fair (rK 6) [.ref 0, .int q, .int w] (nn true) (MM I sp true) Q := by
  refine aRuns_of pn_X11_fair (Nat.le_of_ble_eq_true rfl) (fun z => aE_loc (ls' := [_, _, _]) rfl ?_)
  refine aE_iload_n dX11_fair_0 rfl rfl ?_
  refine aE_iconst (v := 0) dX11_fair_1 rfl ?_
  refine aE_iconst (v := 3) dX11_fair_2 rfl ?_
  refine aE_cSi dX11_fair_3 lk_X11_74 ms_X11_within (c_within _ _ _) rfl rfl ⟨by decide, by decide⟩ (Nat.le_of_ble_eq_true rfl) ⟨rfl, rfl⟩ ⟨by decide, by decide⟩ ?_
  refine aE_if_eq (tgt := 18) dX11_fair_6 (by decide) (fun h6 => ?_) (fun h6 => ?_)
  · skip
    refine aE_aload_n dX11_fair_18 rfl rfl ?_
    refine aE_ldc dX11_fair_19 ct_X11_78 ?_
    refine aE_cVi dX11_fair_21 lk_X11_62 mv_X11_found (c_found _) rfl (lt_nn (by decide)) rfl rfl ⟨by decide, by decide⟩ (Nat.le_of_ble_eq_true rfl) ⟨rfl, rfl⟩ ⟨by decide, by decide⟩ ?_
    refine aE_iret dX11_fair_24 rfl ⟨by decide, by decide⟩ ?_
    exact hB
  · skip
    refine aE_iload_n dX11_fair_9 rfl rfl ?_
    refine aE_iconst (v := 0) dX11_fair_10 rfl ?_
    refine aE_iconst (v := 3) dX11_fair_11 rfl ?_
    refine aE_cSi dX11_fair_12 lk_X11_74 ms_X11_within (c_within _ _ _) rfl rfl ⟨by decide, by decide⟩ (Nat.le_of_ble_eq_true rfl) ⟨rfl, rfl⟩ ⟨by decide, by decide⟩ ?_
    refine aE_if_ne (tgt := 25) dX11_fair_15 (by decide) (fun h15 => ?_) (fun h15 => ?_)
    · skip
      exact absurd hb (fun u => by rcases u with u | u; exact h6 u; exact h15 u)
    · skip
      refine aE_aload_n dX11_fair_18 rfl rfl ?_
      refine aE_ldc dX11_fair_19 ct_X11_78 ?_
      refine aE_cVi dX11_fair_21 lk_X11_62 mv_X11_found (c_found _) rfl (lt_nn (by decide)) rfl rfl ⟨by decide, by decide⟩ (Nat.le_of_ble_eq_true rfl) ⟨rfl, rfl⟩ ⟨by decide, by decide⟩ ?_
      refine aE_iret dX11_fair_24 rfl ⟨by decide, by decide⟩ ?_
      exact hB

end KFC
