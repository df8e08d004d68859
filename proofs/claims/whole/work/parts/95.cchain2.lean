section CCHAIN2
variable {z : Nat × (Nat → Int32)} {n : Nat} {mem : aM} {I : Nat → Nat → Int32} {sp : Nat → Nat} {pl : Bool} {Q : Option Value → Nat → aM → Prop} {R : Room}variable {ns nstr nc : Nat} {d : pD} {cs : Nat → pC} {fr to : Nat → Nat}

set_option maxRecDepth 20000 in
theorem c_buses_t  (hW : CW I sp ns nstr nc d cs fr to) (hbe : ∀ s, s < ns → 0 ≤ (I 26 s).toInt ∧ (I 26 s).toInt ≤ 6) (hsl : 0 ≤ (I 1 8).toInt ∧ (I 1 8).toInt ≤ 30) (hch : ¬ I 0 8 = 0 → ¬ I 0 7 = 0 ∧ ChC I (fC I sp ns d cs) (RR d cs (alC I sp d) ns).length) (hst : ¬ I 0 7 = 0 → PCs I ns d cs (alC I sp d) ∧ FlC I ns d cs (alC I sp d) (I 1 8)) (hN : ∀ J, DP I J sp ns nstr nc d cs fr to → allH d cs (alC I sp d) ns = false → qi Q (-1000004) (fnd J) sp true) (hO : ∀ K, LC I K sp ns nstr nc d cs fr to → allH d cs (alC I sp d) ns = true → qi Q (nI (RR d cs (alC I sp d) ns).length - nI (mxF (fC I sp ns d cs) (RR d cs (alC I sp d) ns).length (RR d cs (alC I sp d) ns).length 0)) K sp true) : aRuns mX11_buses (rK 7) [.ref 0] (nn true) (MM I sp true) Q := by
  refine aRuns_of pn_X11_buses (Nat.le_of_ble_eq_true rfl) (fun z => aE_loc (ls' := [_]) rfl ?_)
  refine aE_aload_n dX11_buses_0 rfl rfl ?_
  refine aE_cVq dX11_buses_1 lk_X11_225 mv_X11_linkChains (c_linkChains_t (Q := (fun (r : Option Value) (n' : Nat) (m' : aM) => n' = nn true ∧ ((r = some (.int 0) ∧ ∃ J, m' = MM J sp true ∧ DP I J sp ns nstr nc d cs fr to ∧ allH d cs (alC I sp d) ns = false) ∨ (r = some (.int 1) ∧ ∃ K, m' = MM K sp true ∧ LC I K sp ns nstr nc d cs fr to ∧ allH d cs (alC I sp d) ns = true)))) hW hbe hsl hst hch (fun J a b => ⟨rfl, Or.inl ⟨rfl, J, rfl, a, b⟩⟩) (fun K a b => ⟨rfl, Or.inr ⟨rfl, K, rfl, a, b⟩⟩)) rfl (lt_nn (by decide)) rfl rfl ⟨by decide, by decide⟩ (Nat.le_of_ble_eq_true rfl) ⟨rfl, rfl⟩ ⟨by decide, by decide⟩ ?_
  rintro r n' m' ⟨rfl, ⟨rfl, J, rfl, hJ, hah⟩ | ⟨rfl, K, rfl, hK, hah⟩⟩
  · skip
    refine aE_if_eq (tgt := 17) dX11_buses_4 (by decide) (fun h4 => ?_) (fun h4 => absurd (rfl) h4)
    refine aE_aload_n dX11_buses_17 rfl rfl ?_
    refine aE_ldc dX11_buses_18 ct_X11_98 ?_
    refine aE_cVi dX11_buses_20 lk_X11_62 mv_X11_found (c_found _) rfl (lt_nn (by decide)) rfl rfl ⟨by decide, by decide⟩ (Nat.le_of_ble_eq_true rfl) ⟨rfl, rfl⟩ ⟨by decide, by decide⟩ ?_
    refine aE_iret dX11_buses_23 rfl ⟨by decide, by decide⟩ ?_
    exact hN J hJ hah
  · have hK2 := hK
    obtain ⟨⟨J, hJ, hJK⟩, k08, kch, kW, kP, kF, k07⟩ := hK
    have hA := CW_al hW
    have h10 := hA.2.1
    have htk := tkG_lt (fC I sp ns d cs) (RR d cs (alC I sp d) ns).length (RR d cs (alC I sp d) ns).length
    have hp := pow10' h10
    refine aE_if_eq (tgt := 17) dX11_buses_4 (by decide) (fun h4 => absurd h4 (by decide)) (fun h4 => ?_)
    refine aE_aload_n dX11_buses_7 rfl rfl ?_
    refine aE_getf (v := .ref 54) dX11_buses_8 fw_X11_19 (lt_nn (by decide)) rfl rfl ?_
    refine aE_cVi dX11_buses_11 lk_X11_229 mv_X1_busCount (c_busCount (RR d cs (alC I sp d) ns).length (tkG (fC I sp ns d cs) (RR d cs (alC I sp d) ns).length (RR d cs (alC I sp d) ns).length) kF.2.1 kch.2 (by omega)) rfl (lt_nn (by decide)) rfl rfl ⟨by decide, by decide⟩ (Nat.le_of_ble_eq_true rfl) ⟨rfl, rfl⟩ ⟨by decide, by decide⟩ ?_
    refine aE_goto (tgt := 23) dX11_buses_14 (by decide) ?_
    refine aE_iret dX11_buses_23 rfl ⟨by decide, by decide⟩ ?_
    rw [tk_all h10]
    exact hO K hK2 hah

set_option maxRecDepth 20000 in
theorem c_buses_f  (hW : CW I sp ns nstr nc d cs fr to) (hbe : ∀ s, s < ns → 0 ≤ (I 26 s).toInt ∧ (I 26 s).toInt ≤ 6) (hsl : 0 ≤ (I 1 8).toInt ∧ (I 1 8).toInt ≤ 30) (hch : ¬ I 0 8 = 0 → ¬ I 0 7 = 0 ∧ ChC I (fC I sp ns d cs) (RR d cs (alC I sp d) ns).length) (h07 : I 0 7 = 0) (hN : ∀ J, DP I J sp ns nstr nc d cs fr to → allH d cs (alC I sp d) ns = false → qi Q (-1000004) (fnd J) sp true) (hO : ∀ K, LC I K sp ns nstr nc d cs fr to → allH d cs (alC I sp d) ns = true → qi Q (nI (RR d cs (alC I sp d) ns).length - nI (mxF (fC I sp ns d cs) (RR d cs (alC I sp d) ns).length (RR d cs (alC I sp d) ns).length 0)) K sp true) : aRuns mX11_buses (rP 7) [.ref 0] (nn false) (MM I sp false) Q := by
  refine aRuns_of pn_X11_buses (Nat.le_of_ble_eq_true rfl) (fun z => aE_loc (ls' := [_]) rfl ?_)
  refine aE_aload_n dX11_buses_0 rfl rfl ?_
  refine aE_callV dX11_buses_1 lk_X11_225 mv_X11_linkChains (c_linkChains_f (Q := (fun (r : Option Value) (n' : Nat) (m' : aM) => n' = nn true ∧ ((r = some (.int 0) ∧ ∃ J, m' = MM J sp true ∧ DP I J sp ns nstr nc d cs fr to ∧ allH d cs (alC I sp d) ns = false) ∨ (r = some (.int 1) ∧ ∃ K, m' = MM K sp true ∧ LC I K sp ns nstr nc d cs fr to ∧ allH d cs (alC I sp d) ns = true)))) hW hbe hsl h07 hch (fun J a b => ⟨rfl, Or.inl ⟨rfl, J, rfl, a, b⟩⟩) (fun K a b => ⟨rfl, Or.inr ⟨rfl, K, rfl, a, b⟩⟩)) rfl (lt_nn (by decide)) rfl rfl ⟨by decide, by decide⟩ (Nat.le_of_ble_eq_true rfl) ⟨by decide, by decide⟩ ?_
  rintro r n' m' ⟨rfl, ⟨rfl, J, rfl, hJ, hah⟩ | ⟨rfl, K, rfl, hK, hah⟩⟩
  · skip
    refine aE_if_eq (tgt := 17) dX11_buses_4 (by decide) (fun h4 => ?_) (fun h4 => absurd (rfl) h4)
    refine aE_aload_n dX11_buses_17 rfl rfl ?_
    refine aE_ldc dX11_buses_18 ct_X11_98 ?_
    refine aE_cVi dX11_buses_20 lk_X11_62 mv_X11_found (c_found _) rfl (lt_nn (by decide)) rfl rfl ⟨by decide, by decide⟩ (Nat.le_of_ble_eq_true rfl) ⟨rfl, rfl⟩ ⟨by decide, by decide⟩ ?_
    refine aE_iret dX11_buses_23 rfl ⟨by decide, by decide⟩ ?_
    exact hN J hJ hah
  · have hK2 := hK
    obtain ⟨⟨J, hJ, hJK⟩, k08, kch, kW, kP, kF, k07⟩ := hK
    have hA := CW_al hW
    have h10 := hA.2.1
    have htk := tkG_lt (fC I sp ns d cs) (RR d cs (alC I sp d) ns).length (RR d cs (alC I sp d) ns).length
    have hp := pow10' h10
    refine aE_if_eq (tgt := 17) dX11_buses_4 (by decide) (fun h4 => absurd h4 (by decide)) (fun h4 => ?_)
    refine aE_aload_n dX11_buses_7 rfl rfl ?_
    refine aE_getf (v := .ref 54) dX11_buses_8 fw_X11_19 (lt_nn (by decide)) rfl rfl ?_
    refine aE_cVi dX11_buses_11 lk_X11_229 mv_X1_busCount (c_busCount (RR d cs (alC I sp d) ns).length (tkG (fC I sp ns d cs) (RR d cs (alC I sp d) ns).length (RR d cs (alC I sp d) ns).length) kF.2.1 kch.2 (by omega)) rfl (lt_nn (by decide)) rfl rfl ⟨by decide, by decide⟩ (Nat.le_of_ble_eq_true rfl) ⟨rfl, rfl⟩ ⟨by decide, by decide⟩ ?_
    refine aE_goto (tgt := 23) dX11_buses_14 (by decide) ?_
    refine aE_iret dX11_buses_23 rfl ⟨by decide, by decide⟩ ?_
    rw [tk_all h10]
    exact hO K hK2 hah

set_option maxRecDepth 20000 in
theorem c_chain_t (v i : Int32) (dp : Nat → Nat) (hW : CW I sp ns nstr nc d cs fr to) (hbe : ∀ s, s < ns → 0 ≤ (I 26 s).toInt ∧ (I 26 s).toInt ≤ 6) (hsl : 0 ≤ (I 1 8).toInt ∧ (I 1 8).toInt ≤ 30) (hch : ¬ I 0 8 = 0 → ¬ I 0 7 = 0 ∧ ChC I (fC I sp ns d cs) (RR d cs (alC I sp d) ns).length) (hdp : dpOK (nxG (fC I sp ns d cs) (RR d cs (alC I sp d) ns).length) (RR d cs (alC I sp d) ns).length dp) (hdn : ∀ r, r < (RR d cs (alC I sp d) ns).length → dp r < (RR d cs (alC I sp d) ns).length) (hst : ¬ I 0 7 = 0 → PCs I ns d cs (alC I sp d) ∧ FlC I ns d cs (alC I sp d) (I 1 8)) (hB : (v < 0 ∨ i < 0) → qi Q (-1000001) (fnd I) sp true) (hN0 : ∀ J, ¬ v < 0 → 0 ≤ i → DP I J sp ns nstr nc d cs fr to → allH d cs (alC I sp d) ns = false → qi Q (-1000004) (fnd J) sp true) (hN : ∀ K bb, v = nI bb → LC I K sp ns nstr nc d cs fr to → allH d cs (alC I sp d) ns = true → kth (fun r => isF (nxG (fC I sp ns d cs) (RR d cs (alC I sp d) ns).length) r (RR d cs (alC I sp d) ns).length) (RR d cs (alC I sp d) ns).length bb (RR d cs (alC I sp d) ns).length 0 = none → qi Q (-1000004) (fnd K) sp true) (hO : ∀ K bb ii r, v = nI bb → i = nI ii → LC I K sp ns nstr nc d cs fr to → allH d cs (alC I sp d) ns = true → kth (fun r => isF (nxG (fC I sp ns d cs) (RR d cs (alC I sp d) ns).length) r (RR d cs (alC I sp d) ns).length) (RR d cs (alC I sp d) ns).length bb (RR d cs (alC I sp d) ns).length 0 = some r → qi Q (rv (itN (nxG (fC I sp ns d cs) (RR d cs (alC I sp d) ns).length) ii (some r))) K sp true) : aRuns mX11_chain (rK 7) [.ref 0, .int v, .int i] (nn true) (MM I sp true) Q := by
  refine aRuns_of pn_X11_chain (Nat.le_of_ble_eq_true rfl) (fun z => aE_loc (ls' := [_, _, _]) rfl ?_)
  refine aE_iload_n dX11_chain_0 rfl rfl ?_
  refine aE_if_lt (tgt := 8) dX11_chain_1 (by decide) (fun h1 => ?_) (fun h1 => ?_)
  · skip
    refine aE_aload_n dX11_chain_8 rfl rfl ?_
    refine aE_ldc dX11_chain_9 ct_X11_78 ?_
    refine aE_cVi dX11_chain_11 lk_X11_62 mv_X11_found (c_found _) rfl (lt_nn (by decide)) rfl rfl ⟨by decide, by decide⟩ (Nat.le_of_ble_eq_true rfl) ⟨rfl, rfl⟩ ⟨by decide, by decide⟩ ?_
    refine aE_iret dX11_chain_14 rfl ⟨by decide, by decide⟩ ?_
    first
      | exact hB (Or.inl h1)
      | exact hB (Or.inr (Int32.not_le.mp h5))
  · skip
    refine aE_iload_n dX11_chain_4 rfl rfl ?_
    refine aE_if_ge (tgt := 15) dX11_chain_5 (by decide) (fun h5 => ?_) (fun h5 => ?_)
    · skip
      refine aE_aload_n dX11_chain_15 rfl rfl ?_
      refine aE_cVq dX11_chain_16 lk_X11_225 mv_X11_linkChains (c_linkChains_t (Q := (fun (r : Option Value) (n' : Nat) (m' : aM) => n' = nn true ∧ ((r = some (.int 0) ∧ ∃ J, m' = MM J sp true ∧ DP I J sp ns nstr nc d cs fr to ∧ allH d cs (alC I sp d) ns = false) ∨ (r = some (.int 1) ∧ ∃ K, m' = MM K sp true ∧ LC I K sp ns nstr nc d cs fr to ∧ allH d cs (alC I sp d) ns = true)))) hW hbe hsl hst hch (fun J a b => ⟨rfl, Or.inl ⟨rfl, J, rfl, a, b⟩⟩) (fun K a b => ⟨rfl, Or.inr ⟨rfl, K, rfl, a, b⟩⟩)) rfl (lt_nn (by decide)) rfl rfl ⟨by decide, by decide⟩ (Nat.le_of_ble_eq_true rfl) ⟨rfl, rfl⟩ ⟨by decide, by decide⟩ ?_
      rintro r n' m' ⟨rfl, ⟨rfl, J, rfl, hJ, hah⟩ | ⟨rfl, K, rfl, hK, hah⟩⟩
      · skip
        refine aE_if_eq (tgt := 33) dX11_chain_19 (by decide) (fun h19 => ?_) (fun h19 => absurd (rfl) h19)
        refine aE_aload_n dX11_chain_33 rfl rfl ?_
        refine aE_ldc dX11_chain_34 ct_X11_98 ?_
        refine aE_cVi dX11_chain_36 lk_X11_62 mv_X11_found (c_found _) rfl (lt_nn (by decide)) rfl rfl ⟨by decide, by decide⟩ (Nat.le_of_ble_eq_true rfl) ⟨rfl, rfl⟩ ⟨by decide, by decide⟩ ?_
        refine aE_iret dX11_chain_39 rfl ⟨by decide, by decide⟩ ?_
        exact hN0 J h1 h5 hJ hah
      · have hK2 := hK
        obtain ⟨⟨J, hJ, hJK⟩, k08, kch, kW, kP, kF, k07⟩ := hK
        have hA := CW_al hW
        have h10 := hA.2.1
        have htk := tkG_lt (fC I sp ns d cs) (RR d cs (alC I sp d) ns).length (RR d cs (alC I sp d) ns).length
        have hp := pow10' h10
        obtain ⟨bb, hbb, rfl⟩ := nI_of h1
        obtain ⟨ii, hii, rfl⟩ := nI_of (Int32.not_lt.mpr h5)
        have hfir : (fun r => isF (nxG (fC I sp ns d cs) (RR d cs (alC I sp d) ns).length) r (RR d cs (alC I sp d) ns).length) = (fun r => !(tkG (fC I sp ns d cs) (RR d cs (alC I sp d) ns).length (RR d cs (alC I sp d) ns).length).testBit r) := funext fun r => isF_tk
        have hcnt := cntP_cd htk
        have hcE := cntE_P (fir := fun r => !(tkG (fC I sp ns d cs) (RR d cs (alC I sp d) ns).length (RR d cs (alC I sp d) ns).length).testBit r) (n := (RR d cs (alC I sp d) ns).length) (RR d cs (alC I sp d) ns).length (Nat.le_refl _)
        have hc0 : cntP (fun r => !(tkG (fC I sp ns d cs) (RR d cs (alC I sp d) ns).length (RR d cs (alC I sp d) ns).length).testBit r) ((RR d cs (alC I sp d) ns).length - (RR d cs (alC I sp d) ns).length) = 0 := by rw [Nat.sub_self]; rfl
        have hbig := cdB_big htk 10 h10
        have hsub : nI (RR d cs (alC I sp d) ns).length - nI (cdB (tkG (fC I sp ns d cs) (RR d cs (alC I sp d) ns).length (RR d cs (alC I sp d) ns).length) 10) = nI ((RR d cs (alC I sp d) ns).length - cdB (tkG (fC I sp ns d cs) (RR d cs (alC I sp d) ns).length (RR d cs (alC I sp d) ns).length) 10) := by
          rw [show nI (RR d cs (alC I sp d) ns).length = nI ((RR d cs (alC I sp d) ns).length - cdB (tkG (fC I sp ns d cs) (RR d cs (alC I sp d) ns).length (RR d cs (alC I sp d) ns).length) 10) + nI (cdB (tkG (fC I sp ns d cs) (RR d cs (alC I sp d) ns).length (RR d cs (alC I sp d) ns).length) 10) by rw [nI_add, Nat.sub_add_cancel (by omega)], Int32.add_sub_cancel]
        have hki := kth_iff (fir := fun r => !(tkG (fC I sp ns d cs) (RR d cs (alC I sp d) ns).length (RR d cs (alC I sp d) ns).length).testBit r) (n := (RR d cs (alC I sp d) ns).length) (bb := bb) (RR d cs (alC I sp d) ns).length 0 (Nat.zero_le _)
        refine aE_if_eq (tgt := 33) dX11_chain_19 (by decide) (fun h19 => absurd h19 (by decide)) (fun h19 => ?_)
        refine aE_iload_n dX11_chain_22 rfl rfl ?_
        refine aE_aload_n dX11_chain_23 rfl rfl ?_
        refine aE_getf (v := .ref 54) dX11_chain_24 fw_X11_19 (lt_nn (by decide)) rfl rfl ?_
        refine aE_cVi dX11_chain_27 lk_X11_229 mv_X1_busCount (c_busCount (RR d cs (alC I sp d) ns).length (tkG (fC I sp ns d cs) (RR d cs (alC I sp d) ns).length (RR d cs (alC I sp d) ns).length) kF.2.1 kch.2 (by omega)) rfl (lt_nn (by decide)) rfl rfl ⟨by decide, by decide⟩ (Nat.le_of_ble_eq_true rfl) ⟨rfl, rfl⟩ ⟨by decide, by decide⟩ ?_
        refine aE_top hsub ?_
        refine aE_icmp_lt (tgt := 40) dX11_chain_30 (by decide) (fun h30 => ?_) (fun h30 => ?_)
        · skip
          obtain ⟨r0, hr0⟩ : ∃ r0, kth (fun r => isF (nxG (fC I sp ns d cs) (RR d cs (alC I sp d) ns).length) r (RR d cs (alC I sp d) ns).length) (RR d cs (alC I sp d) ns).length bb (RR d cs (alC I sp d) ns).length 0 = some r0 := by
            cases hk : kth (fun r => isF (nxG (fC I sp ns d cs) (RR d cs (alC I sp d) ns).length) r (RR d cs (alC I sp d) ns).length) (RR d cs (alC I sp d) ns).length bb (RR d cs (alC I sp d) ns).length 0 with
            | some r0 => exact ⟨r0, rfl⟩
            | none =>
              rw [hfir, hki] at hk
              have := (nI_ltI hbb (by omega)).mp h30
              omega
          have hr0n := kth_lt _ _ (Nat.le_refl _) hr0
          have hr1 := hr0
          rw [hfir] at hr1
          refine aE_aload_n dX11_chain_40 rfl rfl ?_
          refine aE_getf (v := .ref 54) dX11_chain_41 fw_X11_19 (lt_nn (by decide)) rfl rfl ?_
          refine aE_iload_n dX11_chain_44 rfl rfl ?_
          refine aE_iload_n dX11_chain_45 rfl rfl ?_
          refine aE_cVi dX11_chain_46 lk_X11_232 mv_X1_driven (c_driven (nxG (fC I sp ns d cs) (RR d cs (alC I sp d) ns).length) (RR d cs (alC I sp d) ns).length (tkG (fC I sp ns d cs) (RR d cs (alC I sp d) ns).length (RR d cs (alC I sp d) ns).length) bb ii kF.2.1 h10 hii kch.1 (fun a b ha hn => (nxG_some hn).1) kch.2 (by omega) hbb r0 hr1) rfl (lt_nn (by decide)) rfl rfl ⟨by decide, by decide⟩ (Nat.le_of_ble_eq_true rfl) ⟨rfl, rfl⟩ ⟨by decide, by decide⟩ ?_
          refine aE_iret dX11_chain_49 rfl ⟨by decide, by decide⟩ ?_
          rw [itN_cap hdp hdn hr0n]
          exact hO K bb ii r0 rfl rfl hK2 hah hr0
        · skip
          have hno : kth (fun r => isF (nxG (fC I sp ns d cs) (RR d cs (alC I sp d) ns).length) r (RR d cs (alC I sp d) ns).length) (RR d cs (alC I sp d) ns).length bb (RR d cs (alC I sp d) ns).length 0 = none := by
            rw [hfir, hki]
            have := (nI_leI (by omega) hbb).mp (Int32.not_lt.mp h30)
            omega
          refine aE_aload_n dX11_chain_33 rfl rfl ?_
          refine aE_ldc dX11_chain_34 ct_X11_98 ?_
          refine aE_cVi dX11_chain_36 lk_X11_62 mv_X11_found (c_found _) rfl (lt_nn (by decide)) rfl rfl ⟨by decide, by decide⟩ (Nat.le_of_ble_eq_true rfl) ⟨rfl, rfl⟩ ⟨by decide, by decide⟩ ?_
          refine aE_iret dX11_chain_39 rfl ⟨by decide, by decide⟩ ?_
          exact hN K bb rfl hK2 hah hno
    · skip
      refine aE_aload_n dX11_chain_8 rfl rfl ?_
      refine aE_ldc dX11_chain_9 ct_X11_78 ?_
      refine aE_cVi dX11_chain_11 lk_X11_62 mv_X11_found (c_found _) rfl (lt_nn (by decide)) rfl rfl ⟨by decide, by decide⟩ (Nat.le_of_ble_eq_true rfl) ⟨rfl, rfl⟩ ⟨by decide, by decide⟩ ?_
      refine aE_iret dX11_chain_14 rfl ⟨by decide, by decide⟩ ?_
      first
        | exact hB (Or.inl h1)
        | exact hB (Or.inr (Int32.not_le.mp h5))

set_option maxRecDepth 20000 in
theorem c_chain_f (v i : Int32) (dp : Nat → Nat) (hW : CW I sp ns nstr nc d cs fr to) (hbe : ∀ s, s < ns → 0 ≤ (I 26 s).toInt ∧ (I 26 s).toInt ≤ 6) (hsl : 0 ≤ (I 1 8).toInt ∧ (I 1 8).toInt ≤ 30) (hch : ¬ I 0 8 = 0 → ¬ I 0 7 = 0 ∧ ChC I (fC I sp ns d cs) (RR d cs (alC I sp d) ns).length) (hdp : dpOK (nxG (fC I sp ns d cs) (RR d cs (alC I sp d) ns).length) (RR d cs (alC I sp d) ns).length dp) (hdn : ∀ r, r < (RR d cs (alC I sp d) ns).length → dp r < (RR d cs (alC I sp d) ns).length) (h07 : I 0 7 = 0) (hG : ¬ (v < 0 ∨ i < 0)) (hN0 : ∀ J, ¬ v < 0 → 0 ≤ i → DP I J sp ns nstr nc d cs fr to → allH d cs (alC I sp d) ns = false → qi Q (-1000004) (fnd J) sp true) (hN : ∀ K bb, v = nI bb → LC I K sp ns nstr nc d cs fr to → allH d cs (alC I sp d) ns = true → kth (fun r => isF (nxG (fC I sp ns d cs) (RR d cs (alC I sp d) ns).length) r (RR d cs (alC I sp d) ns).length) (RR d cs (alC I sp d) ns).length bb (RR d cs (alC I sp d) ns).length 0 = none → qi Q (-1000004) (fnd K) sp true) (hO : ∀ K bb ii r, v = nI bb → i = nI ii → LC I K sp ns nstr nc d cs fr to → allH d cs (alC I sp d) ns = true → kth (fun r => isF (nxG (fC I sp ns d cs) (RR d cs (alC I sp d) ns).length) r (RR d cs (alC I sp d) ns).length) (RR d cs (alC I sp d) ns).length bb (RR d cs (alC I sp d) ns).length 0 = some r → qi Q (rv (itN (nxG (fC I sp ns d cs) (RR d cs (alC I sp d) ns).length) ii (some r))) K sp true) : aRuns mX11_chain (rP 7) [.ref 0, .int v, .int i] (nn false) (MM I sp false) Q := by
  refine aRuns_of pn_X11_chain (Nat.le_of_ble_eq_true rfl) (fun z => aE_loc (ls' := [_, _, _]) rfl ?_)
  refine aE_iload_n dX11_chain_0 rfl rfl ?_
  refine aE_if_lt (tgt := 8) dX11_chain_1 (by decide) (fun h1 => ?_) (fun h1 => ?_)
  · skip
    refine aE_aload_n dX11_chain_8 rfl rfl ?_
    refine aE_ldc dX11_chain_9 ct_X11_78 ?_
    refine aE_cVi dX11_chain_11 lk_X11_62 mv_X11_found (c_found _) rfl (lt_nn (by decide)) rfl rfl ⟨by decide, by decide⟩ (Nat.le_of_ble_eq_true rfl) ⟨rfl, rfl⟩ ⟨by decide, by decide⟩ ?_
    refine aE_iret dX11_chain_14 rfl ⟨by decide, by decide⟩ ?_
    first
      | exact absurd (Or.inl h1) hG
      | exact absurd (Or.inr (Int32.not_le.mp h5)) hG
  · skip
    refine aE_iload_n dX11_chain_4 rfl rfl ?_
    refine aE_if_ge (tgt := 15) dX11_chain_5 (by decide) (fun h5 => ?_) (fun h5 => ?_)
    · skip
      refine aE_aload_n dX11_chain_15 rfl rfl ?_
      refine aE_callV dX11_chain_16 lk_X11_225 mv_X11_linkChains (c_linkChains_f (Q := (fun (r : Option Value) (n' : Nat) (m' : aM) => n' = nn true ∧ ((r = some (.int 0) ∧ ∃ J, m' = MM J sp true ∧ DP I J sp ns nstr nc d cs fr to ∧ allH d cs (alC I sp d) ns = false) ∨ (r = some (.int 1) ∧ ∃ K, m' = MM K sp true ∧ LC I K sp ns nstr nc d cs fr to ∧ allH d cs (alC I sp d) ns = true)))) hW hbe hsl h07 hch (fun J a b => ⟨rfl, Or.inl ⟨rfl, J, rfl, a, b⟩⟩) (fun K a b => ⟨rfl, Or.inr ⟨rfl, K, rfl, a, b⟩⟩)) rfl (lt_nn (by decide)) rfl rfl ⟨by decide, by decide⟩ (Nat.le_of_ble_eq_true rfl) ⟨by decide, by decide⟩ ?_
      rintro r n' m' ⟨rfl, ⟨rfl, J, rfl, hJ, hah⟩ | ⟨rfl, K, rfl, hK, hah⟩⟩
      · skip
        refine aE_if_eq (tgt := 33) dX11_chain_19 (by decide) (fun h19 => ?_) (fun h19 => absurd (rfl) h19)
        refine aE_aload_n dX11_chain_33 rfl rfl ?_
        refine aE_ldc dX11_chain_34 ct_X11_98 ?_
        refine aE_cVi dX11_chain_36 lk_X11_62 mv_X11_found (c_found _) rfl (lt_nn (by decide)) rfl rfl ⟨by decide, by decide⟩ (Nat.le_of_ble_eq_true rfl) ⟨rfl, rfl⟩ ⟨by decide, by decide⟩ ?_
        refine aE_iret dX11_chain_39 rfl ⟨by decide, by decide⟩ ?_
        exact hN0 J h1 h5 hJ hah
      · have hK2 := hK
        obtain ⟨⟨J, hJ, hJK⟩, k08, kch, kW, kP, kF, k07⟩ := hK
        have hA := CW_al hW
        have h10 := hA.2.1
        have htk := tkG_lt (fC I sp ns d cs) (RR d cs (alC I sp d) ns).length (RR d cs (alC I sp d) ns).length
        have hp := pow10' h10
        obtain ⟨bb, hbb, rfl⟩ := nI_of h1
        obtain ⟨ii, hii, rfl⟩ := nI_of (Int32.not_lt.mpr h5)
        have hfir : (fun r => isF (nxG (fC I sp ns d cs) (RR d cs (alC I sp d) ns).length) r (RR d cs (alC I sp d) ns).length) = (fun r => !(tkG (fC I sp ns d cs) (RR d cs (alC I sp d) ns).length (RR d cs (alC I sp d) ns).length).testBit r) := funext fun r => isF_tk
        have hcnt := cntP_cd htk
        have hcE := cntE_P (fir := fun r => !(tkG (fC I sp ns d cs) (RR d cs (alC I sp d) ns).length (RR d cs (alC I sp d) ns).length).testBit r) (n := (RR d cs (alC I sp d) ns).length) (RR d cs (alC I sp d) ns).length (Nat.le_refl _)
        have hc0 : cntP (fun r => !(tkG (fC I sp ns d cs) (RR d cs (alC I sp d) ns).length (RR d cs (alC I sp d) ns).length).testBit r) ((RR d cs (alC I sp d) ns).length - (RR d cs (alC I sp d) ns).length) = 0 := by rw [Nat.sub_self]; rfl
        have hbig := cdB_big htk 10 h10
        have hsub : nI (RR d cs (alC I sp d) ns).length - nI (cdB (tkG (fC I sp ns d cs) (RR d cs (alC I sp d) ns).length (RR d cs (alC I sp d) ns).length) 10) = nI ((RR d cs (alC I sp d) ns).length - cdB (tkG (fC I sp ns d cs) (RR d cs (alC I sp d) ns).length (RR d cs (alC I sp d) ns).length) 10) := by
          rw [show nI (RR d cs (alC I sp d) ns).length = nI ((RR d cs (alC I sp d) ns).length - cdB (tkG (fC I sp ns d cs) (RR d cs (alC I sp d) ns).length (RR d cs (alC I sp d) ns).length) 10) + nI (cdB (tkG (fC I sp ns d cs) (RR d cs (alC I sp d) ns).length (RR d cs (alC I sp d) ns).length) 10) by rw [nI_add, Nat.sub_add_cancel (by omega)], Int32.add_sub_cancel]
        have hki := kth_iff (fir := fun r => !(tkG (fC I sp ns d cs) (RR d cs (alC I sp d) ns).length (RR d cs (alC I sp d) ns).length).testBit r) (n := (RR d cs (alC I sp d) ns).length) (bb := bb) (RR d cs (alC I sp d) ns).length 0 (Nat.zero_le _)
        refine aE_if_eq (tgt := 33) dX11_chain_19 (by decide) (fun h19 => absurd h19 (by decide)) (fun h19 => ?_)
        refine aE_iload_n dX11_chain_22 rfl rfl ?_
        refine aE_aload_n dX11_chain_23 rfl rfl ?_
        refine aE_getf (v := .ref 54) dX11_chain_24 fw_X11_19 (lt_nn (by decide)) rfl rfl ?_
        refine aE_cVi dX11_chain_27 lk_X11_229 mv_X1_busCount (c_busCount (RR d cs (alC I sp d) ns).length (tkG (fC I sp ns d cs) (RR d cs (alC I sp d) ns).length (RR d cs (alC I sp d) ns).length) kF.2.1 kch.2 (by omega)) rfl (lt_nn (by decide)) rfl rfl ⟨by decide, by decide⟩ (Nat.le_of_ble_eq_true rfl) ⟨rfl, rfl⟩ ⟨by decide, by decide⟩ ?_
        refine aE_top hsub ?_
        refine aE_icmp_lt (tgt := 40) dX11_chain_30 (by decide) (fun h30 => ?_) (fun h30 => ?_)
        · skip
          obtain ⟨r0, hr0⟩ : ∃ r0, kth (fun r => isF (nxG (fC I sp ns d cs) (RR d cs (alC I sp d) ns).length) r (RR d cs (alC I sp d) ns).length) (RR d cs (alC I sp d) ns).length bb (RR d cs (alC I sp d) ns).length 0 = some r0 := by
            cases hk : kth (fun r => isF (nxG (fC I sp ns d cs) (RR d cs (alC I sp d) ns).length) r (RR d cs (alC I sp d) ns).length) (RR d cs (alC I sp d) ns).length bb (RR d cs (alC I sp d) ns).length 0 with
            | some r0 => exact ⟨r0, rfl⟩
            | none =>
              rw [hfir, hki] at hk
              have := (nI_ltI hbb (by omega)).mp h30
              omega
          have hr0n := kth_lt _ _ (Nat.le_refl _) hr0
          have hr1 := hr0
          rw [hfir] at hr1
          refine aE_aload_n dX11_chain_40 rfl rfl ?_
          refine aE_getf (v := .ref 54) dX11_chain_41 fw_X11_19 (lt_nn (by decide)) rfl rfl ?_
          refine aE_iload_n dX11_chain_44 rfl rfl ?_
          refine aE_iload_n dX11_chain_45 rfl rfl ?_
          refine aE_cVi dX11_chain_46 lk_X11_232 mv_X1_driven (c_driven (nxG (fC I sp ns d cs) (RR d cs (alC I sp d) ns).length) (RR d cs (alC I sp d) ns).length (tkG (fC I sp ns d cs) (RR d cs (alC I sp d) ns).length (RR d cs (alC I sp d) ns).length) bb ii kF.2.1 h10 hii kch.1 (fun a b ha hn => (nxG_some hn).1) kch.2 (by omega) hbb r0 hr1) rfl (lt_nn (by decide)) rfl rfl ⟨by decide, by decide⟩ (Nat.le_of_ble_eq_true rfl) ⟨rfl, rfl⟩ ⟨by decide, by decide⟩ ?_
          refine aE_iret dX11_chain_49 rfl ⟨by decide, by decide⟩ ?_
          rw [itN_cap hdp hdn hr0n]
          exact hO K bb ii r0 rfl rfl hK2 hah hr0
        · skip
          have hno : kth (fun r => isF (nxG (fC I sp ns d cs) (RR d cs (alC I sp d) ns).length) r (RR d cs (alC I sp d) ns).length) (RR d cs (alC I sp d) ns).length bb (RR d cs (alC I sp d) ns).length 0 = none := by
            rw [hfir, hki]
            have := (nI_leI (by omega) hbb).mp (Int32.not_lt.mp h30)
            omega
          refine aE_aload_n dX11_chain_33 rfl rfl ?_
          refine aE_ldc dX11_chain_34 ct_X11_98 ?_
          refine aE_cVi dX11_chain_36 lk_X11_62 mv_X11_found (c_found _) rfl (lt_nn (by decide)) rfl rfl ⟨by decide, by decide⟩ (Nat.le_of_ble_eq_true rfl) ⟨rfl, rfl⟩ ⟨by decide, by decide⟩ ?_
          refine aE_iret dX11_chain_39 rfl ⟨by decide, by decide⟩ ?_
          exact hN K bb rfl hK2 hah hno
    · skip
      refine aE_aload_n dX11_chain_8 rfl rfl ?_
      refine aE_ldc dX11_chain_9 ct_X11_78 ?_
      refine aE_cVi dX11_chain_11 lk_X11_62 mv_X11_found (c_found _) rfl (lt_nn (by decide)) rfl rfl ⟨by decide, by decide⟩ (Nat.le_of_ble_eq_true rfl) ⟨rfl, rfl⟩ ⟨by decide, by decide⟩ ?_
      refine aE_iret dX11_chain_14 rfl ⟨by decide, by decide⟩ ?_
      first
        | exact absurd (Or.inl h1) hG
        | exact absurd (Or.inr (Int32.not_le.mp h5)) hG

set_option maxRecDepth 20000 in
theorem c_chain_b (v i : Int32) (dp : Nat → Nat) (hW : CW I sp ns nstr nc d cs fr to) (hbe : ∀ s, s < ns → 0 ≤ (I 26 s).toInt ∧ (I 26 s).toInt ≤ 6) (hsl : 0 ≤ (I 1 8).toInt ∧ (I 1 8).toInt ≤ 30) (hch : ¬ I 0 8 = 0 → ¬ I 0 7 = 0 ∧ ChC I (fC I sp ns d cs) (RR d cs (alC I sp d) ns).length) (hdp : dpOK (nxG (fC I sp ns d cs) (RR d cs (alC I sp d) ns).length) (RR d cs (alC I sp d) ns).length dp) (hdn : ∀ r, r < (RR d cs (alC I sp d) ns).length → dp r < (RR d cs (alC I sp d) ns).length) (hb : v < 0 ∨ i < 0) (hB : qi Q (-1000001) (fnd I) sp false) : aRuns mX11_chain (rK 7) [.ref 0, .int v, .int i] (nn false) (MM I sp false) Q := by
  refine aRuns_of pn_X11_chain (Nat.le_of_ble_eq_true rfl) (fun z => aE_loc (ls' := [_, _, _]) rfl ?_)
  refine aE_iload_n dX11_chain_0 rfl rfl ?_
  refine aE_if_lt (tgt := 8) dX11_chain_1 (by decide) (fun h1 => ?_) (fun h1 => ?_)
  · skip
    refine aE_aload_n dX11_chain_8 rfl rfl ?_
    refine aE_ldc dX11_chain_9 ct_X11_78 ?_
    refine aE_cVi dX11_chain_11 lk_X11_62 mv_X11_found (c_found _) rfl (lt_nn (by decide)) rfl rfl ⟨by decide, by decide⟩ (Nat.le_of_ble_eq_true rfl) ⟨rfl, rfl⟩ ⟨by decide, by decide⟩ ?_
    refine aE_iret dX11_chain_14 rfl ⟨by decide, by decide⟩ ?_
    exact hB
  · skip
    refine aE_iload_n dX11_chain_4 rfl rfl ?_
    refine aE_if_ge (tgt := 15) dX11_chain_5 (by decide) (fun h5 => ?_) (fun h5 => ?_)
    · skip
      exact absurd hb (fun q => by rcases q with q | q; exact h1 q; exact Int32.not_le.mpr q h5)
    · skip
      refine aE_aload_n dX11_chain_8 rfl rfl ?_
      refine aE_ldc dX11_chain_9 ct_X11_78 ?_
      refine aE_cVi dX11_chain_11 lk_X11_62 mv_X11_found (c_found _) rfl (lt_nn (by decide)) rfl rfl ⟨by decide, by decide⟩ (Nat.le_of_ble_eq_true rfl) ⟨rfl, rfl⟩ ⟨by decide, by decide⟩ ?_
      refine aE_iret dX11_chain_14 rfl ⟨by decide, by decide⟩ ?_
      exact hB

set_option maxRecDepth 20000 in
theorem c_aides_t  (hW : CW I sp ns nstr nc d cs fr to) (hbe : ∀ s, s < ns → 0 ≤ (I 26 s).toInt ∧ (I 26 s).toInt ≤ 6) (hsl : 0 ≤ (I 1 8).toInt ∧ (I 1 8).toInt ≤ 30) (hch : ¬ I 0 8 = 0 → ¬ I 0 7 = 0 ∧ ChC I (fC I sp ns d cs) (RR d cs (alC I sp d) ns).length) (hst : ¬ I 0 7 = 0 → PCs I ns d cs (alC I sp d) ∧ FlC I ns d cs (alC I sp d) (I 1 8)) (hN : ∀ J, DP I J sp ns nstr nc d cs fr to → allH d cs (alC I sp d) ns = false → qi Q (-1000004) (fnd J) sp true) (hO : ∀ K, LC I K sp ns nstr nc d cs fr to → allH d cs (alC I sp d) ns = true → qi Q (nI (cntP (fun r => isF (nxG (fC I sp ns d cs) (RR d cs (alC I sp d) ns).length) r (RR d cs (alC I sp d) ns).length && anyN (fun r => decide (I (28 + 4 * (rt0 (RR d cs (alC I sp d) ns) r).1) 0 = 3)) (nxG (fC I sp ns d cs) (RR d cs (alC I sp d) ns).length) (RR d cs (alC I sp d) ns).length (some r)) (RR d cs (alC I sp d) ns).length)) K sp true) : aRuns mX11_aides (rK 7) [.ref 0] (nn true) (MM I sp true) Q := by
  refine aRuns_of pn_X11_aides (Nat.le_of_ble_eq_true rfl) (fun z => aE_loc (ls' := [_]) rfl ?_)
  refine aE_aload_n dX11_aides_0 rfl rfl ?_
  refine aE_cVq dX11_aides_1 lk_X11_225 mv_X11_linkChains (c_linkChains_t (Q := (fun (r : Option Value) (n' : Nat) (m' : aM) => n' = nn true ∧ ((r = some (.int 0) ∧ ∃ J, m' = MM J sp true ∧ DP I J sp ns nstr nc d cs fr to ∧ allH d cs (alC I sp d) ns = false) ∨ (r = some (.int 1) ∧ ∃ K, m' = MM K sp true ∧ LC I K sp ns nstr nc d cs fr to ∧ allH d cs (alC I sp d) ns = true)))) hW hbe hsl hst hch (fun J a b => ⟨rfl, Or.inl ⟨rfl, J, rfl, a, b⟩⟩) (fun K a b => ⟨rfl, Or.inr ⟨rfl, K, rfl, a, b⟩⟩)) rfl (lt_nn (by decide)) rfl rfl ⟨by decide, by decide⟩ (Nat.le_of_ble_eq_true rfl) ⟨rfl, rfl⟩ ⟨by decide, by decide⟩ ?_
  rintro r n' m' ⟨rfl, ⟨rfl, J, rfl, hJ, hah⟩ | ⟨rfl, K, rfl, hK, hah⟩⟩
  · skip
    refine aE_if_eq (tgt := 21) dX11_aides_4 (by decide) (fun h4 => ?_) (fun h4 => absurd (rfl) h4)
    refine aE_aload_n dX11_aides_21 rfl rfl ?_
    refine aE_ldc dX11_aides_22 ct_X11_98 ?_
    refine aE_cVi dX11_aides_24 lk_X11_62 mv_X11_found (c_found _) rfl (lt_nn (by decide)) rfl rfl ⟨by decide, by decide⟩ (Nat.le_of_ble_eq_true rfl) ⟨rfl, rfl⟩ ⟨by decide, by decide⟩ ?_
    refine aE_iret dX11_aides_27 rfl ⟨by decide, by decide⟩ ?_
    exact hN J hJ hah
  · have hK2 := hK
    obtain ⟨⟨J, hJ, hJK⟩, k08, kch, kW, kP, kF, k07⟩ := hK
    have hA := CW_al hW
    have h10 := hA.2.1
    have htk := tkG_lt (fC I sp ns d cs) (RR d cs (alC I sp d) ns).length (RR d cs (alC I sp d) ns).length
    have hp := pow10' h10
    have hsc : ∀ r, r < (RR d cs (alC I sp d) ns).length → (rt0 (RR d cs (alC I sp d) ns) r).1 < 4 ∧ K 55 r = nI (rt0 (RR d cs (alC I sp d) ns) r).1 ∧ (K (28 + 4 * (rt0 (RR d cs (alC I sp d) ns) r).1) 0 = 3 ↔ (fun r => decide (I (28 + 4 * (rt0 (RR d cs (alC I sp d) ns) r).1) 0 = 3)) r = true) := fun r hr => by
      obtain ⟨s, S, e⟩ : ∃ x y, rt0 (RR d cs (alC I sp d) ns) r = (x, y) := ⟨_, _, rfl⟩
      have hrt := rt0_ex hr
      rw [e] at hrt
      obtain ⟨i, i1, i2, i3, i4, i5, i6, i7, i8, i9, i10, i11⟩ := FlR_get hA kF.2.2.2.1 hrt
      have hs4 : s < 4 := by have := hW.1.2; omega
      have hk : K (28 + 4 * s) 0 = I (28 + 4 * s) 0 := (hJK _ _ (by omega) (by omega) (by omega) (by omega)).trans (hJ.1 _ _ (by omega) (by omega) (by omega) (by omega) (by omega) (by omega) (by omega) (by omega) (by omega))
      show _ ∧ _ ∧ (_ ↔ decide (I (28 + 4 * (rt0 (RR d cs (alC I sp d) ns) r).1) 0 = 3) = true)
      rw [e, decide_eq_true_eq]
      exact ⟨hs4, i4, by rw [hk]⟩
    have hfe : (fun r => isF (nxG (fC I sp ns d cs) (RR d cs (alC I sp d) ns).length) r (RR d cs (alC I sp d) ns).length && anyN (fun r => decide (I (28 + 4 * (rt0 (RR d cs (alC I sp d) ns) r).1) 0 = 3)) (nxG (fC I sp ns d cs) (RR d cs (alC I sp d) ns).length) (RR d cs (alC I sp d) ns).length (some r)) = (fun r => !(tkG (fC I sp ns d cs) (RR d cs (alC I sp d) ns).length (RR d cs (alC I sp d) ns).length).testBit r && anyN (fun r => decide (I (28 + 4 * (rt0 (RR d cs (alC I sp d) ns) r).1) 0 = 3)) (nxG (fC I sp ns d cs) (RR d cs (alC I sp d) ns).length) (RR d cs (alC I sp d) ns).length (some r)) := funext fun r => by rw [isF_tk]
    refine aE_if_eq (tgt := 21) dX11_aides_4 (by decide) (fun h4 => absurd h4 (by decide)) (fun h4 => ?_)
    refine aE_aload_n dX11_aides_7 rfl rfl ?_
    refine aE_getf (v := .ref 54) dX11_aides_8 fw_X11_19 (lt_nn (by decide)) rfl rfl ?_
    refine aE_aload_n dX11_aides_11 rfl rfl ?_
    refine aE_getf (v := .ref 1) dX11_aides_12 fw_X11_10 (lt_nn (by decide)) rfl rfl ?_
    refine aE_cVi dX11_aides_15 lk_X11_235 mv_X1_specialBuses (c_specialBuses (nxG (fC I sp ns d cs) (RR d cs (alC I sp d) ns).length) (RR d cs (alC I sp d) ns).length kF.2.1 h10 kch.1 (fun a b ha hn => (nxG_some hn).1) (fun r => decide (I (28 + 4 * (rt0 (RR d cs (alC I sp d) ns) r).1) 0 = 3)) (fun r => (rt0 (RR d cs (alC I sp d) ns) r).1) hsc (tkG (fC I sp ns d cs) (RR d cs (alC I sp d) ns).length (RR d cs (alC I sp d) ns).length) kch.2 (by omega)) rfl (lt_nn (by decide)) rfl rfl ⟨by decide, by decide⟩ (Nat.le_of_ble_eq_true rfl) ⟨rfl, rfl⟩ ⟨by decide, by decide⟩ ?_
    refine aE_goto (tgt := 27) dX11_aides_18 (by decide) ?_
    refine aE_iret dX11_aides_27 rfl ⟨by decide, by decide⟩ ?_
    rw [← hfe]
    exact hO K hK2 hah

set_option maxRecDepth 20000 in
theorem c_aides_f  (hW : CW I sp ns nstr nc d cs fr to) (hbe : ∀ s, s < ns → 0 ≤ (I 26 s).toInt ∧ (I 26 s).toInt ≤ 6) (hsl : 0 ≤ (I 1 8).toInt ∧ (I 1 8).toInt ≤ 30) (hch : ¬ I 0 8 = 0 → ¬ I 0 7 = 0 ∧ ChC I (fC I sp ns d cs) (RR d cs (alC I sp d) ns).length) (h07 : I 0 7 = 0) (hN : ∀ J, DP I J sp ns nstr nc d cs fr to → allH d cs (alC I sp d) ns = false → qi Q (-1000004) (fnd J) sp true) (hO : ∀ K, LC I K sp ns nstr nc d cs fr to → allH d cs (alC I sp d) ns = true → qi Q (nI (cntP (fun r => isF (nxG (fC I sp ns d cs) (RR d cs (alC I sp d) ns).length) r (RR d cs (alC I sp d) ns).length && anyN (fun r => decide (I (28 + 4 * (rt0 (RR d cs (alC I sp d) ns) r).1) 0 = 3)) (nxG (fC I sp ns d cs) (RR d cs (alC I sp d) ns).length) (RR d cs (alC I sp d) ns).length (some r)) (RR d cs (alC I sp d) ns).length)) K sp true) : aRuns mX11_aides (rP 7) [.ref 0] (nn false) (MM I sp false) Q := by
  refine aRuns_of pn_X11_aides (Nat.le_of_ble_eq_true rfl) (fun z => aE_loc (ls' := [_]) rfl ?_)
  refine aE_aload_n dX11_aides_0 rfl rfl ?_
  refine aE_callV dX11_aides_1 lk_X11_225 mv_X11_linkChains (c_linkChains_f (Q := (fun (r : Option Value) (n' : Nat) (m' : aM) => n' = nn true ∧ ((r = some (.int 0) ∧ ∃ J, m' = MM J sp true ∧ DP I J sp ns nstr nc d cs fr to ∧ allH d cs (alC I sp d) ns = false) ∨ (r = some (.int 1) ∧ ∃ K, m' = MM K sp true ∧ LC I K sp ns nstr nc d cs fr to ∧ allH d cs (alC I sp d) ns = true)))) hW hbe hsl h07 hch (fun J a b => ⟨rfl, Or.inl ⟨rfl, J, rfl, a, b⟩⟩) (fun K a b => ⟨rfl, Or.inr ⟨rfl, K, rfl, a, b⟩⟩)) rfl (lt_nn (by decide)) rfl rfl ⟨by decide, by decide⟩ (Nat.le_of_ble_eq_true rfl) ⟨by decide, by decide⟩ ?_
  rintro r n' m' ⟨rfl, ⟨rfl, J, rfl, hJ, hah⟩ | ⟨rfl, K, rfl, hK, hah⟩⟩
  · skip
    refine aE_if_eq (tgt := 21) dX11_aides_4 (by decide) (fun h4 => ?_) (fun h4 => absurd (rfl) h4)
    refine aE_aload_n dX11_aides_21 rfl rfl ?_
    refine aE_ldc dX11_aides_22 ct_X11_98 ?_
    refine aE_cVi dX11_aides_24 lk_X11_62 mv_X11_found (c_found _) rfl (lt_nn (by decide)) rfl rfl ⟨by decide, by decide⟩ (Nat.le_of_ble_eq_true rfl) ⟨rfl, rfl⟩ ⟨by decide, by decide⟩ ?_
    refine aE_iret dX11_aides_27 rfl ⟨by decide, by decide⟩ ?_
    exact hN J hJ hah
  · have hK2 := hK
    obtain ⟨⟨J, hJ, hJK⟩, k08, kch, kW, kP, kF, k07⟩ := hK
    have hA := CW_al hW
    have h10 := hA.2.1
    have htk := tkG_lt (fC I sp ns d cs) (RR d cs (alC I sp d) ns).length (RR d cs (alC I sp d) ns).length
    have hp := pow10' h10
    have hsc : ∀ r, r < (RR d cs (alC I sp d) ns).length → (rt0 (RR d cs (alC I sp d) ns) r).1 < 4 ∧ K 55 r = nI (rt0 (RR d cs (alC I sp d) ns) r).1 ∧ (K (28 + 4 * (rt0 (RR d cs (alC I sp d) ns) r).1) 0 = 3 ↔ (fun r => decide (I (28 + 4 * (rt0 (RR d cs (alC I sp d) ns) r).1) 0 = 3)) r = true) := fun r hr => by
      obtain ⟨s, S, e⟩ : ∃ x y, rt0 (RR d cs (alC I sp d) ns) r = (x, y) := ⟨_, _, rfl⟩
      have hrt := rt0_ex hr
      rw [e] at hrt
      obtain ⟨i, i1, i2, i3, i4, i5, i6, i7, i8, i9, i10, i11⟩ := FlR_get hA kF.2.2.2.1 hrt
      have hs4 : s < 4 := by have := hW.1.2; omega
      have hk : K (28 + 4 * s) 0 = I (28 + 4 * s) 0 := (hJK _ _ (by omega) (by omega) (by omega) (by omega)).trans (hJ.1 _ _ (by omega) (by omega) (by omega) (by omega) (by omega) (by omega) (by omega) (by omega) (by omega))
      show _ ∧ _ ∧ (_ ↔ decide (I (28 + 4 * (rt0 (RR d cs (alC I sp d) ns) r).1) 0 = 3) = true)
      rw [e, decide_eq_true_eq]
      exact ⟨hs4, i4, by rw [hk]⟩
    have hfe : (fun r => isF (nxG (fC I sp ns d cs) (RR d cs (alC I sp d) ns).length) r (RR d cs (alC I sp d) ns).length && anyN (fun r => decide (I (28 + 4 * (rt0 (RR d cs (alC I sp d) ns) r).1) 0 = 3)) (nxG (fC I sp ns d cs) (RR d cs (alC I sp d) ns).length) (RR d cs (alC I sp d) ns).length (some r)) = (fun r => !(tkG (fC I sp ns d cs) (RR d cs (alC I sp d) ns).length (RR d cs (alC I sp d) ns).length).testBit r && anyN (fun r => decide (I (28 + 4 * (rt0 (RR d cs (alC I sp d) ns) r).1) 0 = 3)) (nxG (fC I sp ns d cs) (RR d cs (alC I sp d) ns).length) (RR d cs (alC I sp d) ns).length (some r)) := funext fun r => by rw [isF_tk]
    refine aE_if_eq (tgt := 21) dX11_aides_4 (by decide) (fun h4 => absurd h4 (by decide)) (fun h4 => ?_)
    refine aE_aload_n dX11_aides_7 rfl rfl ?_
    refine aE_getf (v := .ref 54) dX11_aides_8 fw_X11_19 (lt_nn (by decide)) rfl rfl ?_
    refine aE_aload_n dX11_aides_11 rfl rfl ?_
    refine aE_getf (v := .ref 1) dX11_aides_12 fw_X11_10 (lt_nn (by decide)) rfl rfl ?_
    refine aE_cVi dX11_aides_15 lk_X11_235 mv_X1_specialBuses (c_specialBuses (nxG (fC I sp ns d cs) (RR d cs (alC I sp d) ns).length) (RR d cs (alC I sp d) ns).length kF.2.1 h10 kch.1 (fun a b ha hn => (nxG_some hn).1) (fun r => decide (I (28 + 4 * (rt0 (RR d cs (alC I sp d) ns) r).1) 0 = 3)) (fun r => (rt0 (RR d cs (alC I sp d) ns) r).1) hsc (tkG (fC I sp ns d cs) (RR d cs (alC I sp d) ns).length (RR d cs (alC I sp d) ns).length) kch.2 (by omega)) rfl (lt_nn (by decide)) rfl rfl ⟨by decide, by decide⟩ (Nat.le_of_ble_eq_true rfl) ⟨rfl, rfl⟩ ⟨by decide, by decide⟩ ?_
    refine aE_goto (tgt := 27) dX11_aides_18 (by decide) ?_
    refine aE_iret dX11_aides_27 rfl ⟨by decide, by decide⟩ ?_
    rw [← hfe]
    exact hO K hK2 hah

end CCHAIN2
