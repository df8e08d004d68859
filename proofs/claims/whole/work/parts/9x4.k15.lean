section K15
variable {I : Nat → Nat → Int32} {sp : Nat → Nat} {pl : Bool} {J K : Nat → Nat → Int32} {ns nstr nc : Nat} {d : pD} {cs : Nat → pC} {fr to sc kd : Nat → Nat} {nr tl nm : Nat} {cn : Nat → Nat}
/-- the model's caches, the class's cells having moved -/
theorem Cach_m (hC : Core J sp ns nstr nc d cs fr to sc kd nr tl nm cn) (hK : Cach J sp pl ns d cs nr) (f : ∀ q i, 101 ≤ q ∧ q < 147 → K q i = J q i) : (¬ K 101 29 = 0 → PlM K d cs (alM K d) ns) ∧ (¬ K 101 30 = 0 → TRL K (lsM K d cs ns nr 11).2 (tsM K d cs ns nr (7 ^ ns)) ns) := by
  obtain ⟨t1, t2⟩ := ts_fr (I := J) (J := K) (d := d) (cs := cs) (ns := ns) (nr := nr) (fun q i hh => f q i (by omega))
  refine ⟨fun q => ?_, fun q => ?_⟩
  · rw [f 101 29 (by omega)] at q
    have eM : alM K d = alM J d := PlM_al hC (fun i => f _ _ (by omega))
    rw [eM]
    exact PlM_fr hC.1.2.2.2.2.2.2.1.2 (hK.2.2.2.1 q) (fun q i hh => f q i (by omega))
  · rw [f 101 30 (by omega)] at q
    have b := hK.2.2.2.2 q
    rw [t1, t2]
    exact ⟨(f _ _ (by omega)).trans b.1, fun i n hi => by
      obtain ⟨c1, c2, c3⟩ := b.2 i n hi
      exact ⟨(f _ _ (by omega)).trans c1, (f _ _ (by omega)).trans c2, fun c hc s hs => (f _ _ (by omega)).trans (c3 c hc s hs)⟩⟩
/-- the chains are linked -/
theorem aft_LC (hC : Core I sp ns nstr nc d cs fr to sc kd nr tl nm cn) (hK : Cach I sp pl ns d cs nr) (h : LC I K sp ns nstr nc d cs fr to) : Core K sp ns nstr nc d cs fr to sc kd nr tl nm cn ∧ Cach K sp true ns d cs nr ∧ alC K sp d = alC I sp d ∧ fC K sp ns d cs = fC I sp ns d cs := by
  obtain ⟨⟨J, hD, hL⟩, k8, kch, kW, kP, kF, k7⟩ := h
  obtain ⟨cJ, kJ⟩ := aft_DP hC hK hD
  have hW := hC.1
  have ea : alC J sp d = alC I sp d := alC_fr hW (FrDr_C hD.1)
  have g : ∀ q i, (q < 54 ∨ 55 ≤ q) → q ≠ 56 → ¬ (69 ≤ q ∧ q ≤ 74) → ¬ (q = 0 ∧ i = 8) → K q i = J q i := fun q i a b c e => hL q i b c (by omega) e
  have eb : alC K sp d = alC I sp d := (alC_sp hW.2.2.2.2.2.2.1.2 hW.2.2.2.2.2.2.2.1 (fun q i h => g q i (by omega) (by omega) (by omega) (by omega))).trans ea
  have e18 : K 1 8 = I 1 8 := (g 1 8 (by omega) (by omega) (by omega) (by omega)).trans (hD.1 1 8 (by omega) (by omega) (by omega) (by omega) (by omega) (by omega) (by omega) (by omega) (by omega))
  have e26 : (fun s => K 26 s) = (fun s => I 26 s) := funext fun s => (g 26 s (by omega) (by omega) (by omega) (by omega)).trans (hD.1 26 s (by omega) (by omega) (by omega) (by omega) (by omega) (by omega) (by omega) (by omega) (by omega))
  have ef : fC K sp ns d cs = fC I sp ns d cs := by unfold fC; rw [eb, e18, e26]
  obtain ⟨m1, m2⟩ := Cach_m (K := K) cJ kJ (fun q i h => g q i (by omega) (by omega) (by omega) (by omega))
  obtain ⟨t1, t2⟩ := ts_fr (I := J) (J := K) (d := d) (cs := cs) (ns := ns) (nr := nr) (fun q i hh => g q i (by omega) (by omega) (by omega) (by omega))
  refine ⟨Core_fr cJ (fun q i hc => by unfold coreC at hc; exact g q i (by omega) (by omega) (by omega) (by omega)) (by rw [g 101 6 (by omega) (by omega) (by omega) (by omega), g 0 10 (by omega) (by omega) (by omega) (by omega)]; exact cJ.2.1.2.2.2.2.2.2.1) kW.2.2.2.2.2.2.2.2.2.2.2, ⟨fun _ => ⟨rfl, by rw [eb]; exact kP, by rw [eb, e18]; exact kF⟩, fun _ => ⟨k7, by rw [ef, eb]; exact kch⟩, fun q => ⟨k7, ?_⟩, m1, m2⟩, eb, ef⟩
  rw [g 0 9 (by omega) (by omega) (by omega) (by omega)] at q
  rw [t1, t2]
  exact MkT_fr (kJ.2.2.1 q).2 (fun q i h => g q i (by omega) (by omega) (by omega) (by omega))
theorem mC_F (h : MC J K ns d cs) : ∀ q i, ¬ (121 ≤ q ∧ q ≤ 139) → q ≠ 143 → q ≠ 145 → ¬ (q = 101 ∧ (i = 29 ∨ i = 42 ∨ i = 43)) → K q i = J q i := fun q i a _ _ b => h.1 q i (by omega) b
theorem Core_mayf (hC : Core I sp ns nstr nc d cs fr to sc kd nr tl nm cn) : mayF d cs (fun s => fnd I 108 s) (fnd I 101 9) (RR d cs (alC I sp d) ns) = fC I sp ns d cs := mayF_eq (CW_al hC.1).1 hC.1.1.2 ((fnd_o (by omega)).trans hC.2.1.2.2.2.2.2.2.2.2.2) (fun s hs => (fnd_o (by omega)).trans (hC.2.2.2.2.1 s hs).2.2.1)
theorem Core_dp (hC : Core I sp ns nstr nc d cs fr to sc kd nr tl nm cn) : ∃ dp, dpOK (nxG (fC I sp ns d cs) (RR d cs (alC I sp d) ns).length) (RR d cs (alC I sp d) ns).length dp ∧ ∀ r, r < (RR d cs (alC I sp d) ns).length → dp r < (RR d cs (alC I sp d) ns).length := may_dp (CW_al hC.1) (CW_d01 hC.1) (fun s hs => (hC.1.2.2.2.2.2.2.2.2.2.2.1 s hs).2.2.2) hC.2.2.2.2.2.2.2.2.2.2.2.1 (fun s hs => (hC.2.2.2.2.2.1 s hs).2.2.1)
theorem mN_buses (hC : Core I sp ns nstr nc d cs fr to sc kd nr tl nm cn) (hK : Cach I sp pl ns d cs nr)  (hp : allH d cs (alC I sp d) ns = false) : aRuns mX12_buses (rK 6) [.ref 101] (nn pl) (MM (fnd I) sp pl) (ends pl sp (-1000004)) := by
  have e : alM (fnd I) d = alC I sp d := mo_al hC (fun q i h => fnd_o (by omega))
  refine m_buses ns nstr nc d cs fr to (mo_MW hC (fun q i h => fnd_o (by omega))) (mo_Pl hC hK (fun q i h => fnd_o (by omega))) (fun K hF hM hp' => ends_N hC hK _ (frP_F hF) hM.2.2.2.2.1) (fun K hM hp' => ?_)
  exfalso; rw [e, hp] at hp'; exact absurd hp' (by decide)
theorem mO_buses (hC : Core I sp ns nstr nc d cs fr to sc kd nr tl nm cn) (hK : Cach I sp pl ns d cs nr)  (hp : allH d cs (alC I sp d) ns = true) : aRuns mX12_buses (rK 6) [.ref 101] (nn pl) (MM I sp pl) (ends pl sp (nI (RR d cs (alC I sp d) ns).length - nI (mxF (fC I sp ns d cs) (RR d cs (alC I sp d) ns).length (RR d cs (alC I sp d) ns).length 0))) := by
  have e : alM I d = alC I sp d := Core_al hC
  refine m_buses ns nstr nc d cs fr to (Core_MW hC) hK.2.2.2.1 (fun K hF hM hp' => ?_) (fun K hM hp' => ends_O hC hK (by rw [e, Core_may hC]) (mC_F hM) hM.2.2.1.2.2.2.2.1)
  exfalso; rw [e, hp] at hp'; exact absurd hp' (by decide)
theorem mB_cha2 (hC : Core I sp ns nstr nc d cs fr to sc kd nr tl nm cn) (hK : Cach I sp pl ns d cs nr) (v i : Int32) (hb : v < 0 ∨ i < 0) : aRuns mX12_chain (rK 6) [.ref 101, .int v, .int i] (nn pl) (MM (fnd I) sp pl) (ends pl sp (-1000001)) := by
  exact m_chain_b v i hb (ends_F hC hK)
theorem mN_cha2 (hC : Core I sp ns nstr nc d cs fr to sc kd nr tl nm cn) (hK : Cach I sp pl ns d cs nr) (v i : Int32) (h1 : ¬ v < 0) (h2 : ¬ i < 0) (hp : allH d cs (alC I sp d) ns = false ∨ ∃ bb, bb < 2 ^ 31 ∧ v = nI bb ∧ kth (fun r => isF (nxG (fC I sp ns d cs) (RR d cs (alC I sp d) ns).length) r (RR d cs (alC I sp d) ns).length) (RR d cs (alC I sp d) ns).length bb (RR d cs (alC I sp d) ns).length 0 = none) : aRuns mX12_chain (rK 6) [.ref 101, .int v, .int i] (nn pl) (MM (fnd I) sp pl) (ends pl sp (-1000004)) := by
  have e : alM (fnd I) d = alC I sp d := mo_al hC (fun q i h => fnd_o (by omega))
  obtain ⟨dp, hdp, hdn⟩ := Core_dp hC
  refine m_cha2 v i dp ns nstr nc d cs fr to (mo_MW hC (fun q i h => fnd_o (by omega))) (mo_Pl hC hK (fun q i h => fnd_o (by omega))) (by rw [e, Core_mayf hC]; exact hdp) (fun hb => by exfalso; rcases hb with q | q; exact h1 q; exact h2 q) (fun K _ _ hF hM hp' => ends_N hC hK _ (frP_F hF) hM.2.2.2.2.1) (fun K bb h31 hv hM hp' hn => ends_N hC hK _ (mC_F hM) hM.2.2.1.2.2.2.2.1) (fun K bb ii r h31 hii hv hi hM hp' hr => ?_)
  exfalso
  rw [e] at hp'
  rcases hp with q | ⟨b2, hb2, hv2, hn⟩
  · rw [hp'] at q; exact absurd q (by decide)
  · rw [e, Core_mayf hC, (nI_eq h31 hb2).mp (hv.symm.trans hv2), hn] at hr; exact absurd hr (by simp)
theorem mO_cha2 (hC : Core I sp ns nstr nc d cs fr to sc kd nr tl nm cn) (hK : Cach I sp pl ns d cs nr) (v i : Int32) (h1 : ¬ v < 0) (h2 : ¬ i < 0) (hp : allH d cs (alC I sp d) ns = true) (bb ii r : Nat) (hb : bb < 2 ^ 31) (hi : ii < 2 ^ 31) (hv : v = nI bb) (hvi : i = nI ii) (hk : kth (fun r => isF (nxG (fC I sp ns d cs) (RR d cs (alC I sp d) ns).length) r (RR d cs (alC I sp d) ns).length) (RR d cs (alC I sp d) ns).length bb (RR d cs (alC I sp d) ns).length 0 = some r) : aRuns mX12_chain (rK 6) [.ref 101, .int v, .int i] (nn pl) (MM I sp pl) (ends pl sp (rv (itN (nxG (fC I sp ns d cs) (RR d cs (alC I sp d) ns).length) ii (some r)))) := by
  have e : alM I d = alC I sp d := Core_al hC
  obtain ⟨dp, hdp, hdn⟩ := Core_dp hC
  refine m_cha2 v i dp ns nstr nc d cs fr to (Core_MW hC) hK.2.2.2.1 (by rw [e, Core_may hC]; exact hdp) (fun hb => by exfalso; rcases hb with q | q; exact h1 q; exact h2 q) (fun K _ _ hF hM hp' => ?_) (fun K b2 h31 hv2 hM hp' hn => ?_) (fun K b2 i2 r2 h31 hii hv2 hi2 hM hp' hr => ?_)
  · exfalso; rw [e, hp] at hp'; exact absurd hp' (by decide)
  · exfalso; rw [e, Core_may hC, (nI_eq h31 hb).mp (hv2.symm.trans hv), hk] at hn; exact absurd hn (by simp)
  · rw [e, Core_may hC, (nI_eq h31 hb).mp (hv2.symm.trans hv), hk] at hr
    cases hr
    exact ends_O hC hK (by rw [e, Core_may hC, (nI_eq hii hi).mp (hi2.symm.trans hvi)]) (mC_F hM) hM.2.2.1.2.2.2.2.1
theorem mN_aides (hC : Core I sp ns nstr nc d cs fr to sc kd nr tl nm cn) (hK : Cach I sp pl ns d cs nr)  (hp : allH d cs (alC I sp d) ns = false) : aRuns mX12_aides (rK 6) [.ref 101] (nn pl) (MM (fnd I) sp pl) (ends pl sp (-1000004)) := by
  have e : alM (fnd I) d = alC I sp d := mo_al hC (fun q i h => fnd_o (by omega))
  obtain ⟨dp, hdp, hdn⟩ := Core_dp hC
  refine m_aides dp ns nstr nc d cs fr to (mo_MW hC (fun q i h => fnd_o (by omega))) (mo_Pl hC hK (fun q i h => fnd_o (by omega))) (by rw [e, Core_mayf hC]; exact hdp) (by rw [e]; exact hdn) (fun K hF hM hp' => ends_N hC hK _ (frP_F hF) hM.2.2.2.2.1) (fun K hM hp' => ?_)
  exfalso; rw [e, hp] at hp'; exact absurd hp' (by decide)
theorem mO_aides (hC : Core I sp ns nstr nc d cs fr to sc kd nr tl nm cn) (hK : Cach I sp pl ns d cs nr)  (hp : allH d cs (alC I sp d) ns = true) : aRuns mX12_aides (rK 6) [.ref 101] (nn pl) (MM I sp pl) (ends pl sp (nI (cntP (fun r => isF (nxG (fC I sp ns d cs) (RR d cs (alC I sp d) ns).length) r (RR d cs (alC I sp d) ns).length && anyN (fun r => decide (I (28 + 4 * (rt0 (RR d cs (alC I sp d) ns) r).1) 0 = 3)) (nxG (fC I sp ns d cs) (RR d cs (alC I sp d) ns).length) (RR d cs (alC I sp d) ns).length (some r)) (RR d cs (alC I sp d) ns).length))) := by
  have e : alM I d = alC I sp d := Core_al hC
  obtain ⟨dp, hdp, hdn⟩ := Core_dp hC
  have eg : (fun r => decide (I 106 (rt0 (RR d cs (alC I sp d) ns) r).1 = 3)) = (fun r => decide (I (28 + 4 * (rt0 (RR d cs (alC I sp d) ns) r).1) 0 = 3)) := funext fun r => by rw [(hC.2.2.2.2.1 _ (RR_sch (d := d) (cs := cs) (al1024 hC) hC.1.1.2 r)).1]
  refine m_aides dp ns nstr nc d cs fr to (Core_MW hC) hK.2.2.2.1 (by rw [e, Core_may hC]; exact hdp) (by rw [e]; exact hdn) (fun K hF hM hp' => ?_) (fun K hM hp' => ends_O hC hK (by rw [e, Core_may hC, eg]) (mC_F hM) hM.2.2.1.2.2.2.2.1)
  exfalso; rw [e, hp] at hp'; exact absurd hp' (by decide)
end K15
section K15b
variable {I : Nat → Nat → Int32} {sp : Nat → Nat}
theorem k_buses_t  (h : Inv I sp true) : aRuns mX11_buses (rK 7) [.ref 0] (nn true) (MM I sp true) (KM true mX12_buses (rK 6) [.ref 101]) := by
  obtain ⟨ns, nstr, nc, d, cs, fr, to, sc, kd, nr, tl, nm, cn, hC, hK⟩ := h
  have hW := hC.1
  have hns := hW.1.2
  refine c_buses_t  hW (fun s hs => (hC.2.2.2.2.2.1 s hs).2.2.1) hC.2.2.2.2.2.2.2.2.2.2.2.1 hK.2.1 (fun q => (hK.1 q).2) (fun J hD hp => ?_) (fun K hL hp => ?_)
  · obtain ⟨cJ, kJ⟩ := aft_DP hC hK hD
    have ea : alC J sp d = alC I sp d := alC_fr hW (FrDr_C hD.1)
    refine ⟨_, _, _, rfl, rfl, rfl, ?_⟩
    exact mN_buses cJ kJ (by rw [ea]; exact hp)
  · obtain ⟨cK, kK, ea, ef⟩ := aft_LC hC hK hL
    refine ⟨_, _, _, rfl, rfl, rfl, ?_⟩
    have m := mO_buses cK kK (by rw [ea]; exact hp)
    rw [ea, ef] at m
    exact m

theorem k_buses_f  (h : Inv I sp false) : aRuns mX11_buses (rK 7) [.ref 0] (nn false) (MM I sp false) (KM false mX12_buses (rK 6) [.ref 101]) ∨ aRuns mX11_buses (rP 7) [.ref 0] (nn false) (MM I sp false) (KM true mX12_buses (rK 6) [.ref 101]) := by
  obtain ⟨ns, nstr, nc, d, cs, fr, to, sc, kd, nr, tl, nm, cn, hC, hK⟩ := h
  have hW := hC.1
  have hns := hW.1.2
  have h07 : I 0 7 = 0 := Classical.byContradiction fun q => by cases (hK.1 q).1
  refine Or.inr (c_buses_f  hW (fun s hs => (hC.2.2.2.2.2.1 s hs).2.2.1) hC.2.2.2.2.2.2.2.2.2.2.2.1 hK.2.1 h07 (fun J hD hp => ?_) (fun K hL hp => ?_))
  · obtain ⟨cJ, kJ⟩ := aft_DP hC hK hD
    have ea : alC J sp d = alC I sp d := alC_fr hW (FrDr_C hD.1)
    refine ⟨_, _, _, rfl, rfl, rfl, ?_⟩
    exact mN_buses cJ kJ (by rw [ea]; exact hp)
  · obtain ⟨cK, kK, ea, ef⟩ := aft_LC hC hK hL
    refine ⟨_, _, _, rfl, rfl, rfl, ?_⟩
    have m := mO_buses cK kK (by rw [ea]; exact hp)
    rw [ea, ef] at m
    exact m

theorem k_chain_t (v i : Int32) (h : Inv I sp true) : aRuns mX11_chain (rK 7) [.ref 0, .int v, .int i] (nn true) (MM I sp true) (KM true mX12_chain (rK 6) [.ref 101, .int v, .int i]) := by
  obtain ⟨ns, nstr, nc, d, cs, fr, to, sc, kd, nr, tl, nm, cn, hC, hK⟩ := h
  have hW := hC.1
  have hns := hW.1.2
  obtain ⟨dp, hdp, hdn⟩ := Core_dp hC
  by_cases hg : v < 0 ∨ i < 0
  · refine c_chain_bt v i dp hW (fun s hs => (hC.2.2.2.2.2.1 s hs).2.2.1) hC.2.2.2.2.2.2.2.2.2.2.2.1 hK.2.1 hdp hdn hg ?_
    refine ⟨_, _, _, rfl, rfl, rfl, ?_⟩
    exact mB_cha2 hC hK v i hg
  refine c_cha2_t v i dp hW (fun s hs => (hC.2.2.2.2.2.1 s hs).2.2.1) hC.2.2.2.2.2.2.2.2.2.2.2.1 hK.2.1 hdp hdn (fun q => (hK.1 q).2) (fun hb => absurd hb hg) (fun J h1 h5 hD hp => ?_) (fun K bb hb2 hv hL hp hn => ?_) (fun K bb ii r hb2 hii hv hi hL hp hk => ?_)
  · obtain ⟨cJ, kJ⟩ := aft_DP hC hK hD
    have ea : alC J sp d = alC I sp d := alC_fr hW (FrDr_C hD.1)
    refine ⟨_, _, _, rfl, rfl, rfl, ?_⟩
    exact mN_cha2 cJ kJ v i h1 (Int32.not_lt.mpr h5) (Or.inl (by rw [ea]; exact hp))
  · obtain ⟨cK, kK, ea, ef⟩ := aft_LC hC hK hL
    refine ⟨_, _, _, rfl, rfl, rfl, ?_⟩
    exact mN_cha2 cK kK v i (fun q => hg (Or.inl q)) (fun q => hg (Or.inr q)) (Or.inr ⟨bb, hb2, hv, by rw [ef, ea]; exact hn⟩)
  · obtain ⟨cK, kK, ea, ef⟩ := aft_LC hC hK hL
    refine ⟨_, _, _, rfl, rfl, rfl, ?_⟩
    have m := mO_cha2 cK kK v i (fun q => hg (Or.inl q)) (fun q => hg (Or.inr q)) (by rw [ea]; exact hp) bb ii r hb2 hii hv hi (by rw [ef, ea]; exact hk)
    rw [ef, ea] at m
    exact m

theorem k_chain_f (v i : Int32) (h : Inv I sp false) : aRuns mX11_chain (rK 7) [.ref 0, .int v, .int i] (nn false) (MM I sp false) (KM false mX12_chain (rK 6) [.ref 101, .int v, .int i]) ∨ aRuns mX11_chain (rP 7) [.ref 0, .int v, .int i] (nn false) (MM I sp false) (KM true mX12_chain (rK 6) [.ref 101, .int v, .int i]) := by
  obtain ⟨ns, nstr, nc, d, cs, fr, to, sc, kd, nr, tl, nm, cn, hC, hK⟩ := h
  have hW := hC.1
  have hns := hW.1.2
  obtain ⟨dp, hdp, hdn⟩ := Core_dp hC
  have h07 : I 0 7 = 0 := Classical.byContradiction fun q => by cases (hK.1 q).1
  by_cases hg : v < 0 ∨ i < 0
  · refine Or.inl (c_chain_b v i dp hW (fun s hs => (hC.2.2.2.2.2.1 s hs).2.2.1) hC.2.2.2.2.2.2.2.2.2.2.2.1 hK.2.1 hdp hdn hg ?_)
    refine ⟨_, _, _, rfl, rfl, rfl, ?_⟩
    exact mB_cha2 hC hK v i hg
  refine Or.inr (c_cha2_f v i dp hW (fun s hs => (hC.2.2.2.2.2.1 s hs).2.2.1) hC.2.2.2.2.2.2.2.2.2.2.2.1 hK.2.1 hdp hdn h07 hg (fun J h1 h5 hD hp => ?_) (fun K bb hb2 hv hL hp hn => ?_) (fun K bb ii r hb2 hii hv hi hL hp hk => ?_))
  · obtain ⟨cJ, kJ⟩ := aft_DP hC hK hD
    have ea : alC J sp d = alC I sp d := alC_fr hW (FrDr_C hD.1)
    refine ⟨_, _, _, rfl, rfl, rfl, ?_⟩
    exact mN_cha2 cJ kJ v i h1 (Int32.not_lt.mpr h5) (Or.inl (by rw [ea]; exact hp))
  · obtain ⟨cK, kK, ea, ef⟩ := aft_LC hC hK hL
    refine ⟨_, _, _, rfl, rfl, rfl, ?_⟩
    exact mN_cha2 cK kK v i (fun q => hg (Or.inl q)) (fun q => hg (Or.inr q)) (Or.inr ⟨bb, hb2, hv, by rw [ef, ea]; exact hn⟩)
  · obtain ⟨cK, kK, ea, ef⟩ := aft_LC hC hK hL
    refine ⟨_, _, _, rfl, rfl, rfl, ?_⟩
    have m := mO_cha2 cK kK v i (fun q => hg (Or.inl q)) (fun q => hg (Or.inr q)) (by rw [ea]; exact hp) bb ii r hb2 hii hv hi (by rw [ef, ea]; exact hk)
    rw [ef, ea] at m
    exact m

theorem k_aides_t  (h : Inv I sp true) : aRuns mX11_aides (rK 7) [.ref 0] (nn true) (MM I sp true) (KM true mX12_aides (rK 6) [.ref 101]) := by
  obtain ⟨ns, nstr, nc, d, cs, fr, to, sc, kd, nr, tl, nm, cn, hC, hK⟩ := h
  have hW := hC.1
  have hns := hW.1.2
  refine c_aides_t  hW (fun s hs => (hC.2.2.2.2.2.1 s hs).2.2.1) hC.2.2.2.2.2.2.2.2.2.2.2.1 hK.2.1 (fun q => (hK.1 q).2) (fun J hD hp => ?_) (fun K hL hp => ?_)
  · obtain ⟨cJ, kJ⟩ := aft_DP hC hK hD
    have ea : alC J sp d = alC I sp d := alC_fr hW (FrDr_C hD.1)
    refine ⟨_, _, _, rfl, rfl, rfl, ?_⟩
    exact mN_aides cJ kJ (by rw [ea]; exact hp)
  · obtain ⟨cK, kK, ea, ef⟩ := aft_LC hC hK hL
    have e28 : ∀ s, s < 4 → K (28 + 4 * s) 0 = I (28 + 4 * s) 0 := fun s hs => by
      obtain ⟨⟨J, hD, hL2⟩, -⟩ := hL
      exact (hL2 _ _ (by omega) (by omega) (by omega) (by omega)).trans (hD.1 _ _ (by omega) (by omega) (by omega) (by omega) (by omega) (by omega) (by omega) (by omega) (by omega))
    have eg : (fun r => decide (K (28 + 4 * (rt0 (RR d cs (alC I sp d) ns) r).1) 0 = 3)) = (fun r => decide (I (28 + 4 * (rt0 (RR d cs (alC I sp d) ns) r).1) 0 = 3)) := funext fun r => by rw [e28 _ (RR_sch (d := d) (cs := cs) (al1024 hC) hns r)]
    refine ⟨_, _, _, rfl, rfl, rfl, ?_⟩
    have m := mO_aides cK kK (by rw [ea]; exact hp)
    rw [ef, ea, eg] at m
    exact m

theorem k_aides_f  (h : Inv I sp false) : aRuns mX11_aides (rK 7) [.ref 0] (nn false) (MM I sp false) (KM false mX12_aides (rK 6) [.ref 101]) ∨ aRuns mX11_aides (rP 7) [.ref 0] (nn false) (MM I sp false) (KM true mX12_aides (rK 6) [.ref 101]) := by
  obtain ⟨ns, nstr, nc, d, cs, fr, to, sc, kd, nr, tl, nm, cn, hC, hK⟩ := h
  have hW := hC.1
  have hns := hW.1.2
  have h07 : I 0 7 = 0 := Classical.byContradiction fun q => by cases (hK.1 q).1
  refine Or.inr (c_aides_f  hW (fun s hs => (hC.2.2.2.2.2.1 s hs).2.2.1) hC.2.2.2.2.2.2.2.2.2.2.2.1 hK.2.1 h07 (fun J hD hp => ?_) (fun K hL hp => ?_))
  · obtain ⟨cJ, kJ⟩ := aft_DP hC hK hD
    have ea : alC J sp d = alC I sp d := alC_fr hW (FrDr_C hD.1)
    refine ⟨_, _, _, rfl, rfl, rfl, ?_⟩
    exact mN_aides cJ kJ (by rw [ea]; exact hp)
  · obtain ⟨cK, kK, ea, ef⟩ := aft_LC hC hK hL
    have e28 : ∀ s, s < 4 → K (28 + 4 * s) 0 = I (28 + 4 * s) 0 := fun s hs => by
      obtain ⟨⟨J, hD, hL2⟩, -⟩ := hL
      exact (hL2 _ _ (by omega) (by omega) (by omega) (by omega)).trans (hD.1 _ _ (by omega) (by omega) (by omega) (by omega) (by omega) (by omega) (by omega) (by omega) (by omega))
    have eg : (fun r => decide (K (28 + 4 * (rt0 (RR d cs (alC I sp d) ns) r).1) 0 = 3)) = (fun r => decide (I (28 + 4 * (rt0 (RR d cs (alC I sp d) ns) r).1) 0 = 3)) := funext fun r => by rw [e28 _ (RR_sch (d := d) (cs := cs) (al1024 hC) hns r)]
    refine ⟨_, _, _, rfl, rfl, rfl, ?_⟩
    have m := mO_aides cK kK (by rw [ea]; exact hp)
    rw [ef, ea, eg] at m
    exact m

end K15b
