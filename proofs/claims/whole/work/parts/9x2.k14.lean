section K14
variable {I : Nat → Nat → Int32} {sp : Nat → Nat}
theorem k_routes_t (v : Int32) (h : Inv I sp true) : aRuns mX11_routes (rK 6) [.ref 0, .int v] (nn true) (MM I sp true) (KM true mX12_routes (rK 5) [.ref 101, .int v]) := by
  obtain ⟨ns, nstr, nc, d, cs, fr, to, sc, kd, nr, tl, nm, cn, hC, hK⟩ := h
  have hW := hC.1
  have hns := hW.1.2
  refine c_routes_t v hW (fun q => (hK.1 q).2) (fun hb => ?_) (fun s J hs hv hD hp => ?_) (fun s J hs hv hD hp => ?_)
  · refine ⟨_, _, _, rfl, rfl, rfl, ?_⟩
    exact mB_routes hC hK v hb
  · obtain ⟨cJ, kJ⟩ := aft_DP hC hK hD
    have ea : alC J sp d = alC I sp d := alC_fr hW (FrDr_C hD.1)
    refine ⟨_, _, _, rfl, rfl, rfl, ?_⟩
    exact mN_routes cJ kJ v s hs hv (by rw [ea]; exact hp)
  · obtain ⟨cJ, kJ⟩ := aft_DP hC hK hD
    have ea : alC J sp d = alC I sp d := alC_fr hW (FrDr_C hD.1)
    refine ⟨_, _, _, rfl, rfl, rfl, ?_⟩
    have m := mO_routes cJ kJ v s hs hv (by rw [ea]; exact hp)
    rw [ea] at m
    exact m

theorem k_routes_f (v : Int32) (h : Inv I sp false) : aRuns mX11_routes (rK 6) [.ref 0, .int v] (nn false) (MM I sp false) (KM false mX12_routes (rK 5) [.ref 101, .int v]) ∨ aRuns mX11_routes (rP 6) [.ref 0, .int v] (nn false) (MM I sp false) (KM true mX12_routes (rK 5) [.ref 101, .int v]) := by
  obtain ⟨ns, nstr, nc, d, cs, fr, to, sc, kd, nr, tl, nm, cn, hC, hK⟩ := h
  have hW := hC.1
  have hns := hW.1.2
  have h07 : I 0 7 = 0 := Classical.byContradiction fun q => by cases (hK.1 q).1
  by_cases hb : wi v 0 (I 1 4 - 1) = 0
  · refine Or.inl (c_routes_b v hW hb ?_)
    refine ⟨_, _, _, rfl, rfl, rfl, ?_⟩
    exact mB_routes hC hK v hb
  refine Or.inr (c_routes_f v hW h07 hb  (fun s J hs hv hD hp => ?_) (fun s J hs hv hD hp => ?_))
  · obtain ⟨cJ, kJ⟩ := aft_DP hC hK hD
    have ea : alC J sp d = alC I sp d := alC_fr hW (FrDr_C hD.1)
    refine ⟨_, _, _, rfl, rfl, rfl, ?_⟩
    exact mN_routes cJ kJ v s hs hv (by rw [ea]; exact hp)
  · obtain ⟨cJ, kJ⟩ := aft_DP hC hK hD
    have ea : alC J sp d = alC I sp d := alC_fr hW (FrDr_C hD.1)
    refine ⟨_, _, _, rfl, rfl, rfl, ?_⟩
    have m := mO_routes cJ kJ v s hs hv (by rw [ea]; exact hp)
    rw [ea] at m
    exact m

theorem k_route_t (v i k : Int32) (h : Inv I sp true) : aRuns mX11_route (rK 6) [.ref 0, .int v, .int i, .int k] (nn true) (MM I sp true) (KM true mX12_route (rK 5) [.ref 101, .int v, .int i, .int k]) := by
  obtain ⟨ns, nstr, nc, d, cs, fr, to, sc, kd, nr, tl, nm, cn, hC, hK⟩ := h
  have hW := hC.1
  have hns := hW.1.2
  refine c_rou2_t v i k hW (fun q => (hK.1 q).2) (fun hb => ?_) (fun s J hs hv hi hk hD hp => ?_) (fun s J ii S hs hv hi hD hp hk => ?_) (fun s J ii S kk hs hv hi h31 hk hD hp => ?_)
  · refine ⟨_, _, _, rfl, rfl, rfl, ?_⟩
    exact mB_rou2 hC hK v i k hb
  · obtain ⟨cJ, kJ⟩ := aft_DP hC hK hD
    have ea : alC J sp d = alC I sp d := alC_fr hW (FrDr_C hD.1)
    refine ⟨_, _, _, rfl, rfl, rfl, ?_⟩
    exact mN_rou2 cJ kJ v i k s hs hv hi hk (by rw [ea]; exact hp)
  · obtain ⟨cJ, kJ⟩ := aft_DP hC hK hD
    have ea : alC J sp d = alC I sp d := alC_fr hW (FrDr_C hD.1)
    refine ⟨_, _, _, rfl, rfl, rfl, ?_⟩
    exact mO_rou2 cJ kJ v i k s hs hv ii S hi (by rw [ea]; exact hp) _ (by rw [hk]; decide) ⟨fun _ => rfl, fun kk h31 hk2 => by rw [hk] at hk2; exact absurd (show (-1 : Int32) < 0 by decide) (by rw [hk2]; exact nI_pos h31)⟩
  · obtain ⟨cJ, kJ⟩ := aft_DP hC hK hD
    have ea : alC J sp d = alC I sp d := alC_fr hW (FrDr_C hD.1)
    refine ⟨_, _, _, rfl, rfl, rfl, ?_⟩
    exact mO_rou2 cJ kJ v i k s hs hv ii S hi (by rw [ea]; exact hp) _ (fun q => by rw [hk] at q; exact nI_pos h31 (Int32.lt_trans q (by decide))) ⟨fun hk2 => by rw [hk2] at hk; exact absurd (show (-1 : Int32) < 0 by decide) (by rw [hk]; exact nI_pos h31), fun kk2 h32 hk2 => by rw [(nI_eq h32 h31).mp (hk2.symm.trans hk)]⟩

theorem k_route_f (v i k : Int32) (h : Inv I sp false) : aRuns mX11_route (rK 6) [.ref 0, .int v, .int i, .int k] (nn false) (MM I sp false) (KM false mX12_route (rK 5) [.ref 101, .int v, .int i, .int k]) ∨ aRuns mX11_route (rP 6) [.ref 0, .int v, .int i, .int k] (nn false) (MM I sp false) (KM true mX12_route (rK 5) [.ref 101, .int v, .int i, .int k]) := by
  obtain ⟨ns, nstr, nc, d, cs, fr, to, sc, kd, nr, tl, nm, cn, hC, hK⟩ := h
  have hW := hC.1
  have hns := hW.1.2
  have h07 : I 0 7 = 0 := Classical.byContradiction fun q => by cases (hK.1 q).1
  by_cases hb : wi v 0 (I 1 4 - 1) = 0 ∨ i < 0 ∨ k < -1
  · refine Or.inl (c_rou2_b v i k hW hb ?_)
    refine ⟨_, _, _, rfl, rfl, rfl, ?_⟩
    exact mB_rou2 hC hK v i k hb
  refine Or.inr (c_rou2_f v i k hW h07 hb  (fun s J hs hv hi hk hD hp => ?_) (fun s J ii S hs hv hi hD hp hk => ?_) (fun s J ii S kk hs hv hi h31 hk hD hp => ?_))
  · obtain ⟨cJ, kJ⟩ := aft_DP hC hK hD
    have ea : alC J sp d = alC I sp d := alC_fr hW (FrDr_C hD.1)
    refine ⟨_, _, _, rfl, rfl, rfl, ?_⟩
    exact mN_rou2 cJ kJ v i k s hs hv hi hk (by rw [ea]; exact hp)
  · obtain ⟨cJ, kJ⟩ := aft_DP hC hK hD
    have ea : alC J sp d = alC I sp d := alC_fr hW (FrDr_C hD.1)
    refine ⟨_, _, _, rfl, rfl, rfl, ?_⟩
    exact mO_rou2 cJ kJ v i k s hs hv ii S hi (by rw [ea]; exact hp) _ (by rw [hk]; decide) ⟨fun _ => rfl, fun kk h31 hk2 => by rw [hk] at hk2; exact absurd (show (-1 : Int32) < 0 by decide) (by rw [hk2]; exact nI_pos h31)⟩
  · obtain ⟨cJ, kJ⟩ := aft_DP hC hK hD
    have ea : alC J sp d = alC I sp d := alC_fr hW (FrDr_C hD.1)
    refine ⟨_, _, _, rfl, rfl, rfl, ?_⟩
    exact mO_rou2 cJ kJ v i k s hs hv ii S hi (by rw [ea]; exact hp) _ (fun q => by rw [hk] at q; exact nI_pos h31 (Int32.lt_trans q (by decide))) ⟨fun hk2 => by rw [hk2] at hk; exact absurd (show (-1 : Int32) < 0 by decide) (by rw [hk]; exact nI_pos h31), fun kk2 h32 hk2 => by rw [(nI_eq h32 h31).mp (hk2.symm.trans hk)]⟩

theorem k_ride_t (v : Int32) (h : Inv I sp true) : aRuns mX11_ride (rK 6) [.ref 0, .int v] (nn true) (MM I sp true) (KM true mX12_ride (rK 5) [.ref 101, .int v]) := by
  obtain ⟨ns, nstr, nc, d, cs, fr, to, sc, kd, nr, tl, nm, cn, hC, hK⟩ := h
  have hW := hC.1
  have hns := hW.1.2
  refine c_ride_t v sc hW (fun k hk => ⟨(hC.2.2.2.2.2.2.1 k hk).1, (hC.2.2.2.2.2.2.1 k hk).2.1⟩) (fun q => (hK.1 q).2) (fun hb => ?_) (fun t J ht hv hD hp => ?_) (fun t J K ht hv hD hp hq hWK => ?_)
  · refine ⟨_, _, _, rfl, rfl, rfl, ?_⟩
    exact mB_ride hC hK v hb
  · obtain ⟨cJ, kJ⟩ := aft_DP hC hK hD
    have ea : alC J sp d = alC I sp d := alC_fr hW (FrDr_C hD.1)
    refine ⟨_, _, _, rfl, rfl, rfl, ?_⟩
    exact mN_ride cJ kJ v t ht hv (by rw [ea]; exact hp)
  · obtain ⟨cJ, kJ⟩ := aft_DP hC hK hD
    have ea : alC J sp d = alC I sp d := alC_fr hW (FrDr_C hD.1)
    obtain ⟨c2, k2⟩ := Inv_fr4 cJ kJ (fun q i h => hq q i (by omega) (by omega)) (fun hm a b ha hb => hWK.2.2.2.2.2.2.2.2.2.2.2 hm a b ha hb)
    have eb : alC K sp d = alC I sp d := (alC_sp hW.2.2.2.2.2.2.1.2 hW.2.2.2.2.2.2.2.1 (fun q i h => hq q i (by omega) (by omega))).trans ea
    refine ⟨_, _, _, rfl, rfl, rfl, ?_⟩
    have m := mO_ride c2 k2 v t ht hv (by rw [eb]; exact hp)
    rw [eb] at m
    exact m

theorem k_ride_f (v : Int32) (h : Inv I sp false) : aRuns mX11_ride (rK 6) [.ref 0, .int v] (nn false) (MM I sp false) (KM false mX12_ride (rK 5) [.ref 101, .int v]) ∨ aRuns mX11_ride (rP 6) [.ref 0, .int v] (nn false) (MM I sp false) (KM true mX12_ride (rK 5) [.ref 101, .int v]) := by
  obtain ⟨ns, nstr, nc, d, cs, fr, to, sc, kd, nr, tl, nm, cn, hC, hK⟩ := h
  have hW := hC.1
  have hns := hW.1.2
  have h07 : I 0 7 = 0 := Classical.byContradiction fun q => by cases (hK.1 q).1
  by_cases hb : wi v 0 (I 1 5 - 1) = 0
  · refine Or.inl (c_ride_b v sc hW (fun k hk => ⟨(hC.2.2.2.2.2.2.1 k hk).1, (hC.2.2.2.2.2.2.1 k hk).2.1⟩) hb ?_)
    refine ⟨_, _, _, rfl, rfl, rfl, ?_⟩
    exact mB_ride hC hK v hb
  refine Or.inr (c_ride_f v sc hW (fun k hk => ⟨(hC.2.2.2.2.2.2.1 k hk).1, (hC.2.2.2.2.2.2.1 k hk).2.1⟩) h07 hb  (fun t J ht hv hD hp => ?_) (fun t J K ht hv hD hp hq hWK => ?_))
  · obtain ⟨cJ, kJ⟩ := aft_DP hC hK hD
    have ea : alC J sp d = alC I sp d := alC_fr hW (FrDr_C hD.1)
    refine ⟨_, _, _, rfl, rfl, rfl, ?_⟩
    exact mN_ride cJ kJ v t ht hv (by rw [ea]; exact hp)
  · obtain ⟨cJ, kJ⟩ := aft_DP hC hK hD
    have ea : alC J sp d = alC I sp d := alC_fr hW (FrDr_C hD.1)
    obtain ⟨c2, k2⟩ := Inv_fr4 cJ kJ (fun q i h => hq q i (by omega) (by omega)) (fun hm a b ha hb => hWK.2.2.2.2.2.2.2.2.2.2.2 hm a b ha hb)
    have eb : alC K sp d = alC I sp d := (alC_sp hW.2.2.2.2.2.2.1.2 hW.2.2.2.2.2.2.2.1 (fun q i h => hq q i (by omega) (by omega))).trans ea
    refine ⟨_, _, _, rfl, rfl, rfl, ?_⟩
    have m := mO_ride c2 k2 v t ht hv (by rw [eb]; exact hp)
    rw [eb] at m
    exact m

theorem k_all_t  (h : Inv I sp true) : aRuns mX11_all (rK 6) [.ref 0] (nn true) (MM I sp true) (KM true mX12_all (rK 5) [.ref 101]) := by
  obtain ⟨ns, nstr, nc, d, cs, fr, to, sc, kd, nr, tl, nm, cn, hC, hK⟩ := h
  have hW := hC.1
  have hns := hW.1.2
  refine c_all_t  hW (fun q => (hK.1 q).2) (fun J hD hp => ?_) (fun J hD hp => ?_)
  · obtain ⟨cJ, kJ⟩ := aft_DP hC hK hD
    have ea : alC J sp d = alC I sp d := alC_fr hW (FrDr_C hD.1)
    refine ⟨_, _, _, rfl, rfl, rfl, ?_⟩
    exact mN_all cJ kJ (by rw [ea]; exact hp)
  · obtain ⟨cJ, kJ⟩ := aft_DP hC hK hD
    have ea : alC J sp d = alC I sp d := alC_fr hW (FrDr_C hD.1)
    refine ⟨_, _, _, rfl, rfl, rfl, ?_⟩
    have m := mO_all cJ kJ (by rw [ea]; exact hp)
    rw [ea] at m
    exact m

theorem k_all_f  (h : Inv I sp false) : aRuns mX11_all (rK 6) [.ref 0] (nn false) (MM I sp false) (KM false mX12_all (rK 5) [.ref 101]) ∨ aRuns mX11_all (rP 6) [.ref 0] (nn false) (MM I sp false) (KM true mX12_all (rK 5) [.ref 101]) := by
  obtain ⟨ns, nstr, nc, d, cs, fr, to, sc, kd, nr, tl, nm, cn, hC, hK⟩ := h
  have hW := hC.1
  have hns := hW.1.2
  have h07 : I 0 7 = 0 := Classical.byContradiction fun q => by cases (hK.1 q).1
  refine Or.inr (c_all_f  hW h07 (fun J hD hp => ?_) (fun J hD hp => ?_))
  · obtain ⟨cJ, kJ⟩ := aft_DP hC hK hD
    have ea : alC J sp d = alC I sp d := alC_fr hW (FrDr_C hD.1)
    refine ⟨_, _, _, rfl, rfl, rfl, ?_⟩
    exact mN_all cJ kJ (by rw [ea]; exact hp)
  · obtain ⟨cJ, kJ⟩ := aft_DP hC hK hD
    have ea : alC J sp d = alC I sp d := alC_fr hW (FrDr_C hD.1)
    refine ⟨_, _, _, rfl, rfl, rfl, ?_⟩
    have m := mO_all cJ kJ (by rw [ea]; exact hp)
    rw [ea] at m
    exact m

theorem k_start_t (v : Int32) (h : Inv I sp true) : aRuns mX11_start (rK 6) [.ref 0, .int v] (nn true) (MM I sp true) (KM true mX12_start (rK 5) [.ref 101, .int v]) := by
  obtain ⟨ns, nstr, nc, d, cs, fr, to, sc, kd, nr, tl, nm, cn, hC, hK⟩ := h
  have hW := hC.1
  have hns := hW.1.2
  refine c_start_t v hW (fun q => (hK.1 q).2) (fun hb => ?_) (fun J h0 hD hp => ?_) (fun r s S J hv hr hD hp => ?_)
  · refine ⟨_, _, _, rfl, rfl, rfl, ?_⟩
    exact mB_start hC hK v hb
  · obtain ⟨cJ, kJ⟩ := aft_DP hC hK hD
    have ea : alC J sp d = alC I sp d := alC_fr hW (FrDr_C hD.1)
    refine ⟨_, _, _, rfl, rfl, rfl, ?_⟩
    exact mN_start cJ kJ v h0 (by rw [ea]; exact hp)
  · obtain ⟨cJ, kJ⟩ := aft_DP hC hK hD
    have ea : alC J sp d = alC I sp d := alC_fr hW (FrDr_C hD.1)
    refine ⟨_, _, _, rfl, rfl, rfl, ?_⟩
    exact mO_start cJ kJ v r s S hv (by rw [ea]; exact hr) (by rw [ea]; exact hp)

theorem k_start_f (v : Int32) (h : Inv I sp false) : aRuns mX11_start (rK 6) [.ref 0, .int v] (nn false) (MM I sp false) (KM false mX12_start (rK 5) [.ref 101, .int v]) ∨ aRuns mX11_start (rP 6) [.ref 0, .int v] (nn false) (MM I sp false) (KM true mX12_start (rK 5) [.ref 101, .int v]) := by
  obtain ⟨ns, nstr, nc, d, cs, fr, to, sc, kd, nr, tl, nm, cn, hC, hK⟩ := h
  have hW := hC.1
  have hns := hW.1.2
  have h07 : I 0 7 = 0 := Classical.byContradiction fun q => by cases (hK.1 q).1
  by_cases hb : v < 0
  · refine Or.inl (c_start_b v hW hb ?_)
    refine ⟨_, _, _, rfl, rfl, rfl, ?_⟩
    exact mB_start hC hK v hb
  refine Or.inr (c_start_f v hW h07 hb  (fun J h0 hD hp => ?_) (fun r s S J hv hr hD hp => ?_))
  · obtain ⟨cJ, kJ⟩ := aft_DP hC hK hD
    have ea : alC J sp d = alC I sp d := alC_fr hW (FrDr_C hD.1)
    refine ⟨_, _, _, rfl, rfl, rfl, ?_⟩
    exact mN_start cJ kJ v h0 (by rw [ea]; exact hp)
  · obtain ⟨cJ, kJ⟩ := aft_DP hC hK hD
    have ea : alC J sp d = alC I sp d := alC_fr hW (FrDr_C hD.1)
    refine ⟨_, _, _, rfl, rfl, rfl, ?_⟩
    exact mO_start cJ kJ v r s S hv (by rw [ea]; exact hr) (by rw [ea]; exact hp)

theorem k_follows_t (a b : Int32) (h : Inv I sp true) : aRuns mX11_follows (rK 6) [.ref 0, .int a, .int b] (nn true) (MM I sp true) (KM true mX12_follows (rK 5) [.ref 101, .int a, .int b]) := by
  obtain ⟨ns, nstr, nc, d, cs, fr, to, sc, kd, nr, tl, nm, cn, hC, hK⟩ := h
  have hW := hC.1
  have hns := hW.1.2
  refine c_follows_t a b hW (fun q => (hK.1 q).2) (fun hb => ?_) (fun J h1 h2 h3 hD hp => ?_) (fun r u s S s2 S2 v J ha hb hn hr hu hD hp hv => ?_)
  · refine ⟨_, _, _, rfl, rfl, rfl, ?_⟩
    exact mB_follows hC hK a b hb
  · obtain ⟨cJ, kJ⟩ := aft_DP hC hK hD
    have ea : alC J sp d = alC I sp d := alC_fr hW (FrDr_C hD.1)
    refine ⟨_, _, _, rfl, rfl, rfl, ?_⟩
    exact mN_follows cJ kJ a b h1 h2 h3 (by rw [ea]; exact hp)
  · obtain ⟨cJ, kJ⟩ := aft_DP hC hK hD
    have ea : alC J sp d = alC I sp d := alC_fr hW (FrDr_C hD.1)
    refine ⟨_, _, _, rfl, rfl, rfl, ?_⟩
    have m := mO_follows cJ kJ a b r u s S s2 S2 ha hb hn (by rw [ea]; exact hr) (by rw [ea]; exact hu) (by rw [ea]; exact hp)
    have e18 : J 1 8 = I 1 8 := hD.1 1 8 (by omega) (by omega) (by omega) (by omega) (by omega) (by omega) (by omega) (by omega) (by omega)
    have g := may_gap (tr := fun s => J 26 s) (sl := J 1 8) (CW_al cJ.1) (CW_d01 hW) (fun s hs => (hW.2.2.2.2.2.2.2.2.2.2.1 s hs).2.2.2) cJ.2.2.2.2.2.2.2.2.2.2.2.1 (fun s hs => (cJ.2.2.2.2.2.1 s hs).2.2.1) (by rw [ea]; exact hr) (by rw [ea]; exact hu)
    rw [ea, e18] at g
    have g2 : mayF d cs (fun s => J 26 s) (I 1 8) (RR d cs (alC I sp d) ns) r u = cf1 d cs (fun s => J 26 s) (I 1 8) s (s2, S2) := by
      unfold mayF
      rw [rt0_of hr, rt0_of hu, decide_eq_true (by intro q; exact hn (by rw [ha, hb, q]) : u ≠ r), Bool.true_and]
    rw [e18, ← g2, ← g, ← hv] at m
    exact m

theorem k_follows_f (a b : Int32) (h : Inv I sp false) : aRuns mX11_follows (rK 6) [.ref 0, .int a, .int b] (nn false) (MM I sp false) (KM false mX12_follows (rK 5) [.ref 101, .int a, .int b]) ∨ aRuns mX11_follows (rP 6) [.ref 0, .int a, .int b] (nn false) (MM I sp false) (KM true mX12_follows (rK 5) [.ref 101, .int a, .int b]) := by
  obtain ⟨ns, nstr, nc, d, cs, fr, to, sc, kd, nr, tl, nm, cn, hC, hK⟩ := h
  have hW := hC.1
  have hns := hW.1.2
  have h07 : I 0 7 = 0 := Classical.byContradiction fun q => by cases (hK.1 q).1
  by_cases hb : a < 0 ∨ b < 0 ∨ a = b
  · refine Or.inl (c_follows_b a b hW hb ?_)
    refine ⟨_, _, _, rfl, rfl, rfl, ?_⟩
    exact mB_follows hC hK a b hb
  refine Or.inr (c_follows_f a b hW h07 hb  (fun J h1 h2 h3 hD hp => ?_) (fun r u s S s2 S2 v J ha hb hn hr hu hD hp hv => ?_))
  · obtain ⟨cJ, kJ⟩ := aft_DP hC hK hD
    have ea : alC J sp d = alC I sp d := alC_fr hW (FrDr_C hD.1)
    refine ⟨_, _, _, rfl, rfl, rfl, ?_⟩
    exact mN_follows cJ kJ a b h1 h2 h3 (by rw [ea]; exact hp)
  · obtain ⟨cJ, kJ⟩ := aft_DP hC hK hD
    have ea : alC J sp d = alC I sp d := alC_fr hW (FrDr_C hD.1)
    refine ⟨_, _, _, rfl, rfl, rfl, ?_⟩
    have m := mO_follows cJ kJ a b r u s S s2 S2 ha hb hn (by rw [ea]; exact hr) (by rw [ea]; exact hu) (by rw [ea]; exact hp)
    have e18 : J 1 8 = I 1 8 := hD.1 1 8 (by omega) (by omega) (by omega) (by omega) (by omega) (by omega) (by omega) (by omega) (by omega)
    have g := may_gap (tr := fun s => J 26 s) (sl := J 1 8) (CW_al cJ.1) (CW_d01 hW) (fun s hs => (hW.2.2.2.2.2.2.2.2.2.2.1 s hs).2.2.2) cJ.2.2.2.2.2.2.2.2.2.2.2.1 (fun s hs => (cJ.2.2.2.2.2.1 s hs).2.2.1) (by rw [ea]; exact hr) (by rw [ea]; exact hu)
    rw [ea, e18] at g
    have g2 : mayF d cs (fun s => J 26 s) (I 1 8) (RR d cs (alC I sp d) ns) r u = cf1 d cs (fun s => J 26 s) (I 1 8) s (s2, S2) := by
      unfold mayF
      rw [rt0_of hr, rt0_of hu, decide_eq_true (by intro q; exact hn (by rw [ha, hb, q]) : u ≠ r), Bool.true_and]
    rw [e18, ← g2, ← g, ← hv] at m
    exact m

end K14
