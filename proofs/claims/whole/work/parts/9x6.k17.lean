section K17
variable {I : Nat → Nat → Int32} {sp : Nat → Nat} {pl : Bool} {J K X : Nat → Nat → Int32} {ns nstr nc : Nat} {d : pD} {cs : Nat → pC} {fr to sc kd : Nat → Nat} {nr tl nm : Nat} {cn : Nat → Nat}
theorem mpM_eq {al : Nat → Nat} (hal : ∀ s, al s < 1024) (hns : ns ≤ 4) {D : tT} {tr tr' pu pu' : Nat → Int32} {route late : Int32} (h : ∀ s, s < 4 → tr s = tr' s) (hp : ∀ k, k < d.1 → pu k = pu' k) : mpM d cs (RR d cs al ns) D tr pu route late = mpM d cs (RR d cs al ns) D tr' pu' route late := by
  have e : ∀ r, tr (rt0 (RR d cs al ns) r).1 = tr' (rt0 (RR d cs al ns) r).1 := fun r => h _ (RR_sch (d := d) (cs := cs) hal hns r)
  unfold mpM st1
  have e1 : (fun r => 60 + 20 * tr (rt0 (RR d cs al ns) r).1 - lS d (cs (rt0 (RR d cs al ns) r).1) (rt0 (RR d cs al ns) r).2) = (fun r => 60 + 20 * tr' (rt0 (RR d cs al ns) r).1 - lS d (cs (rt0 (RR d cs al ns) r).1) (rt0 (RR d cs al ns) r).2) := funext fun r => by rw [e r]
  have e2 : (fun r => 60 + 20 * tr (rt0 (RR d cs al ns) r).1) = (fun r => 60 + 20 * tr' (rt0 (RR d cs al ns) r).1) := funext fun r => by rw [e r]
  have e3 : (fun r => sumB (rt0 (RR d cs al ns) r).2 pu d.1) = (fun r => sumB (rt0 (RR d cs al ns) r).2 pu' d.1) := funext fun r => sumB_bits d.1 (fun k hk _ => hp k hk)
  rw [e1, e2, e3]
theorem fr17 (hC : Core J sp ns nstr nc d cs fr to sc kd nr tl nm cn) (hK : Cach J sp pl ns d cs nr) (u : ∀ q i, ¬ (17 ≤ q ∧ q < 25) → K q i = J q i) : Core K sp ns nstr nc d cs fr to sc kd nr tl nm cn ∧ Cach K sp pl ns d cs nr := by
  have h8 := hC.1.2.1.2
  refine ⟨Core_fr hC (fun q i h => u q i (by unfold coreC at h; omega)) (by rw [u 101 6 (by omega), u 0 10 (by omega)]; exact hC.2.1.2.2.2.2.2.2.1) (fun hm a b ha hb => ?_), Cach_fr hC.1 hK (fun q i h => u q i (by unfold cachC at h; omega))⟩
  rw [u 2 8 (by omega)] at hm
  rw [u _ _ (by omega)]
  exact hC.1.2.2.2.2.2.2.2.2.2.2.2 hm a b ha hb
theorem mB_morning (hC : Core I sp ns nstr nc d cs fr to sc kd nr tl nm cn) (hK : Cach I sp pl ns d cs nr) (route late snow : Int32) (hb : route < 0 ∨ wi late 0 60 = 0 ∨ wi snow 0 10 = 0) : aRuns mX12_morning (rK 6) [.ref 101, .int route, .int late, .int snow] (nn pl) (MM (fnd I) sp pl) (ends pl sp (-1000001)) := by
  exact m_morning_b route late snow hb (ends_F hC hK)
theorem mN_morning (hC : Core I sp ns nstr nc d cs fr to sc kd nr tl nm cn) (hK : Cach I sp pl ns d cs nr) (route late snow : Int32) (hg : ¬ (route < 0 ∨ wi late 0 60 = 0 ∨ wi snow 0 10 = 0)) (hp : allH d cs (alC I sp d) ns = false ∨ nI (RR d cs (alC I sp d) ns).length ≤ route) : aRuns mX12_morning (rK 6) [.ref 101, .int route, .int late, .int snow] (nn pl) (MM (fnd I) sp pl) (ends pl sp (-1000004)) := by
  have e : alM (fnd I) d = alC I sp d := mo_al hC (fun q i h => fnd_o (by omega))
  obtain ⟨dp, hdp, hdn⟩ := Core_dp hC
  refine m_mor2 route late snow dp ns nstr nc d cs fr to (mo_MW hC (fun q i h => fnd_o (by omega))) (mo_Pl hC hK (fun q i h => fnd_o (by omega))) (by rw [e, Core_mayf hC]; exact hdp) (by rw [e]; exact hdn) (fun hb => absurd hb hg) (fun K _ hF hM _ => ends_N hC hK _ (frP_F hF) hM.2.2.2.2.1) (fun K D C _ _ _ hlt _ _ _ hah _ _ => ?_)
  exfalso; rw [e] at hah hlt
  rcases hp with q | q
  · rw [hah] at q; exact absurd q (by decide)
  · exact absurd hlt (Int32.not_lt.mpr q)
theorem mO_morning (hC : Core I sp ns nstr nc d cs fr to sc kd nr tl nm cn) (hK : Cach I sp pl ns d cs nr) (route late snow : Int32) (hg : ¬ (route < 0 ∨ wi late 0 60 = 0 ∨ wi snow 0 10 = 0)) (hp : allH d cs (alC I sp d) ns = true) (hlt : route < nI (RR d cs (alC I sp d) ns).length) (C : Nat → Int32) (hCr : ∀ r, C r = I 144 r) (X : Nat → Nat → Int32) (u : ∀ q i, q ≠ 91 → ¬ (q = 90 ∧ i = 0) → ¬ (17 ≤ q ∧ q < 25) → X q i = I q i) (f1 : X 90 0 = nI (RR d cs (alC I sp d) ns).length) (f2 : ∀ r, r < (RR d cs (alC I sp d) ns).length → X 91 r = (drA (mpM d cs (RR d cs (alC I sp d) ns) (dTab fr to (I 5) (I 6) snow nstr) (fun s => I 26 s) d.2.2.2.1 route late) (nxG (fC I sp ns d cs) (RR d cs (alC I sp d) ns).length) (fun r => isF (nxG (fC I sp ns d cs) (RR d cs (alC I sp d) ns).length) r (RR d cs (alC I sp d) ns).length) (RR d cs (alC I sp d) ns).length (RR d cs (alC I sp d) ns).length (C, 0)).1 r) : aRuns mX12_morning (rK 6) [.ref 101, .int route, .int late, .int snow] (nn pl) (MM X sp pl) (ends pl sp (drA (mpM d cs (RR d cs (alC I sp d) ns) (dTab fr to (I 5) (I 6) snow nstr) (fun s => I 26 s) d.2.2.2.1 route late) (nxG (fC I sp ns d cs) (RR d cs (alC I sp d) ns).length) (fun r => isF (nxG (fC I sp ns d cs) (RR d cs (alC I sp d) ns).length) r (RR d cs (alC I sp d) ns).length) (RR d cs (alC I sp d) ns).length (RR d cs (alC I sp d) ns).length (C, 0)).2) := by
  obtain ⟨dp, hdp, hdn⟩ := Core_dp hC
  have hX : ∀ q j, 101 ≤ q → X q j = I q j := fun q j h => u q j (by omega) (by omega) (by omega)
  have e : alM X d = alC I sp d := mo_al hC hX
  have eM : alM X d = alM I d := e.trans (Core_al hC).symm
  have hs4 := hC.1.1.2
  have hal := al1024 hC
  have eMa : mayF d cs (fun s => X 108 s) (X 101 9) (RR d cs (alC I sp d) ns) = fC I sp ns d cs := mayF_eq hal hs4 ((hX _ _ (by omega)).trans hC.2.1.2.2.2.2.2.2.2.2.2) (fun s hs => (hX _ _ (by omega)).trans (hC.2.2.2.2.1 s hs).2.2.1)
  have e104 : X 104 = I 5 := (funext fun i => hX 104 i (by omega)).trans hC.2.2.2.1.2.1
  have e105 : X 105 = I 6 := (funext fun i => hX 105 i (by omega)).trans hC.2.2.2.1.2.2.1
  have emp : ∀ D, mpM d cs (RR d cs (alC I sp d) ns) D (fun s => X 108 s) (X 112) route late = mpM d cs (RR d cs (alC I sp d) ns) D (fun s => I 26 s) d.2.2.2.1 route late := fun D => mpM_eq hal hs4 (fun s hs => (hX _ _ (by omega)).trans (hC.2.2.2.2.1 s hs).2.2.1) (fun k hk => (hX _ _ (by omega)).trans ((Core_MW hC).2.2.2.2.2.2.2.2.2.2.1 k hk))
  have h10 := (CW_al hC.1).2.1
  refine m_mor2 route late snow dp ns nstr nc d cs fr to (mo_MW hC hX) (mo_Pl hC hK hX) (by rw [e, eMa]; exact hdp) (by rw [e]; exact hdn) (fun hb => absurd hb hg) (fun K _ hF hM hq => ?_) (fun K D C2 hC2 hD _ _ hF h29 hP _ h57 h144 => ?_)
  · exfalso; rw [e] at hq; rcases hq with q | q
    · rw [hp] at q; exact absurd q (by decide)
    · exact absurd hlt (Int32.not_lt.mpr q)
  · have eC : C2 = C := funext fun r => by rw [hC2, hCr, hX 144 r (by omega)]
    rw [e104, e105] at hD
    rw [e, eMa, emp, eC, hD] at h144
    rw [e] at h57
    -- before the minutes were written
    obtain ⟨Y, hY⟩ : ∃ Y : Nat → Nat → Int32, ∀ q j, Y q j = if q = 91 ∨ (q = 90 ∧ j = 0) then I q j else X q j := ⟨_, fun _ _ => rfl⟩
    obtain ⟨cY, kY⟩ := fr17 (K := Y) hC hK (fun q j hh => by
      rw [hY]
      by_cases h : q = 91 ∨ (q = 90 ∧ j = 0)
      · rw [if_pos h]
      · rw [if_neg h]; exact u q j (by omega) (by omega) hh)
    obtain ⟨Wm, hWm⟩ : ∃ Wm : Nat → Nat → Int32, ∀ q j, Wm q j = if q = 91 ∨ (q = 90 ∧ j = 0) ∨ q = 144 ∨ (q = 101 ∧ j = 57) then I q j else K q j := ⟨_, fun _ _ => rfl⟩
    have y1 : ∀ q j, ¬ (q = 91 ∨ (q = 90 ∧ j = 0) ∨ q = 144 ∨ (q = 101 ∧ j = 57)) → Wm q j = K q j := fun q j hh => by rw [hWm, if_neg hh]
    have eY : alM Y d = alM X d := funext fun s => setOf_congr d.1 (fun i _ => by rw [hY, if_neg (by omega)])
    obtain ⟨c1, c2⟩ := fin_O (K := Wm) cY kY (fun q j a b c f => by
      rw [hWm, hY]
      by_cases h1 : q = 91 ∨ (q = 90 ∧ j = 0)
      · rw [if_pos h1, if_pos (by omega)]
      · rw [if_neg h1]
        by_cases h2 : q = 91 ∨ (q = 90 ∧ j = 0) ∨ q = 144 ∨ (q = 101 ∧ j = 57)
        · rw [if_pos h2]; exact (hX q j (by omega)).symm
        · rw [if_neg h2]; exact hF q j (by omega) (by omega) c (by omega)) (by
        rw [eY]
        exact PlM_fr hC.1.2.2.2.2.2.2.1.2 hP (fun q j h => y1 q j (by omega)))
    refine ⟨K, ?_, rfl, rfl, Inv_morn (J := K) c1 c2 (RR d cs (alC I sp d) ns).length h10 (fun q j hh => (y1 q j (by omega)).symm) ?_ h57 (fun r hr => ?_)⟩
    · rw [e, eMa, emp, eC, hD]
    · rw [hF 90 0 (by omega) (by omega) (by omega) (by omega)]; exact f1
    · rw [h144 r hr, hF 91 r (by omega) (by omega) (by omega) (by omega), f2 r hr]
theorem mB_fair (hC : Core I sp ns nstr nc d cs fr to sc kd nr tl nm cn) (hK : Cach I sp pl ns d cs nr) (q w : Int32) (hb : wi q 0 3 = 0 ∨ wi w 0 3 = 0) : aRuns mX12_fair (rK 5) [.ref 101, .int q, .int w] (nn pl) (MM (fnd I) sp pl) (ends pl sp (-1000001)) := by
  exact m_fair_b q w hb (ends_F hC hK)
theorem mN_fair (hC : Core I sp ns nstr nc d cs fr to sc kd nr tl nm cn) (hK : Cach I sp pl ns d cs nr) (q w : Int32) (hg : ¬ (wi q 0 3 = 0 ∨ wi w 0 3 = 0)) (hw : w = 1 ∨ w = 2) (hp : allH d cs (alC I sp d) ns = false) : aRuns mX12_fair (rK 5) [.ref 101, .int q, .int w] (nn pl) (MM (fnd I) sp pl) (ends pl sp (-1000004)) := by
  have e : alM (fnd I) d = alC I sp d := mo_al hC (fun q i h => fnd_o (by omega))
  have hsc : ∀ k, k < d.1 → sc k < ns ∧ I 110 k = nI (sc k) := fun k hk => ⟨(hC.2.2.2.2.2.2.1 k hk).1, (hC.2.2.2.2.2.2.1 k hk).2.2.1.trans (hC.2.2.2.2.2.2.1 k hk).2.1⟩
  have hsf : ∀ k, k < d.1 → sc k < ns ∧ fnd I 110 k = nI (sc k) := fun k hk => ⟨(hsc k hk).1, (fnd_o (by omega)).trans (hsc k hk).2⟩
  refine m_fair q w sc ns nstr nc d cs fr to (mo_MW hC (fun q i h => fnd_o (by omega))) (mo_Pl hC hK (fun q i h => fnd_o (by omega))) hsf (fun hb => absurd hb hg) (fun K hF hM _ _ => ends_N hC hK _ (frP_F hF) hM.2.2.2.2.1) (fun K _ _ h => ?_) (fun K _ _ h hah => ?_) (fun K _ _ h hah => ?_) (fun K _ _ h => ?_)
  · exfalso; rw [h] at hw; exact absurd hw (by decide)
  · exfalso; rw [e, hp] at hah; exact absurd hah (by decide)
  · exfalso; rw [e, hp] at hah; exact absurd hah (by decide)
  · exfalso; rw [h] at hw; exact absurd hw (by decide)
theorem mO_fair (hC : Core I sp ns nstr nc d cs fr to sc kd nr tl nm cn) (hK : Cach I sp pl ns d cs nr) (q w : Int32) (hg : ¬ (wi q 0 3 = 0 ∨ wi w 0 3 = 0)) (hp : w = 1 ∨ w = 2 → allH d cs (alC I sp d) ns = true) (v : Int32) (hv : ∀ j : Nat, j ≤ 3 → w = nI j → faF j (fun k => I (sp k) 3) q d.2.2.2.1 (fun k => rideL d cs k (RR d cs (alC I sp d) ns)) (fun k => I (28 + 4 * sc k) 2 - I 26 (sc k)) d.1 = v) : aRuns mX12_fair (rK 5) [.ref 101, .int q, .int w] (nn pl) (MM I sp pl) (ends pl sp (v)) := by
  have e : alM I d = alC I sp d := Core_al hC
  have hsc : ∀ k, k < d.1 → sc k < ns ∧ I 110 k = nI (sc k) := fun k hk => ⟨(hC.2.2.2.2.2.2.1 k hk).1, (hC.2.2.2.2.2.2.1 k hk).2.2.1.trans (hC.2.2.2.2.2.2.1 k hk).2.1⟩
  have hsf : ∀ k, k < d.1 → sc k < ns ∧ fnd I 110 k = nI (sc k) := fun k hk => ⟨(hsc k hk).1, (fnd_o (by omega)).trans (hsc k hk).2⟩
  refine m_fair q w sc ns nstr nc d cs fr to (Core_MW hC) hK.2.2.2.1 hsc (fun hb => absurd hb hg) (fun K hF hM hah hw => ?_) (fun K hF hM h => ends_O hC hK (by
      rw [e]
      exact (faF_cg d.1 (fun k hk => by
        have g := hC.2.2.2.2.2.2.1 k hk
        have hs4 : sc k < 4 := by have := g.1; have := hC.1.1.2; omega
        have m := hC.2.2.2.2.1 (sc k) hs4
        have pu := (Core_MW hC).2.2.2.2.2.2.2.2.2.2.1 k hk
        refine ⟨?_, ?_, rfl, ?_⟩
        · exact (hF.1 113 k (by omega) (by omega)).trans g.2.2.2.2.2
        · exact (hF.1 112 k (by omega) (by omega)).trans pu
        · show K 109 (sc k) - K 108 (sc k) = I (28 + 4 * sc k) 2 - I 26 (sc k)
          rw [hF.1 109 _ (by omega) (by omega), hF.1 108 _ (by omega) (by omega), m.2.2.2, m.2.2.1])).trans (hv 0 (by omega) h))  (frP_F hF) hM.2.2.2.2.1) (fun K hF hM h hah => ends_O hC hK (by
      rw [e]
      exact (faF_cg d.1 (fun k hk => by
        have g := hC.2.2.2.2.2.2.1 k hk
        have hs4 : sc k < 4 := by have := g.1; have := hC.1.1.2; omega
        have m := hC.2.2.2.2.1 (sc k) hs4
        have pu := (Core_MW hC).2.2.2.2.2.2.2.2.2.2.1 k hk
        refine ⟨?_, ?_, rfl, ?_⟩
        · exact (hF.1 113 k (by omega) (by omega)).trans g.2.2.2.2.2
        · exact (hF.1 112 k (by omega) (by omega)).trans pu
        · show K 109 (sc k) - K 108 (sc k) = I (28 + 4 * sc k) 2 - I 26 (sc k)
          rw [hF.1 109 _ (by omega) (by omega), hF.1 108 _ (by omega) (by omega), m.2.2.2, m.2.2.1])).trans (hv 1 (by omega) h))  (frP_F hF) hM.2.2.2.2.1) (fun K hF hM h hah => ends_O hC hK (by
      rw [e]
      exact (faF_cg d.1 (fun k hk => by
        have g := hC.2.2.2.2.2.2.1 k hk
        have hs4 : sc k < 4 := by have := g.1; have := hC.1.1.2; omega
        have m := hC.2.2.2.2.1 (sc k) hs4
        have pu := (Core_MW hC).2.2.2.2.2.2.2.2.2.2.1 k hk
        refine ⟨?_, ?_, rfl, ?_⟩
        · exact (hF.1 113 k (by omega) (by omega)).trans g.2.2.2.2.2
        · exact (hF.1 112 k (by omega) (by omega)).trans pu
        · show K 109 (sc k) - K 108 (sc k) = I (28 + 4 * sc k) 2 - I 26 (sc k)
          rw [hF.1 109 _ (by omega) (by omega), hF.1 108 _ (by omega) (by omega), m.2.2.2, m.2.2.1])).trans (hv 2 (by omega) h))  (frP_F hF) hM.2.2.2.2.1) (fun K hF hM h => ends_O hC hK (by
      rw [e]
      exact (faF_cg d.1 (fun k hk => by
        have g := hC.2.2.2.2.2.2.1 k hk
        have hs4 : sc k < 4 := by have := g.1; have := hC.1.1.2; omega
        have m := hC.2.2.2.2.1 (sc k) hs4
        have pu := (Core_MW hC).2.2.2.2.2.2.2.2.2.2.1 k hk
        refine ⟨?_, ?_, rfl, ?_⟩
        · exact (hF.1 113 k (by omega) (by omega)).trans g.2.2.2.2.2
        · exact (hF.1 112 k (by omega) (by omega)).trans pu
        · show K 109 (sc k) - K 108 (sc k) = I (28 + 4 * sc k) 2 - I 26 (sc k)
          rw [hF.1 109 _ (by omega) (by omega), hF.1 108 _ (by omega) (by omega), m.2.2.2, m.2.2.1])).trans (hv 3 (by omega) h))  (frP_F hF) hM.2.2.2.2.1)
  exfalso; rw [e, hp hw] at hah; exact absurd hah (by decide)
end K17
section K17b
variable {I : Nat → Nat → Int32} {sp : Nat → Nat}
theorem k_morning_t (route late snow : Int32) (h : Inv I sp true) : aRuns mX11_morning (rK 7) [.ref 0, .int route, .int late, .int snow] (nn true) (MM I sp true) (KM true mX12_morning (rK 6) [.ref 101, .int route, .int late, .int snow]) := by
  obtain ⟨ns, nstr, nc, d, cs, fr, to, sc, kd, nr, tl, nm, cn, hC, hK⟩ := h
  have hW := hC.1
  have hns := hW.1.2
  obtain ⟨dp, hdp, hdn⟩ := Core_dp hC
  by_cases hg : route < 0 ∨ wi late 0 60 = 0 ∨ wi snow 0 10 = 0
  · refine c_morning_bt route late snow dp (fun r => I 144 r) hW (fun s hs => (hC.2.2.2.2.2.1 s hs).2.2.1) hC.2.2.2.2.2.2.2.2.2.2.2.1 hK.2.1 hdp hdn (fun s hs => ⟨(hC.2.2.2.1.2.2.2 s hs).1, (hC.2.2.2.1.2.2.2 s hs).2.1⟩) hg ?_
    refine ⟨_, _, _, rfl, rfl, rfl, ?_⟩
    exact mB_morning hC hK route late snow hg
  refine c_morning_t route late snow dp (fun r => I 144 r) hW (fun s hs => (hC.2.2.2.2.2.1 s hs).2.2.1) hC.2.2.2.2.2.2.2.2.2.2.2.1 hK.2.1 hdp hdn (fun s hs => ⟨(hC.2.2.2.1.2.2.2 s hs).1, (hC.2.2.2.1.2.2.2 s hs).2.1⟩) (fun q => (hK.1 q).2) (fun hb => absurd hb hg) (fun J h1 hD hp => ?_) (fun K h1 hL hp hle => ?_) (fun K X h1 hlt hL hp hq f1 f2 => ?_)
  · obtain ⟨cJ, kJ⟩ := aft_DP hC hK hD
    have ea : alC J sp d = alC I sp d := alC_fr hW (FrDr_C hD.1)
    refine ⟨_, _, _, rfl, rfl, rfl, ?_⟩
    exact mN_morning cJ kJ route late snow hg (Or.inl (by rw [ea]; exact hp))
  · obtain ⟨cK, kK, ea, ef⟩ := aft_LC hC hK hL
    refine ⟨_, _, _, rfl, rfl, rfl, ?_⟩
    exact mN_morning cK kK route late snow hg (Or.inr (by rw [ea]; exact hle))
  · obtain ⟨cK, kK, ea, ef⟩ := aft_LC hC hK hL
    have gK : ∀ q i, q ≠ 56 → ¬ (69 ≤ q ∧ q ≤ 74) → ¬ (q = 54) → ¬ (q = 0) → ¬ (147 ≤ q) → ¬ (28 ≤ q ∧ q < 44) → q ≠ 55 → q ≠ 57 → ¬ (59 ≤ q ∧ q < 69) → ¬ (8 ≤ q ∧ q < 16) → ¬ (q = 2) → K q i = I q i := by
      obtain ⟨⟨J, hD, hL2⟩, -⟩ := hL
      intro q i a1 a2 a3 a4 a5 a6 a7 a8 a9 a10 a11
      exact (hL2 _ _ (by omega) (by omega) (by omega) (by omega)).trans (hD.1 _ _ (by omega) (by omega) (by omega) (by omega) (by omega) (by omega) (by omega) (by omega) (by omega))
    have e5 : K 5 = I 5 := funext fun i => gK 5 i (by omega) (by omega) (by omega) (by omega) (by omega) (by omega) (by omega) (by omega) (by omega) (by omega) (by omega)
    have e6 : K 6 = I 6 := funext fun i => gK 6 i (by omega) (by omega) (by omega) (by omega) (by omega) (by omega) (by omega) (by omega) (by omega) (by omega) (by omega)
    have e26 : (fun s => K 26 s) = (fun s => I 26 s) := funext fun i => gK 26 i (by omega) (by omega) (by omega) (by omega) (by omega) (by omega) (by omega) (by omega) (by omega) (by omega) (by omega)
    refine ⟨_, _, _, rfl, rfl, rfl, ?_⟩
    have m := mO_morning cK kK route late snow hg (by rw [ea]; exact hp) (by rw [ea]; exact hlt) (fun r => I 144 r) (fun r => (gK 144 r (by omega) (by omega) (by omega) (by omega) (by omega) (by omega) (by omega) (by omega) (by omega) (by omega) (by omega)).symm) X hq (by rw [ea]; exact f1) (by rw [ef, ea, e5, e6, e26]; exact f2)
    rw [ef, ea, e5, e6, e26] at m
    exact m

theorem k_morning_f (route late snow : Int32) (h : Inv I sp false) : aRuns mX11_morning (rK 7) [.ref 0, .int route, .int late, .int snow] (nn false) (MM I sp false) (KM false mX12_morning (rK 6) [.ref 101, .int route, .int late, .int snow]) ∨ aRuns mX11_morning (rP 7) [.ref 0, .int route, .int late, .int snow] (nn false) (MM I sp false) (KM true mX12_morning (rK 6) [.ref 101, .int route, .int late, .int snow]) := by
  obtain ⟨ns, nstr, nc, d, cs, fr, to, sc, kd, nr, tl, nm, cn, hC, hK⟩ := h
  have hW := hC.1
  have hns := hW.1.2
  obtain ⟨dp, hdp, hdn⟩ := Core_dp hC
  have h07 : I 0 7 = 0 := Classical.byContradiction fun q => by cases (hK.1 q).1
  by_cases hg : route < 0 ∨ wi late 0 60 = 0 ∨ wi snow 0 10 = 0
  · refine Or.inl (c_morning_b route late snow dp (fun r => I 144 r) hW (fun s hs => (hC.2.2.2.2.2.1 s hs).2.2.1) hC.2.2.2.2.2.2.2.2.2.2.2.1 hK.2.1 hdp hdn (fun s hs => ⟨(hC.2.2.2.1.2.2.2 s hs).1, (hC.2.2.2.1.2.2.2 s hs).2.1⟩) hg ?_)
    refine ⟨_, _, _, rfl, rfl, rfl, ?_⟩
    exact mB_morning hC hK route late snow hg
  refine Or.inr (c_morning_f route late snow dp (fun r => I 144 r) hW (fun s hs => (hC.2.2.2.2.2.1 s hs).2.2.1) hC.2.2.2.2.2.2.2.2.2.2.2.1 hK.2.1 hdp hdn (fun s hs => ⟨(hC.2.2.2.1.2.2.2 s hs).1, (hC.2.2.2.1.2.2.2 s hs).2.1⟩) h07 hg (fun J h1 hD hp => ?_) (fun K h1 hL hp hle => ?_) (fun K X h1 hlt hL hp hq f1 f2 => ?_))
  · obtain ⟨cJ, kJ⟩ := aft_DP hC hK hD
    have ea : alC J sp d = alC I sp d := alC_fr hW (FrDr_C hD.1)
    refine ⟨_, _, _, rfl, rfl, rfl, ?_⟩
    exact mN_morning cJ kJ route late snow hg (Or.inl (by rw [ea]; exact hp))
  · obtain ⟨cK, kK, ea, ef⟩ := aft_LC hC hK hL
    refine ⟨_, _, _, rfl, rfl, rfl, ?_⟩
    exact mN_morning cK kK route late snow hg (Or.inr (by rw [ea]; exact hle))
  · obtain ⟨cK, kK, ea, ef⟩ := aft_LC hC hK hL
    have gK : ∀ q i, q ≠ 56 → ¬ (69 ≤ q ∧ q ≤ 74) → ¬ (q = 54) → ¬ (q = 0) → ¬ (147 ≤ q) → ¬ (28 ≤ q ∧ q < 44) → q ≠ 55 → q ≠ 57 → ¬ (59 ≤ q ∧ q < 69) → ¬ (8 ≤ q ∧ q < 16) → ¬ (q = 2) → K q i = I q i := by
      obtain ⟨⟨J, hD, hL2⟩, -⟩ := hL
      intro q i a1 a2 a3 a4 a5 a6 a7 a8 a9 a10 a11
      exact (hL2 _ _ (by omega) (by omega) (by omega) (by omega)).trans (hD.1 _ _ (by omega) (by omega) (by omega) (by omega) (by omega) (by omega) (by omega) (by omega) (by omega))
    have e5 : K 5 = I 5 := funext fun i => gK 5 i (by omega) (by omega) (by omega) (by omega) (by omega) (by omega) (by omega) (by omega) (by omega) (by omega) (by omega)
    have e6 : K 6 = I 6 := funext fun i => gK 6 i (by omega) (by omega) (by omega) (by omega) (by omega) (by omega) (by omega) (by omega) (by omega) (by omega) (by omega)
    have e26 : (fun s => K 26 s) = (fun s => I 26 s) := funext fun i => gK 26 i (by omega) (by omega) (by omega) (by omega) (by omega) (by omega) (by omega) (by omega) (by omega) (by omega) (by omega)
    refine ⟨_, _, _, rfl, rfl, rfl, ?_⟩
    have m := mO_morning cK kK route late snow hg (by rw [ea]; exact hp) (by rw [ea]; exact hlt) (fun r => I 144 r) (fun r => (gK 144 r (by omega) (by omega) (by omega) (by omega) (by omega) (by omega) (by omega) (by omega) (by omega) (by omega) (by omega)).symm) X hq (by rw [ea]; exact f1) (by rw [ef, ea, e5, e6, e26]; exact f2)
    rw [ef, ea, e5, e6, e26] at m
    exact m

theorem k_fair_t (q w : Int32) (h : Inv I sp true) : aRuns mX11_fair (rK 6) [.ref 0, .int q, .int w] (nn true) (MM I sp true) (KM true mX12_fair (rK 5) [.ref 101, .int q, .int w]) := by
  obtain ⟨ns, nstr, nc, d, cs, fr, to, sc, kd, nr, tl, nm, cn, hC, hK⟩ := h
  have hW := hC.1
  have hns := hW.1.2
  have fj : ∀ j k : Nat, j ≤ 3 → k ≤ 3 → nI j = nI k → j = k := fun j k a b h => (nI_eq (by omega) (by omega)).mp h
  by_cases hg : wi q 0 3 = 0 ∨ wi w 0 3 = 0
  · refine c_fair_bt q w hW sc (fun k hk => ⟨(hC.2.2.2.2.2.2.1 k hk).1, (hC.2.2.2.2.2.2.1 k hk).2.1⟩) hg ?_
    refine ⟨_, _, _, rfl, rfl, rfl, ?_⟩
    exact mB_fair hC hK q w hg
  refine c_fair_t q w hW sc (fun k hk => ⟨(hC.2.2.2.2.2.2.1 k hk).1, (hC.2.2.2.2.2.2.1 k hk).2.1⟩) (fun q => (hK.1 q).2) (fun hb => absurd hb hg) (fun hw => ?_) (fun hw => ?_) (fun J hD hp hw => ?_) (fun J X hD hp hw hq hWK => ?_) (fun J X hD hp hw hq hWK => ?_)
  · refine ⟨_, _, _, rfl, rfl, rfl, ?_⟩
    exact mO_fair hC hK q w hg (fun h => by rw [hw] at h; exact absurd h (by decide)) _ (fun j hj h => by rw [hw] at h; rw [show j = 0 from fj j 0 hj (by omega) h.symm])
  · refine ⟨_, _, _, rfl, rfl, rfl, ?_⟩
    exact mO_fair hC hK q w hg (fun h => by rw [hw] at h; exact absurd h (by decide)) _ (fun j hj h => by rw [hw] at h; rw [show j = 3 from fj j 3 hj (by omega) h.symm])
  · obtain ⟨cJ, kJ⟩ := aft_DP hC hK hD
    have ea : alC J sp d = alC I sp d := alC_fr hW (FrDr_C hD.1)
    refine ⟨_, _, _, rfl, rfl, rfl, ?_⟩
    exact mN_fair cJ kJ q w hg hw (by rw [ea]; exact hp)
  · obtain ⟨cJ, kJ⟩ := aft_DP hC hK hD
    have ea : alC J sp d = alC I sp d := alC_fr hW (FrDr_C hD.1)
    obtain ⟨c2, k2⟩ := Inv_fr4 cJ kJ (fun q i h => hq q i (by omega) (by omega)) (fun hm a b ha hb => hWK.2.2.2.2.2.2.2.2.2.2.2 hm a b ha hb)
    have eb : alC X sp d = alC I sp d := (alC_sp hW.2.2.2.2.2.2.1.2 hW.2.2.2.2.2.2.2.1 (fun q i h => hq q i (by omega) (by omega))).trans ea
    have gX : ∀ q i, ¬ (8 ≤ q ∧ q < 16) → q ≠ 2 → ¬ (147 ≤ q) → ¬ (28 ≤ q ∧ q < 44 ∧ ¬ (q % 4 = 0 ∧ i < 3)) → ¬ (54 ≤ q ∧ q < 69) → q ≠ 0 → X q i = I q i := fun q i a1 a2 a3 a4 a5 a6 => (hq q i a1 (by omega)).trans (hD.1 q i (by omega) a4 (by omega) (by omega) (by omega) (by omega) (by omega) (by omega) (by omega))
    refine ⟨_, _, _, rfl, rfl, rfl, ?_⟩
    exact mO_fair c2 k2 q w hg (fun _ => by rw [eb]; exact hp) _ (fun j hj h => by
      rw [hw] at h
      rw [show j = 1 from fj j 1 hj (by omega) h.symm, eb]
      exact faF_cg d.1 (fun k hk => by
        have hk4 := hW.2.2.2.2.2.2.2.1 k (by have := hW.2.2.2.2.2.2.1.2; omega)
        have hs4 := (hC.2.2.2.2.2.2.1 k hk).1
        refine ⟨gX _ _ (by omega) (by omega) (by omega) (by omega) (by omega) (by omega), rfl, rfl, ?_⟩
        show X (28 + 4 * sc k) 2 - X 26 (sc k) = I (28 + 4 * sc k) 2 - I 26 (sc k)
        rw [gX (28 + 4 * sc k) 2 (by omega) (by omega) (by omega) (by omega) (by omega) (by omega), gX 26 (sc k) (by omega) (by omega) (by omega) (by omega) (by omega) (by omega)]))
  · obtain ⟨cJ, kJ⟩ := aft_DP hC hK hD
    have ea : alC J sp d = alC I sp d := alC_fr hW (FrDr_C hD.1)
    obtain ⟨c2, k2⟩ := Inv_fr4 cJ kJ (fun q i h => hq q i (by omega) (by omega)) (fun hm a b ha hb => hWK.2.2.2.2.2.2.2.2.2.2.2 hm a b ha hb)
    have eb : alC X sp d = alC I sp d := (alC_sp hW.2.2.2.2.2.2.1.2 hW.2.2.2.2.2.2.2.1 (fun q i h => hq q i (by omega) (by omega))).trans ea
    have gX : ∀ q i, ¬ (8 ≤ q ∧ q < 16) → q ≠ 2 → ¬ (147 ≤ q) → ¬ (28 ≤ q ∧ q < 44 ∧ ¬ (q % 4 = 0 ∧ i < 3)) → ¬ (54 ≤ q ∧ q < 69) → q ≠ 0 → X q i = I q i := fun q i a1 a2 a3 a4 a5 a6 => (hq q i a1 (by omega)).trans (hD.1 q i (by omega) a4 (by omega) (by omega) (by omega) (by omega) (by omega) (by omega) (by omega))
    refine ⟨_, _, _, rfl, rfl, rfl, ?_⟩
    exact mO_fair c2 k2 q w hg (fun _ => by rw [eb]; exact hp) _ (fun j hj h => by
      rw [hw] at h
      rw [show j = 2 from fj j 2 hj (by omega) h.symm, eb]
      exact faF_cg d.1 (fun k hk => by
        have hk4 := hW.2.2.2.2.2.2.2.1 k (by have := hW.2.2.2.2.2.2.1.2; omega)
        have hs4 := (hC.2.2.2.2.2.2.1 k hk).1
        refine ⟨gX _ _ (by omega) (by omega) (by omega) (by omega) (by omega) (by omega), rfl, rfl, ?_⟩
        show X (28 + 4 * sc k) 2 - X 26 (sc k) = I (28 + 4 * sc k) 2 - I 26 (sc k)
        rw [gX (28 + 4 * sc k) 2 (by omega) (by omega) (by omega) (by omega) (by omega) (by omega), gX 26 (sc k) (by omega) (by omega) (by omega) (by omega) (by omega) (by omega)]))

theorem k_fair_f (q w : Int32) (h : Inv I sp false) : aRuns mX11_fair (rK 6) [.ref 0, .int q, .int w] (nn false) (MM I sp false) (KM false mX12_fair (rK 5) [.ref 101, .int q, .int w]) ∨ aRuns mX11_fair (rP 6) [.ref 0, .int q, .int w] (nn false) (MM I sp false) (KM true mX12_fair (rK 5) [.ref 101, .int q, .int w]) := by
  obtain ⟨ns, nstr, nc, d, cs, fr, to, sc, kd, nr, tl, nm, cn, hC, hK⟩ := h
  have hW := hC.1
  have hns := hW.1.2
  have fj : ∀ j k : Nat, j ≤ 3 → k ≤ 3 → nI j = nI k → j = k := fun j k a b h => (nI_eq (by omega) (by omega)).mp h
  have h07 : I 0 7 = 0 := Classical.byContradiction fun q => by cases (hK.1 q).1
  by_cases hg : wi q 0 3 = 0 ∨ wi w 0 3 = 0
  · refine Or.inl (c_fair_b q w hW sc (fun k hk => ⟨(hC.2.2.2.2.2.2.1 k hk).1, (hC.2.2.2.2.2.2.1 k hk).2.1⟩) hg ?_)
    refine ⟨_, _, _, rfl, rfl, rfl, ?_⟩
    exact mB_fair hC hK q w hg
  obtain ⟨j, hj, hwj⟩ := wi_c (m := 3) (by decide) (show (3 : Int32) = nI 3 from by decide) (fun q => hg (Or.inr q))
  have hcase : (w = 0 ∨ w = 3) ∨ (w = 1 ∨ w = 2) := by
    have key : ∀ j, j ≤ 3 → (nI j = 0 ∨ nI j = 3) ∨ (nI j = 1 ∨ nI j = 2) := by decide
    rw [hwj]; exact key j hj
  rcases hcase with h03 | h12
  · refine Or.inl (c_fair_n q w hW sc (fun k hk => ⟨(hC.2.2.2.2.2.2.1 k hk).1, (hC.2.2.2.2.2.2.1 k hk).2.1⟩) hg h03 (fun hw => ?_) (fun hw => ?_))
    · refine ⟨_, _, _, rfl, rfl, rfl, ?_⟩
      exact mO_fair hC hK q w hg (fun h => by rw [hw] at h; exact absurd h (by decide)) _ (fun j hj h => by rw [hw] at h; rw [show j = 0 from fj j 0 hj (by omega) h.symm])
    · refine ⟨_, _, _, rfl, rfl, rfl, ?_⟩
      exact mO_fair hC hK q w hg (fun h => by rw [hw] at h; exact absurd h (by decide)) _ (fun j hj h => by rw [hw] at h; rw [show j = 3 from fj j 3 hj (by omega) h.symm])

  · refine Or.inr (c_fair_f q w hW sc (fun k hk => ⟨(hC.2.2.2.2.2.2.1 k hk).1, (hC.2.2.2.2.2.2.1 k hk).2.1⟩) h07 hg h12 (fun J hD hp hw => ?_) (fun J X hD hp hw hq hWK => ?_) (fun J X hD hp hw hq hWK => ?_))
    · obtain ⟨cJ, kJ⟩ := aft_DP hC hK hD
      have ea : alC J sp d = alC I sp d := alC_fr hW (FrDr_C hD.1)
      refine ⟨_, _, _, rfl, rfl, rfl, ?_⟩
      exact mN_fair cJ kJ q w hg hw (by rw [ea]; exact hp)
    · obtain ⟨cJ, kJ⟩ := aft_DP hC hK hD
      have ea : alC J sp d = alC I sp d := alC_fr hW (FrDr_C hD.1)
      obtain ⟨c2, k2⟩ := Inv_fr4 cJ kJ (fun q i h => hq q i (by omega) (by omega)) (fun hm a b ha hb => hWK.2.2.2.2.2.2.2.2.2.2.2 hm a b ha hb)
      have eb : alC X sp d = alC I sp d := (alC_sp hW.2.2.2.2.2.2.1.2 hW.2.2.2.2.2.2.2.1 (fun q i h => hq q i (by omega) (by omega))).trans ea
      have gX : ∀ q i, ¬ (8 ≤ q ∧ q < 16) → q ≠ 2 → ¬ (147 ≤ q) → ¬ (28 ≤ q ∧ q < 44 ∧ ¬ (q % 4 = 0 ∧ i < 3)) → ¬ (54 ≤ q ∧ q < 69) → q ≠ 0 → X q i = I q i := fun q i a1 a2 a3 a4 a5 a6 => (hq q i a1 (by omega)).trans (hD.1 q i (by omega) a4 (by omega) (by omega) (by omega) (by omega) (by omega) (by omega) (by omega))
      refine ⟨_, _, _, rfl, rfl, rfl, ?_⟩
      exact mO_fair c2 k2 q w hg (fun _ => by rw [eb]; exact hp) _ (fun j hj h => by
        rw [hw] at h
        rw [show j = 1 from fj j 1 hj (by omega) h.symm, eb]
        exact faF_cg d.1 (fun k hk => by
          have hk4 := hW.2.2.2.2.2.2.2.1 k (by have := hW.2.2.2.2.2.2.1.2; omega)
          have hs4 := (hC.2.2.2.2.2.2.1 k hk).1
          refine ⟨gX _ _ (by omega) (by omega) (by omega) (by omega) (by omega) (by omega), rfl, rfl, ?_⟩
          show X (28 + 4 * sc k) 2 - X 26 (sc k) = I (28 + 4 * sc k) 2 - I 26 (sc k)
          rw [gX (28 + 4 * sc k) 2 (by omega) (by omega) (by omega) (by omega) (by omega) (by omega), gX 26 (sc k) (by omega) (by omega) (by omega) (by omega) (by omega) (by omega)]))
    · obtain ⟨cJ, kJ⟩ := aft_DP hC hK hD
      have ea : alC J sp d = alC I sp d := alC_fr hW (FrDr_C hD.1)
      obtain ⟨c2, k2⟩ := Inv_fr4 cJ kJ (fun q i h => hq q i (by omega) (by omega)) (fun hm a b ha hb => hWK.2.2.2.2.2.2.2.2.2.2.2 hm a b ha hb)
      have eb : alC X sp d = alC I sp d := (alC_sp hW.2.2.2.2.2.2.1.2 hW.2.2.2.2.2.2.2.1 (fun q i h => hq q i (by omega) (by omega))).trans ea
      have gX : ∀ q i, ¬ (8 ≤ q ∧ q < 16) → q ≠ 2 → ¬ (147 ≤ q) → ¬ (28 ≤ q ∧ q < 44 ∧ ¬ (q % 4 = 0 ∧ i < 3)) → ¬ (54 ≤ q ∧ q < 69) → q ≠ 0 → X q i = I q i := fun q i a1 a2 a3 a4 a5 a6 => (hq q i a1 (by omega)).trans (hD.1 q i (by omega) a4 (by omega) (by omega) (by omega) (by omega) (by omega) (by omega) (by omega))
      refine ⟨_, _, _, rfl, rfl, rfl, ?_⟩
      exact mO_fair c2 k2 q w hg (fun _ => by rw [eb]; exact hp) _ (fun j hj h => by
        rw [hw] at h
        rw [show j = 2 from fj j 2 hj (by omega) h.symm, eb]
        exact faF_cg d.1 (fun k hk => by
          have hk4 := hW.2.2.2.2.2.2.2.1 k (by have := hW.2.2.2.2.2.2.1.2; omega)
          have hs4 := (hC.2.2.2.2.2.2.1 k hk).1
          refine ⟨gX _ _ (by omega) (by omega) (by omega) (by omega) (by omega) (by omega), rfl, rfl, ?_⟩
          show X (28 + 4 * sc k) 2 - X 26 (sc k) = I (28 + 4 * sc k) 2 - I 26 (sc k)
          rw [gX (28 + 4 * sc k) 2 (by omega) (by omega) (by omega) (by omega) (by omega) (by omega), gX 26 (sc k) (by omega) (by omega) (by omega) (by omega) (by omega) (by omega)]))

end K17b
