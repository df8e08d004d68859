section K9
variable {I : Nat → Nat → Int32} {sp : Nat → Nat} {pl : Bool} {J : Nat → Nat → Int32} {ns nstr nc : Nat} {d : pD} {cs : Nat → pC} {fr to sc kd : Nat → Nat} {nr tl nm : Nat} {cn : Nat → Nat}
theorem Inv_fr4 (hC : Core I sp ns nstr nc d cs fr to sc kd nr tl nm cn) (hK : Cach I sp pl ns d cs nr) (hq : ∀ q i, (q < 121 ∧ ¬ (8 ≤ q ∧ q < 16) ∧ ¬ (q = 2 ∧ i = 8)) ∨ (122 ≤ q ∧ q ≤ 131) ∨ (140 ≤ q ∧ q ≤ 142) ∨ q = 144 → J q i = I q i) (ht : ¬ J 2 8 = 0 → ∀ a b, a < nc → b < nc → J (8 + a) b = d.2.2.1 a b) : Core J sp ns nstr nc d cs fr to sc kd nr tl nm cn ∧ Cach J sp pl ns d cs nr := by
  refine ⟨Core_fr hC (fun q i h => hq q i (by unfold coreC at h; omega)) (by rw [hq 101 6 (by omega), hq 0 10 (by omega)]; exact hC.2.1.2.2.2.2.2.2.1) ht, Cach_fr3 hC.1 hK (fun q => ⟨by rw [← hq 0 7 (by omega)]; exact q, fun q i h => hq q i (by omega)⟩) (fun q => ⟨by rw [← hq 0 8 (by omega)]; exact q, by rw [hq 0 7 (by omega)]; exact (hK.2.1 (by rw [← hq 0 8 (by omega)]; exact q)).1, fun q i h => hq q i (by omega)⟩) (fun q => ⟨by rw [← hq 0 9 (by omega)]; exact q, by rw [hq 0 7 (by omega)]; exact (hK.2.2.1 (by rw [← hq 0 9 (by omega)]; exact q)).1, fun q i h => hq q i (by omega)⟩) (fun q => ⟨by rw [← hq 101 29 (by omega)]; exact q, fun q i h => hq q i (by omega)⟩) (fun q => ⟨by rw [← hq 101 30 (by omega)]; exact q, fun q i h => hq q i (by omega)⟩)⟩
/-- a finding on each side, other cells moved between -/
theorem Inv_fnd2 {K : Nat → Nat → Int32} (hC : Core K sp ns nstr nc d cs fr to sc kd nr tl nm cn) (hK : Cach K sp pl ns d cs nr) (hX : ∀ q i, ¬ (q = 0 ∧ i = 10) → ¬ (q = 101 ∧ i = 6) → J q i = K q i) (h1 : J 0 10 = K 0 10 + 1) (h2 : J 101 6 = K 101 6 + 1) : Inv J sp pl := Inv_fnd hC hK hX (by rw [h1, h2, hC.2.1.2.2.2.2.2.2.1])
theorem k_cost  (h : Inv I sp pl) : aRuns mX11_cost (rK 2) [.ref 0] (nn pl) (MM I sp pl) (KM pl mX12_cost (rK 3) [.ref 101]) := by
  obtain ⟨ns, nstr, nc, d, cs, fr, to, sc, kd, nr, tl, nm, cn, hC, hK⟩ := h
  have hW := hC.1
  have hMo := hC.2.1
  have h8 := hW.2.1.2
  have hs4 := hW.1.2
  have h10 := hW.2.2.2.2.2.2.1.2
  have hsp := hW.2.2.2.2.2.2.2.1
  have hstr := hW.2.2.1.2
  have hsum : ∀ s, sumB (setOf (I 110) (nI s) d.1) (I 112) d.1 = sumS (fun k => I (sp k) 0) (fun k => I (sp k) 2) (nI s) d.1 := fun s => by
    rw [sumS_sumB, show setOf (I 110) (nI s) d.1 = setOf (fun k => I (sp k) 0) (nI s) d.1 from setOf_congr d.1 (fun k hk => (hC.2.2.2.2.2.2.1 k hk).2.2.1)]
    exact sumB_bits d.1 (fun k hk _ => (hC.2.2.2.2.2.2.1 k hk).2.2.2.2.1)
  refine aRuns.wk (c_cost ns d.1 hW.1.1 hs4 hW.2.2.2.2.2.2.1.1 h10 hsp) ?_
  rintro r n' m' ⟨rfl, rfl, rfl⟩
  refine ⟨_, _, _, rfl, rfl, rfl, ?_⟩
  refine aRuns.wk (m_cost ns d.1 hMo.2.2.1 hs4 hMo.2.2.2.1 h10) ?_
  rintro r n' m' ⟨rfl, rfl, rfl⟩
  refine ⟨_, ?_, rfl, rfl, Inv_fr hC hK (fun q i hh => ataI_ne (by omega) 4)⟩
  rw [cSum_congr ns (fun s hs => ?_)]
  rw [hsum, (hC.2.2.2.2.1 s (by omega)).2.2.1, (hC.2.2.2.2.1 s (by omega)).2.2.2]
theorem k_far (a b : Int32) (h : Inv I sp pl) : aRuns mX11_far (rK 3) [.ref 0, .int a, .int b] (nn pl) (MM I sp pl) (KM pl mX12_far (rK 2) [.ref 101, .int a, .int b]) := by
  obtain ⟨ns, nstr, nc, d, cs, fr, to, sc, kd, nr, tl, nm, cn, hC, hK⟩ := h
  have hW := hC.1
  have hMo := hC.2.1
  have h8 := hW.2.1.2
  have hs4 := hW.1.2
  have h10 := hW.2.2.2.2.2.2.1.2
  have hsp := hW.2.2.2.2.2.2.2.1
  have hstr := hW.2.2.1.2
  have e1 := hW.2.1.1
  have e2 := hMo.1
  have hD := hW.2.2.2.2.2.1
  have hTo : ∀ q i, (q < 8 ∨ 16 ≤ q) ∧ (q ≠ 2 ∨ i ≠ 8) → tabI I nc (dTab fr to (I 5) (I 6) 0 nstr) q i = I q i := fun q i h => tabI_o h8 h
  have hT := CW_tab hW
  have e45 : ∀ X : Nat → Nat → Int32, (∀ i, X 104 i = I 104 i) → (∀ i, X 105 i = I 105 i) → dTab fr to (X 104) (X 105) 0 nstr = dTab fr to (I 5) (I 6) 0 nstr := fun X h1 h2 => by
    rw [show X 104 = I 5 from (funext h1).trans hC.2.2.2.1.2.1, show X 105 = I 6 from (funext h2).trans hC.2.2.2.1.2.2.1]
  have fin : ∀ X : Nat → Nat → Int32, (∀ q i, q ≠ 121 → X q i = tabI I nc (dTab fr to (I 5) (I 6) 0 nstr) q i) → Core X sp ns nstr nc d cs fr to sc kd nr tl nm cn ∧ Cach X sp pl ns d cs nr := fun X hX => Inv_fr4 hC hK (fun q i hh => (hX q i (by omega)).trans (hTo q i (by omega))) (fun _ a b ha hb => (hX _ _ (by omega)).trans (hT a b ha hb))
  refine c_far a b nc e1 h8 nstr fr to hW.2.2.1.1 hstr hW.2.2.2.1 hW.2.2.2.2.1 (by rw [← hD]; exact hW.2.2.2.2.2.2.2.2.2.2.2) (fun hb => ?_) (fun x y hx hy ha hb hn => ?_) (fun x y hx hy ha hb hn => ?_)
  · refine ⟨_, _, _, rfl, rfl, rfl, m_far a b nstr nc fr to ((iu_ne (by omega)).trans e2) ((iu_ne (by omega)).trans hMo.2.1) hstr h8 (fun s hs => ⟨(hW.2.2.2.1 s hs).1, (hW.2.2.2.1 s hs).2.1, (iu_ne (by omega)).trans (hC.2.2.2.1.1 s hs).1, (iu_ne (by omega)).trans (hC.2.2.2.1.1 s hs).2⟩) (fun _ => ⟨_, rfl, rfl, rfl, Inv_f2 hC hK⟩) (fun x y hx hy ha hb' _ => ?_) (fun x y hx hy ha hb' _ => ?_)⟩
    all_goals (exfalso; rw [ha, hb', e1] at hb; rcases hb with q | q; exact wi_nx (by omega) hx q; exact wi_nx (by omega) hy q)
  · have y0 : ∀ q i, ¬ (q = 0 ∧ i = 10) → fnd (tabI I nc (dTab fr to (I 5) (I 6) 0 nstr)) q i = tabI I nc (dTab fr to (I 5) (I 6) 0 nstr) q i := fun q i h => iu_ne (by omega)
    refine ⟨_, _, _, rfl, rfl, rfl, ?_⟩
    refine m_far a b nstr nc fr to ((y0 _ _ (by omega)).trans ((hTo _ _ (by omega)).trans e2)) ((y0 _ _ (by omega)).trans ((hTo _ _ (by omega)).trans hMo.2.1)) hstr h8 (fun s hs => ⟨(hW.2.2.2.1 s hs).1, (hW.2.2.2.1 s hs).2.1, (y0 _ _ (by omega)).trans ((hTo _ _ (by omega)).trans (hC.2.2.2.1.1 s hs).1), (y0 _ _ (by omega)).trans ((hTo _ _ (by omega)).trans (hC.2.2.2.1.1 s hs).2)⟩) (fun hb' => ?_) (fun x' y' hx' hy' ha' hb' hn' => ⟨_, rfl, rfl, rfl, ?_⟩) (fun x' y' hx' hy' ha' hb' hn' => ?_)
    · exfalso
      rw [y0 _ _ (by omega), hTo _ _ (by omega), ha, hb, e2] at hb'
      rcases hb' with q | q; exact wi_nx (by omega) hx q; exact wi_nx (by omega) hy q
    · obtain ⟨c1, c2⟩ := fin (pfk (tabI I nc (dTab fr to (I 5) (I 6) 0 nstr)) 64 (dTab fr to (fnd (tabI I nc (dTab fr to (I 5) (I 6) 0 nstr)) 104) (fnd (tabI I nc (dTab fr to (I 5) (I 6) 0 nstr)) 105) 0 nstr)) (fun q i hq => pfk_o hq)
      refine Inv_fnd2 c1 c2 (fun q i h3 h4 => ?_) ?_ ?_
      · unfold fndM
        rw [iu_ne (by omega)]
        by_cases e : q = 121
        · subst e
          unfold pfk
          by_cases z : 121 = 121 ∧ i < 64
          · rw [if_pos z, if_pos z]
          · rw [if_neg z, if_neg z]; exact y0 _ _ (by omega)
        · rw [pfk_o e, pfk_o e]; exact y0 _ _ h3
      · unfold fndM
        rw [iu_ne (by omega), pfk_o (by omega), pfk_o (by omega)]
        unfold fnd
        rw [iu_eq]
      · unfold fndM
        rw [iu_eq, pfk_o (by omega), pfk_o (by omega), y0 _ _ (by omega)]
    · exfalso
      have ex : x' = x := (nI_eq (by omega) (by omega)).mp (ha'.symm.trans ha)
      have ey : y' = y := (nI_eq (by omega) (by omega)).mp (hb'.symm.trans hb)
      rw [ex, ey, e45 _ (fun i => (y0 _ _ (by omega)).trans (hTo _ _ (by omega))) (fun i => (y0 _ _ (by omega)).trans (hTo _ _ (by omega)))] at hn'
      exact hn hn'
  · refine ⟨_, _, _, rfl, rfl, rfl, ?_⟩
    refine m_far a b nstr nc fr to ((hTo _ _ (by omega)).trans e2) ((hTo _ _ (by omega)).trans hMo.2.1) hstr h8 (fun s hs => ⟨(hW.2.2.2.1 s hs).1, (hW.2.2.2.1 s hs).2.1, (hTo _ _ (by omega)).trans (hC.2.2.2.1.1 s hs).1, (hTo _ _ (by omega)).trans (hC.2.2.2.1.1 s hs).2⟩) (fun hb' => ?_) (fun x' y' hx' hy' ha' hb' hn' => ?_) (fun x' y' hx' hy' ha' hb' hn' => ⟨_, ?_, rfl, rfl, ?_⟩)
    · exfalso
      rw [hTo _ _ (by omega), ha, hb, e2] at hb'
      rcases hb' with q | q; exact wi_nx (by omega) hx q; exact wi_nx (by omega) hy q
    · exfalso
      have ex : x' = x := (nI_eq (by omega) (by omega)).mp (ha'.symm.trans ha)
      have ey : y' = y := (nI_eq (by omega) (by omega)).mp (hb'.symm.trans hb)
      rw [ex, ey, e45 _ (fun i => hTo _ _ (by omega)) (fun i => hTo _ _ (by omega))] at hn'
      exact hn' hn
    · have ex : x' = x := (nI_eq (by omega) (by omega)).mp (ha'.symm.trans ha)
      have ey : y' = y := (nI_eq (by omega) (by omega)).mp (hb'.symm.trans hb)
      rw [ex, ey, e45 _ (fun i => hTo _ _ (by omega)) (fun i => hTo _ _ (by omega))]
    · obtain ⟨c1, c2⟩ := fin (pfk (tabI I nc (dTab fr to (I 5) (I 6) 0 nstr)) 64 (dTab fr to (tabI I nc (dTab fr to (I 5) (I 6) 0 nstr) 104) (tabI I nc (dTab fr to (I 5) (I 6) 0 nstr) 105) 0 nstr)) (fun q i hq => pfk_o hq)
      exact Inv_of c1 c2
end K9
