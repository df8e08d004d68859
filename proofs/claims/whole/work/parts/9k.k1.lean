section K1
variable {I : Nat → Nat → Int32} {sp : Nat → Nat} {pl : Bool}
theorem k_told (w : Int32) (h : Inv I sp pl) : aRuns mX11_told (rK 1) [.ref 0, .int w] (nn pl) (MM I sp pl) (KM pl mX12_told (rK 1) [.ref 101, .int w]) := by
  obtain ⟨ns, nstr, nc, d, cs, fr, to, sc, kd, nr, tl, nm, cn, hC, hK⟩ := h
  have hW := hC.1
  have hMo := hC.2.1
  have hs := hC.2.2.1
  have nf : ∀ k : Nat, k < 7 → (nI k).toInt = k := by decide
  refine c_told w (fun hw => ?_) (fun hw => ?_) (fun hw => ?_) (fun hw => ?_) (fun hw => ?_) (fun hw => ?_) (fun hw => ?_) (fun hw => ?_)
  · exact ⟨_, _, _, rfl, rfl, rfl, m_told w (fun _ => ⟨_, by rw [hMo.1, hW.2.1.1], rfl, rfl, Inv_of hC hK⟩) (fun q => absurd (hw.symm.trans q) (by decide)) (fun q => absurd (hw.symm.trans q) (by decide)) (fun q => absurd (hw.symm.trans q) (by decide)) (fun q => absurd (hw.symm.trans q) (by decide)) (fun q => absurd (hw.symm.trans q) (by decide)) (fun q => absurd (hw.symm.trans q) (by decide)) (fun q => absurd q (by rw [hw]; decide))⟩
  · exact ⟨_, _, _, rfl, rfl, rfl, m_told w (fun q => absurd (hw.symm.trans q) (by decide)) (fun _ => ⟨_, by rw [hMo.2.1, hW.2.2.1.1], rfl, rfl, Inv_of hC hK⟩) (fun q => absurd (hw.symm.trans q) (by decide)) (fun q => absurd (hw.symm.trans q) (by decide)) (fun q => absurd (hw.symm.trans q) (by decide)) (fun q => absurd (hw.symm.trans q) (by decide)) (fun q => absurd (hw.symm.trans q) (by decide)) (fun q => absurd q (by rw [hw]; decide))⟩
  · exact ⟨_, _, _, rfl, rfl, rfl, m_told w (fun q => absurd (hw.symm.trans q) (by decide)) (fun q => absurd (hw.symm.trans q) (by decide)) (fun _ => ⟨_, by rw [hMo.2.2.1, hW.1.1], rfl, rfl, Inv_of hC hK⟩) (fun q => absurd (hw.symm.trans q) (by decide)) (fun q => absurd (hw.symm.trans q) (by decide)) (fun q => absurd (hw.symm.trans q) (by decide)) (fun q => absurd (hw.symm.trans q) (by decide)) (fun q => absurd q (by rw [hw]; decide))⟩
  · exact ⟨_, _, _, rfl, rfl, rfl, m_told w (fun q => absurd (hw.symm.trans q) (by decide)) (fun q => absurd (hw.symm.trans q) (by decide)) (fun q => absurd (hw.symm.trans q) (by decide)) (fun _ => ⟨_, by rw [hMo.2.2.2.1, hW.2.2.2.2.2.2.1.1], rfl, rfl, Inv_of hC hK⟩) (fun q => absurd (hw.symm.trans q) (by decide)) (fun q => absurd (hw.symm.trans q) (by decide)) (fun q => absurd (hw.symm.trans q) (by decide)) (fun q => absurd q (by rw [hw]; decide))⟩
  · exact ⟨_, _, _, rfl, rfl, rfl, m_told w (fun q => absurd (hw.symm.trans q) (by decide)) (fun q => absurd (hw.symm.trans q) (by decide)) (fun q => absurd (hw.symm.trans q) (by decide)) (fun q => absurd (hw.symm.trans q) (by decide)) (fun _ => ⟨_, by rw [hMo.2.2.2.2.1, hs.1], rfl, rfl, Inv_of hC hK⟩) (fun q => absurd (hw.symm.trans q) (by decide)) (fun q => absurd (hw.symm.trans q) (by decide)) (fun q => absurd q (by rw [hw]; decide))⟩
  · exact ⟨_, _, _, rfl, rfl, rfl, m_told w (fun q => absurd (hw.symm.trans q) (by decide)) (fun q => absurd (hw.symm.trans q) (by decide)) (fun q => absurd (hw.symm.trans q) (by decide)) (fun q => absurd (hw.symm.trans q) (by decide)) (fun q => absurd (hw.symm.trans q) (by decide)) (fun _ => ⟨_, by rw [hMo.2.2.2.2.2.1, hs.2.2.1], rfl, rfl, Inv_of hC hK⟩) (fun q => absurd (hw.symm.trans q) (by decide)) (fun q => absurd q (by rw [hw]; decide))⟩
  · exact ⟨_, _, _, rfl, rfl, rfl, m_told w (fun q => absurd (hw.symm.trans q) (by decide)) (fun q => absurd (hw.symm.trans q) (by decide)) (fun q => absurd (hw.symm.trans q) (by decide)) (fun q => absurd (hw.symm.trans q) (by decide)) (fun q => absurd (hw.symm.trans q) (by decide)) (fun q => absurd (hw.symm.trans q) (by decide)) (fun _ => ⟨_, by rw [hMo.2.2.2.2.2.2.1], rfl, rfl, Inv_of hC hK⟩) (fun q => absurd q (by rw [hw]; decide))⟩
  · refine ⟨_, _, _, rfl, rfl, rfl, m_told w (fun q => ?_) (fun q => ?_) (fun q => ?_) (fun q => ?_) (fun q => ?_) (fun q => ?_) (fun q => ?_) (fun _ => ⟨_, rfl, rfl, rfl, Inv_f2 hC hK⟩)⟩
    all_goals (rw [q] at hw; exact absurd hw (by decide))
/-- one corner more -/
theorem Core_cor {I J : Nat → Nat → Int32} {sp : Nat → Nat} {ns nstr nc : Nat} {d : pD} {cs : Nat → pC} {fr to sc kd : Nat → Nat} {nr tl nm : Nat} {cn : Nat → Nat} (h : Core I sp ns nstr nc d cs fr to sc kd nr tl nm cn) (h8 : nc < 8) (hq : ∀ q i, coreC q i → ¬ (q = 2 ∧ i = 0) → ¬ (q = 101 ∧ i = 0) → J q i = I q i) (h6 : J 101 6 = J 0 10) (h1 : J 2 0 = nI (nc + 1)) (h2 : J 101 0 = nI (nc + 1)) (hm : J 2 8 = 0) : Core J sp ns nstr (nc + 1) d cs fr to sc kd nr tl nm cn := by
  have hC := Core_fr (J := iu (iu J 2 0 (I 2 0)) 101 0 (I 101 0)) h (fun q i hc => by
    by_cases a : q = 101 ∧ i = 0
    · obtain ⟨rfl, rfl⟩ := a; rw [iu_eq]
    · rw [iu_ne (by omega)]
      by_cases b : q = 2 ∧ i = 0
      · obtain ⟨rfl, rfl⟩ := b; rw [iu_eq]
      · rw [iu_ne (by omega)]; exact hq q i hc b a) (by rw [iu_ne (by omega), iu_ne (by omega), iu_ne (by omega), iu_ne (by omega)]; exact h6) (fun q => absurd (by rw [iu_ne (by omega), iu_ne (by omega)]; exact hm) q)
  have u : ∀ q i, ¬ (q = 2 ∧ i = 0) → ¬ (q = 101 ∧ i = 0) → iu (iu J 2 0 (I 2 0)) 101 0 (I 101 0) q i = J q i := fun q i a b => (iu_ne (by omega)).trans (iu_ne (by omega))
  have v : ∀ q, q ≠ 2 → q ≠ 101 → iu (iu J 2 0 (I 2 0)) 101 0 (I 101 0) q = J q := fun q a b => funext fun i => u q i (by omega) (by omega)
  obtain ⟨w, b, c, e, f, g, k, m, n, p, r, t⟩ := hC
  obtain ⟨w1, w2, w3, w4, w5, w6, w7, w8, w9, w10, w11, w12⟩ := w
  have hs4 := w1.2
  rw [v 1 (by omega) (by omega)] at w1 w7 w10
  refine ⟨⟨w1, ⟨h1, by omega⟩, ⟨(u 2 1 (by omega) (by omega)).symm.trans w3.1, w3.2⟩, fun s hs => ?_, fun s hs => ?_, ?_, w7, w8, fun x hx => ?_, w10, fun s hs => ?_, fun q => absurd hm q⟩, ?_, ?_, ?_, fun s hs => ?_, fun s hs => ?_, fun x hx => ?_, m, ?_, fun j hj => ?_, ?_, ?_⟩
  · have := w4 s hs
    rw [v 3 (by omega) (by omega), v 4 (by omega) (by omega)] at this
    exact ⟨by omega, by omega, this.2.2⟩
  · have := w5 s hs
    rw [v 5 (by omega) (by omega)] at this
    exact ⟨this.1, this.2.1, by omega, by omega⟩
  · rw [v 5 (by omega) (by omega), v 6 (by omega) (by omega)] at w6; exact w6
  · have h44 := w8 x (by omega)
    have := w9 x hx
    rw [v (sp x) (by omega) (by omega)] at this
    exact ⟨by omega, this.2⟩
  · have := w11 s hs
    rw [v (28 + 4 * s) (by omega) (by omega), v 1 (by omega) (by omega)] at this
    exact ⟨by omega, this.2⟩
  · refine ⟨h2, (u 101 1 (by omega) (by omega)).symm.trans b.2.1, (u 101 2 (by omega) (by omega)).symm.trans b.2.2.1, (u 101 3 (by omega) (by omega)).symm.trans b.2.2.2.1, (u 101 4 (by omega) (by omega)).symm.trans b.2.2.2.2.1, (u 101 5 (by omega) (by omega)).symm.trans b.2.2.2.2.2.1, h6, (u 101 7 (by omega) (by omega)).symm.trans b.2.2.2.2.2.2.2.1, ?_, ?_⟩
    · rw [← u 101 8 (by omega) (by omega), ← u 1 7 (by omega) (by omega)]; exact b.2.2.2.2.2.2.2.2.1
    · rw [← u 101 9 (by omega) (by omega), ← u 1 8 (by omega) (by omega)]; exact b.2.2.2.2.2.2.2.2.2
  · rw [v 75 (by omega) (by omega)] at c; exact c
  · rw [v 102 (by omega) (by omega), v 103 (by omega) (by omega), v 104 (by omega) (by omega), v 105 (by omega) (by omega), v 5 (by omega) (by omega), v 6 (by omega) (by omega)] at e; exact e
  · have := f s hs
    rw [v 106 (by omega) (by omega), v 107 (by omega) (by omega), v 108 (by omega) (by omega), v 109 (by omega) (by omega), v 26 (by omega) (by omega), v (28 + 4 * s) (by omega) (by omega)] at this; exact this
  · have := g s hs
    rw [v 26 (by omega) (by omega), v (28 + 4 * s) (by omega) (by omega)] at this; exact this
  · have h44 := w8 x (by omega)
    have := k x hx
    rw [v (sp x) (by omega) (by omega), v 110 (by omega) (by omega), v 111 (by omega) (by omega), v 112 (by omega) (by omega), v 113 (by omega) (by omega)] at this; exact this
  · rw [v 114 (by omega) (by omega), v 115 (by omega) (by omega), v 116 (by omega) (by omega), v 117 (by omega) (by omega), v 76 (by omega) (by omega), v 77 (by omega) (by omega), v 78 (by omega) (by omega), v 79 (by omega) (by omega)] at n; exact n
  · have := p j hj
    rw [v (93 + 2 * j) (by omega) (by omega), v (94 + 2 * j) (by omega) (by omega), v 118 (by omega) (by omega), v 119 (by omega) (by omega), v 120 (by omega) (by omega)] at this; exact this
  · rw [v 90 (by omega) (by omega), v 144 (by omega) (by omega), v 91 (by omega) (by omega)] at r
    exact ⟨r.1, r.2.1, (u 101 57 (by omega) (by omega)).symm.trans r.2.2.1, r.2.2.2⟩
  · rw [v 1 (by omega) (by omega)] at t; exact t
theorem k_corner  (h : Inv I sp pl) : aRuns mX11_corner (rK 1) [.ref 0] (nn pl) (MM I sp pl) (KM pl mX12_corner (rK 1) [.ref 101]) := by
  obtain ⟨ns, nstr, nc, d, cs, fr, to, sc, kd, nr, tl, nm, cn, hC, hK⟩ := h
  have hW := hC.1
  have hMo := hC.2.1
  have h8 := hW.2.1.2
  have e1 : I 2 0 = nI nc := hW.2.1.1
  have e2 : I 101 0 = nI nc := hMo.1
  have key : ∀ n, n ≤ 8 → (nI n < 8 ↔ n < 8) ∧ (nI n = 8 ↔ n = 8) := by decide
  have hk := key nc h8
  refine c_corner (fun h1 => ?_) (fun h1 => ?_)
  · refine ⟨_, _, _, rfl, rfl, rfl, m_corner (fun h2 => ⟨_, rfl, rfl, rfl, Inv_f2 hC hK⟩) (fun h2 => ?_)⟩
    have h3 : ¬ I 101 0 = 8 := fun q => h2 ((iu_ne (by omega)).trans q)
    rw [e1, hk.1] at h1
    rw [e2, hk.2] at h3
    omega
  · rw [e1, hk.1] at h1
    refine ⟨_, _, _, rfl, rfl, rfl, m_corner (fun h2 => ?_) (fun h2 => ?_)⟩
    · have h3 : I 101 0 = 8 := by rw [iu_ne (by omega), iu_ne (by omega)] at h2; exact h2
      rw [e2, hk.2] at h3
      omega
    · refine ⟨_, ?_, rfl, rfl, ?_⟩
      · rw [iu_ne (by omega), iu_ne (by omega), e1, e2]
      · refine ⟨ns, nstr, nc + 1, d, cs, fr, to, sc, kd, nr, tl, nm, cn, Core_cor hC (by omega) (fun q i hc a b => ?_) ?_ ?_ ?_ ?_, Cach_fr hW hK (fun q i hc => ?_)⟩
        · rw [iu_ne (by omega), iu_ne (by omega)]
          by_cases x : q = 2 ∧ i = 8
          · unfold coreC at hc; omega
          · exact iu_ne (by omega)
        · rw [iu_ne (by omega), iu_ne (by omega), iu_ne (by omega), iu_ne (by omega), iu_ne (by omega), iu_ne (by omega)]; exact hMo.2.2.2.2.2.2.1
        · rw [iu_ne (by omega), iu_eq, e1, nI_1]
        · rw [iu_eq, iu_ne (by omega), iu_ne (by omega), e2, nI_1]
        · rw [iu_ne (by omega), iu_ne (by omega), iu_eq]
        · unfold cachC at hc
          rw [iu_ne (by omega), iu_ne (by omega), iu_ne (by omega)]
end K1
