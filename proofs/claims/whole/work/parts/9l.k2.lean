theorem fnd_o {I : Nat → Nat → Int32} {q i : Nat} (h : q ≠ 0 ∨ i ≠ 10) : fnd I q i = I q i := iu_ne h
theorem fndM_o {I : Nat → Nat → Int32} {q i : Nat} (h : q ≠ 101 ∨ i ≠ 6) : fndM I q i = I q i := iu_ne h
section K2
variable {I : Nat → Nat → Int32} {sp : Nat → Nat} {pl : Bool}
theorem k_as (v k : Int32) (h : Inv I sp pl) : aRuns mX11_as (rK 2) [.ref 0, .int v, .int k] (nn pl) (MM I sp pl) (KM pl mX12_as (rK 2) [.ref 101, .int v, .int k]) := by
  obtain ⟨ns, nstr, nc, d, cs, fr, to, sc, kd, nr, tl, nm, cn, hC, hK⟩ := h
  have hW := hC.1
  have hMo := hC.2.1
  have h8 := hW.2.1.2
  have hs4 := hW.1.2
  have h10 := hW.2.2.2.2.2.2.1.2
  have hsp := hW.2.2.2.2.2.2.2.1
  have hstr := hW.2.2.1.2
  have e14 : I 101 2 = I 1 4 := hMo.2.2.1.trans hW.1.1.symm
  refine c_as v k ns hW.1.1 hs4 kd (fun s hs => ⟨(hC.2.2.2.2.2.1 s hs).1, (hC.2.2.2.2.2.1 s hs).2.1⟩) (fun hb => ?_) (fun s hs hv hk hu => ?_) (fun s hs hv hk hu => ?_)
  · refine ⟨_, _, _, rfl, rfl, rfl, m_as v k ns ((iu_ne (by omega)).trans hMo.2.2.1) hs4 (fun _ => ⟨_, rfl, rfl, rfl, Inv_f2 hC hK⟩) (fun s hs hv hk _ => ?_) (fun s hs hv hk _ => ?_)⟩
    all_goals (exfalso; rcases hb with q | q; (rw [hv, hW.1.1] at q; exact wi_nx (by omega) hs q); exact hk q)
  · refine ⟨_, _, _, rfl, rfl, rfl, m_as v k ns hMo.2.2.1 hs4 (fun hb => ?_) (fun s' hs' hv' hk' _ => ⟨_, by rw [← hv, hv'], rfl, rfl, Inv_of hC hK⟩) (fun s' hs' hv' hk' hu' => ?_)⟩
    · exfalso; rcases hb with q | q
      · rw [hv, hMo.2.2.1] at q; exact wi_nx (by omega) hs q
      · exact hk q
    · have e : s' = s := (nI_eq (by omega) (by omega)).mp (hv'.symm.trans hv)
      rw [e, (hC.2.2.2.2.1 s (by omega)).1] at hu'
      exact absurd hu' hu
  · refine ⟨_, _, _, rfl, rfl, rfl, m_as v k ns ((iu_ne (by omega)).trans hMo.2.2.1) hs4 (fun hb => ?_) (fun s' hs' hv' hk' hu' => ?_) (fun s' hs' hv' hk' hu' => ⟨_, rfl, rfl, rfl, Inv_f2 hC hK⟩)⟩
    · exfalso; rcases hb with q | q
      · rw [hv, fnd_o (by omega), hMo.2.2.1] at q; exact wi_nx (by omega) hs q
      · exact hk q
    · have e : s' = s := (nI_eq (by omega) (by omega)).mp (hv'.symm.trans hv)
      rw [e, fnd_o (by omega), (hC.2.2.2.2.1 s (by omega)).1] at hu'
      exact absurd hu hu'
theorem cntS_ones {f : Nat → Int32} {x : Int32} : ∀ n, n ≤ 10 → cntS f x n = onesB (setOf f x n) 10 := by
  have gen : ∀ n k, k ≤ n → n ≤ 10 → onesB (setOf f x n) k = cntS f x k := by
    intro n k
    induction k with
    | zero => intro _ _; rfl
    | succ k ih =>
      intro hk hn
      unfold onesB cntS
      rw [ih (by omega) hn, setOf_tb]
      by_cases q : f k = x
      · rw [if_pos q, decide_eq_true (show k < n by omega), decide_eq_true q]; rfl
      · rw [if_neg q, decide_eq_false q, Bool.and_false]
        exact Int32.add_zero _
  intro n hn
  have tail : ∀ k, n ≤ k → k ≤ 10 → onesB (setOf f x n) k = cntS f x n := by
    intro k
    induction k with
    | zero => intro h1 h2; rw [show n = 0 by omega]; rfl
    | succ k ih =>
      intro h1 h2
      by_cases e : n = k + 1
      · rw [← e]; exact gen n n (Nat.le_refl _) hn
      · unfold onesB
        rw [ih (by omega) (by omega), setOf_tb, decide_eq_false (show ¬ k < n by omega), Bool.false_and]
        exact Int32.add_zero _
  exact (tail 10 hn (Nat.le_refl _)).symm
theorem sumS_sumB {f g : Nat → Int32} {x : Int32} {n : Nat} : sumS f g x n = sumB (setOf f x n) g n := by
  have gen : ∀ k, k ≤ n → sumB (setOf f x n) g k = sumS f g x k := by
    intro k
    induction k with
    | zero => intro _; rfl
    | succ k ih =>
      intro hk
      rw [sumB_s, ih (by omega), setOf_tb, show sumS f g x (k + 1) = if f k = x then sumS f g x k + g k else sumS f g x k from rfl]
      by_cases q : f k = x
      · rw [if_pos q, decide_eq_true (show k < n by omega), decide_eq_true q]; rfl
      · rw [if_neg q, decide_eq_false q, Bool.and_false]
        exact Int32.add_zero _
  exact (gen n (Nat.le_refl _)).symm
theorem k_of (v w : Int32) (h : Inv I sp pl) : aRuns mX11_of (rK 2) [.ref 0, .int v, .int w] (nn pl) (MM I sp pl) (KM pl mX12_of (rK 2) [.ref 101, .int v, .int w]) := by
  obtain ⟨ns, nstr, nc, d, cs, fr, to, sc, kd, nr, tl, nm, cn, hC, hK⟩ := h
  have hW := hC.1
  have hMo := hC.2.1
  have h8 := hW.2.1.2
  have hs4 := hW.1.2
  have h10 := hW.2.2.2.2.2.2.1.2
  have hsp := hW.2.2.2.2.2.2.2.1
  have hstr := hW.2.2.1.2
  have hset : ∀ s, setOf (I 110) (nI s) d.1 = setOf (fun k => I (sp k) 0) (nI s) d.1 := fun s => setOf_congr d.1 (fun k hk => (hC.2.2.2.2.2.2.1 k hk).2.2.1)
  have hsum : ∀ s, sumB (setOf (I 110) (nI s) d.1) (I 112) d.1 = sumS (fun k => I (sp k) 0) (fun k => I (sp k) 2) (nI s) d.1 := fun s => by
    rw [sumS_sumB, hset s]
    exact sumB_bits d.1 (fun k hk _ => (hC.2.2.2.2.2.2.1 k hk).2.2.2.2.1)
  refine c_of v w ns d.1 hW.1.1 hs4 hW.2.2.2.2.2.2.1.1 h10 hsp (fun hb => ?_) (fun s hs hv hw => ?_) (fun s hs hv hw => ?_) (fun s hs hv hw => ?_) (fun s hs hv hw => ?_) (fun s hs hv hw => ?_) (fun s hs hv hw => ?_) (fun s hs hv hw => ?_) (fun s hs hv hw => ?_)
  · refine ⟨_, _, _, rfl, rfl, rfl, m_of v w ns d.1 ((iu_ne (by omega)).trans hMo.2.2.1) hs4 ((iu_ne (by omega)).trans hMo.2.2.2.1) h10 (fun _ => ⟨_, rfl, rfl, rfl, Inv_f2 hC hK⟩) (fun s hs hv _ => ?_) (fun s hs hv _ => ?_) (fun s hs hv _ => ?_) (fun s hs hv _ => ?_) (fun s hs hv _ => ?_) (fun s hs hv _ => ?_) (fun s hs hv _ => ?_) (fun s hs hv _ => ?_)⟩
    all_goals (exfalso; rw [hv, hW.1.1] at hb; exact wi_nx (by omega) hs hb)
  · refine ⟨_, _, _, rfl, rfl, rfl, m_of v w ns d.1 hMo.2.2.1 hs4 hMo.2.2.2.1 h10 (fun q => ?_) (fun s' hs' hv' _ => ⟨_, by have e : s' = s := (nI_eq (by omega) (by omega)).mp (hv'.symm.trans hv); rw [e]; rw [(hC.2.2.2.2.1 s (by omega)).1], rfl, rfl, Inv_of hC hK⟩) (fun s' hs' hv' q => absurd (hw.symm.trans q) (by decide)) (fun s' hs' hv' q => absurd (hw.symm.trans q) (by decide)) (fun s' hs' hv' q => absurd (hw.symm.trans q) (by decide)) (fun s' hs' hv' q => absurd (hw.symm.trans q) (by decide)) (fun s' hs' hv' q => absurd (hw.symm.trans q) (by decide)) (fun s' hs' hv' q => absurd (hw.symm.trans q) (by decide)) (fun s' hs' hv' q => absurd q (by rw [hw]; decide))⟩
    exfalso; rw [hv, hMo.2.2.1] at q; exact wi_nx (by omega) hs q
  · refine ⟨_, _, _, rfl, rfl, rfl, m_of v w ns d.1 hMo.2.2.1 hs4 hMo.2.2.2.1 h10 (fun q => ?_) (fun s' hs' hv' q => absurd (hw.symm.trans q) (by decide)) (fun s' hs' hv' _ => ⟨_, by have e : s' = s := (nI_eq (by omega) (by omega)).mp (hv'.symm.trans hv); rw [e]; rw [(hC.2.2.2.2.1 s (by omega)).2.1], rfl, rfl, Inv_of hC hK⟩) (fun s' hs' hv' q => absurd (hw.symm.trans q) (by decide)) (fun s' hs' hv' q => absurd (hw.symm.trans q) (by decide)) (fun s' hs' hv' q => absurd (hw.symm.trans q) (by decide)) (fun s' hs' hv' q => absurd (hw.symm.trans q) (by decide)) (fun s' hs' hv' q => absurd (hw.symm.trans q) (by decide)) (fun s' hs' hv' q => absurd q (by rw [hw]; decide))⟩
    exfalso; rw [hv, hMo.2.2.1] at q; exact wi_nx (by omega) hs q
  · refine ⟨_, _, _, rfl, rfl, rfl, m_of v w ns d.1 hMo.2.2.1 hs4 hMo.2.2.2.1 h10 (fun q => ?_) (fun s' hs' hv' q => absurd (hw.symm.trans q) (by decide)) (fun s' hs' hv' q => absurd (hw.symm.trans q) (by decide)) (fun s' hs' hv' _ => ⟨_, by have e : s' = s := (nI_eq (by omega) (by omega)).mp (hv'.symm.trans hv); rw [e]; rw [(hC.2.2.2.2.1 s (by omega)).2.2.1], rfl, rfl, Inv_of hC hK⟩) (fun s' hs' hv' q => absurd (hw.symm.trans q) (by decide)) (fun s' hs' hv' q => absurd (hw.symm.trans q) (by decide)) (fun s' hs' hv' q => absurd (hw.symm.trans q) (by decide)) (fun s' hs' hv' q => absurd (hw.symm.trans q) (by decide)) (fun s' hs' hv' q => absurd q (by rw [hw]; decide))⟩
    exfalso; rw [hv, hMo.2.2.1] at q; exact wi_nx (by omega) hs q
  · refine ⟨_, _, _, rfl, rfl, rfl, m_of v w ns d.1 hMo.2.2.1 hs4 hMo.2.2.2.1 h10 (fun q => ?_) (fun s' hs' hv' q => absurd (hw.symm.trans q) (by decide)) (fun s' hs' hv' q => absurd (hw.symm.trans q) (by decide)) (fun s' hs' hv' q => absurd (hw.symm.trans q) (by decide)) (fun s' hs' hv' _ => ⟨_, by have e : s' = s := (nI_eq (by omega) (by omega)).mp (hv'.symm.trans hv); rw [e]; rw [(hC.2.2.2.2.1 s (by omega)).2.2.2], rfl, rfl, Inv_of hC hK⟩) (fun s' hs' hv' q => absurd (hw.symm.trans q) (by decide)) (fun s' hs' hv' q => absurd (hw.symm.trans q) (by decide)) (fun s' hs' hv' q => absurd (hw.symm.trans q) (by decide)) (fun s' hs' hv' q => absurd q (by rw [hw]; decide))⟩
    exfalso; rw [hv, hMo.2.2.1] at q; exact wi_nx (by omega) hs q
  · refine ⟨_, _, _, rfl, rfl, rfl, m_of v w ns d.1 hMo.2.2.1 hs4 hMo.2.2.2.1 h10 (fun q => ?_) (fun s' hs' hv' q => absurd (hw.symm.trans q) (by decide)) (fun s' hs' hv' q => absurd (hw.symm.trans q) (by decide)) (fun s' hs' hv' q => absurd (hw.symm.trans q) (by decide)) (fun s' hs' hv' q => absurd (hw.symm.trans q) (by decide)) (fun s' hs' hv' _ => ⟨_, by have e : s' = s := (nI_eq (by omega) (by omega)).mp (hv'.symm.trans hv); rw [e]; rw [hset s, cntS_ones d.1 h10], rfl, rfl, Inv_of hC hK⟩) (fun s' hs' hv' q => absurd (hw.symm.trans q) (by decide)) (fun s' hs' hv' q => absurd (hw.symm.trans q) (by decide)) (fun s' hs' hv' q => absurd q (by rw [hw]; decide))⟩
    exfalso; rw [hv, hMo.2.2.1] at q; exact wi_nx (by omega) hs q
  · refine ⟨_, _, _, rfl, rfl, rfl, m_of v w ns d.1 hMo.2.2.1 hs4 hMo.2.2.2.1 h10 (fun q => ?_) (fun s' hs' hv' q => absurd (hw.symm.trans q) (by decide)) (fun s' hs' hv' q => absurd (hw.symm.trans q) (by decide)) (fun s' hs' hv' q => absurd (hw.symm.trans q) (by decide)) (fun s' hs' hv' q => absurd (hw.symm.trans q) (by decide)) (fun s' hs' hv' q => absurd (hw.symm.trans q) (by decide)) (fun s' hs' hv' _ => ⟨_, by have e : s' = s := (nI_eq (by omega) (by omega)).mp (hv'.symm.trans hv); rw [e]; rw [hsum s], rfl, rfl, Inv_of hC hK⟩) (fun s' hs' hv' q => absurd (hw.symm.trans q) (by decide)) (fun s' hs' hv' q => absurd q (by rw [hw]; decide))⟩
    exfalso; rw [hv, hMo.2.2.1] at q; exact wi_nx (by omega) hs q
  · refine ⟨_, _, _, rfl, rfl, rfl, m_of v w ns d.1 hMo.2.2.1 hs4 hMo.2.2.2.1 h10 (fun q => ?_) (fun s' hs' hv' q => absurd (hw.symm.trans q) (by decide)) (fun s' hs' hv' q => absurd (hw.symm.trans q) (by decide)) (fun s' hs' hv' q => absurd (hw.symm.trans q) (by decide)) (fun s' hs' hv' q => absurd (hw.symm.trans q) (by decide)) (fun s' hs' hv' q => absurd (hw.symm.trans q) (by decide)) (fun s' hs' hv' q => absurd (hw.symm.trans q) (by decide)) (fun s' hs' hv' _ => ⟨_, by have e : s' = s := (nI_eq (by omega) (by omega)).mp (hv'.symm.trans hv); rw [e]; simp only [(hC.2.2.2.2.1 s (by omega)).1, hMo.2.2.2.2.2.2.2.2.1], rfl, rfl, Inv_of hC hK⟩) (fun s' hs' hv' q => absurd q (by rw [hw]; decide))⟩
    exfalso; rw [hv, hMo.2.2.1] at q; exact wi_nx (by omega) hs q
  · refine ⟨_, _, _, rfl, rfl, rfl, m_of v w ns d.1 ((iu_ne (by omega)).trans hMo.2.2.1) hs4 ((iu_ne (by omega)).trans hMo.2.2.2.1) h10 (fun _ => ⟨_, rfl, rfl, rfl, Inv_f2 hC hK⟩) (fun s' hs' hv' q => ?_) (fun s' hs' hv' q => ?_) (fun s' hs' hv' q => ?_) (fun s' hs' hv' q => ?_) (fun s' hs' hv' q => ?_) (fun s' hs' hv' q => ?_) (fun s' hs' hv' q => ?_) (fun s' hs' hv' q => ⟨_, rfl, rfl, rfl, Inv_f2 hC hK⟩)⟩
    all_goals (rw [q] at hw; exact absurd hw (by decide))
theorem k_allowed (v b : Int32) (h : Inv I sp pl) : aRuns mX11_allowed (rK 2) [.ref 0, .int v, .int b] (nn pl) (MM I sp pl) (KM pl mX12_allowed (rK 2) [.ref 101, .int v, .int b]) := by
  obtain ⟨ns, nstr, nc, d, cs, fr, to, sc, kd, nr, tl, nm, cn, hC, hK⟩ := h
  have hW := hC.1
  have hMo := hC.2.1
  have h8 := hW.2.1.2
  have hs4 := hW.1.2
  have h10 := hW.2.2.2.2.2.2.1.2
  have hsp := hW.2.2.2.2.2.2.2.1
  have hstr := hW.2.2.1.2
  have hr := hC.2.2.1
  have hk := hC.2.2.2.2.2.2.2.2.1
  refine c_allowed v b ns nr hW.1.1 hs4 kd (fun s hs => ⟨(hC.2.2.2.2.2.1 s hs).1, (hC.2.2.2.2.2.1 s hs).2.1⟩) hr.1 hr.2.1 hk.2.2.2.2 (fun hb => ?_) (fun s hs hv hb => ?_)
  · refine ⟨_, _, _, rfl, rfl, rfl, m_allowed v b ns nr ((iu_ne (by omega)).trans hMo.2.2.1) hs4 ((iu_ne (by omega)).trans hMo.2.2.2.2.1) hr.2.1 (fun _ => ⟨_, rfl, rfl, rfl, Inv_f2 hC hK⟩) (fun s hs hv hb' => ?_)⟩
    exfalso; rcases hb with q | q
    · rw [hv, hW.1.1] at q; exact wi_nx (by omega) hs q
    · exact hb' q
  · refine ⟨_, _, _, rfl, rfl, rfl, m_allowed v b ns nr hMo.2.2.1 hs4 hMo.2.2.2.2.1 hr.2.1 (fun hb' => ?_) (fun s' hs' hv' _ => ⟨_, ?_, rfl, rfl, Inv_of hC hK⟩)⟩
    · exfalso; rcases hb' with q | q
      · rw [hv, hMo.2.2.1] at q; exact wi_nx (by omega) hs q
      · exact hb q
    · have e : s' = s := (nI_eq (by omega) (by omega)).mp (hv'.symm.trans hv)
      rw [e, (hC.2.2.2.2.1 s (by omega)).1, hk.1, hk.2.1, hk.2.2.1]
theorem k_comes (r : Int32) (h : Inv I sp pl) : aRuns mX11_comes (rK 1) [.ref 0, .int r] (nn pl) (MM I sp pl) (KM pl mX12_comes (rK 1) [.ref 101, .int r]) := by
  obtain ⟨ns, nstr, nc, d, cs, fr, to, sc, kd, nr, tl, nm, cn, hC, hK⟩ := h
  have hW := hC.1
  have hMo := hC.2.1
  have h8 := hW.2.1.2
  have hs4 := hW.1.2
  have h10 := hW.2.2.2.2.2.2.1.2
  have hsp := hW.2.2.2.2.2.2.2.1
  have hstr := hW.2.2.1.2
  obtain ⟨n1, n2, n3, n4⟩ := hC.2.2.2.2.2.2.2.2.2.2.1
  refine c_comes r nm n1 n2 (fun hb => ?_) (fun h0 hn => ?_) (fun j hj hr => ?_)
  · refine ⟨_, _, _, rfl, rfl, rfl, m_comes r nm ((iu_ne (by omega)).trans n3) n2 (fun _ => ⟨_, rfl, rfl, rfl, Inv_f2 hC hK⟩) (fun h0 _ => ?_) (fun j hj hr => ?_)⟩
    · exact absurd hb (Int32.not_lt.mpr h0)
    · rw [hr] at hb; exact absurd hb (nI_pos (by omega))
  · refine ⟨_, _, _, rfl, rfl, rfl, m_comes r nm ((iu_ne (by omega)).trans n3) n2 (fun hb => absurd hb (Int32.not_lt.mpr h0)) (fun _ _ => ⟨_, rfl, rfl, rfl, Inv_f2 hC hK⟩) (fun j hj hr => ?_)⟩
    rw [n1, hr] at hn
    have := (nI_leI (by omega) (by omega)).mp hn
    omega
  · refine ⟨_, _, _, rfl, rfl, rfl, m_comes r nm n3 n2 (fun hb => ?_) (fun _ hn => ?_) (fun j' hj' hr' => ⟨_, ?_, rfl, rfl, Inv_of hC hK⟩)⟩
    · rw [hr] at hb; exact absurd hb (nI_pos (by omega))
    · rw [n3, hr] at hn
      have := (nI_leI (by omega) (by omega)).mp hn
      omega
    · have e : j' = j := (nI_eq (by omega) (by omega)).mp (hr'.symm.trans hr)
      rw [e, n4 j hj]
end K2
