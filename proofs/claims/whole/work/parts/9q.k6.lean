section K6
variable {I : Nat → Nat → Int32} {sp : Nat → Nat} {pl : Bool}
theorem wi_b {x lo hi : Int32} (h : ¬ wi x lo hi = 0) : lo.toInt ≤ x.toInt ∧ x.toInt ≤ hi.toInt := by
  have := wi_1 h
  rw [Int32.le_iff_toInt_le, Int32.le_iff_toInt_le] at this
  exact this
theorem k_terms (a b c : Int32) (h : Inv I sp pl) : aRuns mX11_terms (rK 1) [.ref 0, .int a, .int b, .int c] (nn pl) (MM I sp pl) (KM pl mX12_terms (rK 1) [.ref 101, .int a, .int b, .int c]) := by
  obtain ⟨ns, nstr, nc, d, cs, fr, to, sc, kd, nr, tl, nm, cn, hC, hK⟩ := h
  have hW := hC.1
  have hMo := hC.2.1
  have h8 := hW.2.1.2
  have hs4 := hW.1.2
  have h10 := hW.2.2.2.2.2.2.1.2
  have hsp := hW.2.2.2.2.2.2.2.1
  have hstr := hW.2.2.1.2
  refine c_terms a b c (fun hb => ?_) (fun hg => ?_)
  · refine ⟨_, _, _, rfl, rfl, rfl, m_terms a b c (fun _ => ⟨_, rfl, rfl, rfl, Inv_f2 hC hK⟩) (fun hg => ?_)⟩
    exfalso; rcases hb with q | q | q; exact hg.1 q; exact hg.2.1 q; exact hg.2.2 q
  · refine ⟨_, _, _, rfl, rfl, rfl, m_terms a b c (fun hb => ?_) (fun _ => ⟨_, rfl, rfl, rfl, ?_⟩)⟩
    · exfalso; rcases hb with q | q | q; exact hg.1 q; exact hg.2.1 q; exact hg.2.2 q
    · have hb := wi_b hg.2.1
      have hc := wi_b hg.2.2
      have hb2 : 0 ≤ b.toInt ∧ b.toInt ≤ 90 := ⟨by have : (1 : Int32).toInt = 1 := rfl; omega, hb.2⟩
      exact Inv_terms hC hK a b c hb2 hc (fun q i hh => by (try unfold ano); (try unfold fall); (try unfold fnd); (try unfold fndM); repeat rw [iu_ne (by omega)]) (by (try unfold ano); (try unfold fall); (try unfold fnd); (try unfold fndM); repeat (first | rw [iu_eq] | rw [iu_ne (by omega)])) (by (try unfold ano); (try unfold fall); (try unfold fnd); (try unfold fndM); repeat (first | rw [iu_eq] | rw [iu_ne (by omega)])) (by (try unfold ano); (try unfold fall); (try unfold fnd); (try unfold fndM); repeat (first | rw [iu_eq] | rw [iu_ne (by omega)])) (by (try unfold ano); (try unfold fall); (try unfold fnd); (try unfold fndM); repeat (first | rw [iu_eq] | rw [iu_ne (by omega)])) (by (try unfold ano); (try unfold fall); (try unfold fnd); (try unfold fndM); repeat (first | rw [iu_eq] | rw [iu_ne (by omega)])) (by (try unfold ano); (try unfold fall); (try unfold fnd); (try unfold fndM); repeat (first | rw [iu_eq] | rw [iu_ne (by omega)])) (by (try unfold ano); (try unfold fall); (try unfold fnd); (try unfold fndM); repeat (first | rw [iu_eq] | rw [iu_ne (by omega)])) (by (try unfold ano); (try unfold fall); (try unfold fnd); (try unfold fndM); repeat (first | rw [iu_eq] | rw [iu_ne (by omega)])) (by (try unfold ano); (try unfold fall); (try unfold fnd); (try unfold fndM); repeat (first | rw [iu_eq] | rw [iu_ne (by omega)])) (by (try unfold ano); (try unfold fall); (try unfold fnd); (try unfold fndM); repeat (first | rw [iu_eq] | rw [iu_ne (by omega)])) (by (try unfold ano); (try unfold fall); (try unfold fnd); (try unfold fndM); repeat (first | rw [iu_eq] | rw [iu_ne (by omega)]))
theorem k_bell (v b : Int32) (h : Inv I sp pl) : aRuns mX11_bell (rK 2) [.ref 0, .int v, .int b] (nn pl) (MM I sp pl) (KM pl mX12_bell (rK 2) [.ref 101, .int v, .int b]) := by
  obtain ⟨ns, nstr, nc, d, cs, fr, to, sc, kd, nr, tl, nm, cn, hC, hK⟩ := h
  have hW := hC.1
  have hMo := hC.2.1
  have h8 := hW.2.1.2
  have hs4 := hW.1.2
  have h10 := hW.2.2.2.2.2.2.1.2
  have hsp := hW.2.2.2.2.2.2.2.1
  have hstr := hW.2.2.1.2
  have hE := hC.2.2.2.2.1
  refine c_bell v b ns hW.1.1 hs4 (fun hb => ?_) (fun s hs hv hb => ?_)
  · refine ⟨_, _, _, rfl, rfl, rfl, m_bell v b ns ((iu_ne (by omega)).trans hMo.2.2.1) hs4 (fun _ => ⟨_, rfl, rfl, rfl, Inv_f2 hC hK⟩) (fun s hs hv hb' => ?_)⟩
    exfalso; rcases hb with q | q
    · rw [hv, hW.1.1] at q; exact wi_nx (by omega) hs q
    · exact hb' q
  · refine ⟨_, _, _, rfl, rfl, rfl, ?_⟩
    refine m_bell v b ns ((iu_ne (by omega)).trans ((iu_ne (by omega)).trans (hMo.2.2.1))) hs4 (fun hb' => ?_) (fun s' hs' hv' _ => ⟨_, ?_, rfl, rfl, ?_⟩)
    · exfalso; rcases hb' with q | q
      · rw [hv] at q
        (try unfold ano at q); (try unfold fall at q); (try unfold fnd at q)
        repeat rw [iu_ne (by omega)] at q
        rw [hMo.2.2.1] at q; exact wi_nx (by omega) hs q
      · exact hb q
    · have e : s' = s := (nI_eq (by omega) (by omega)).mp (hv'.symm.trans hv)
      subst e
      (try unfold ano); (try unfold fall); (try unfold fnd); (try unfold fndM)
      repeat rw [iu_ne (by omega)]
      rw [(hE s' (by omega)).2.2.1]
    · have e : s' = s := (nI_eq (by omega) (by omega)).mp (hv'.symm.trans hv)
      subst e
      exact Inv_bell hC hK s' hs b (wi_b hb) (fun q i hh => by (try unfold ano); (try unfold fall); (try unfold fnd); (try unfold fndM); repeat rw [iu_ne (by omega)]) (by (try unfold ano); (try unfold fall); (try unfold fnd); (try unfold fndM); repeat (first | rw [iu_eq] | rw [iu_ne (by omega)])) (by (try unfold ano); (try unfold fall); (try unfold fnd); (try unfold fndM); repeat (first | rw [iu_eq] | rw [iu_ne (by omega)])) (by (try unfold ano); (try unfold fall); (try unfold fnd); (try unfold fndM); repeat (first | rw [iu_eq] | rw [iu_ne (by omega)]))
theorem k_wish (v b : Int32) (h : Inv I sp pl) : aRuns mX11_wish (rK 2) [.ref 0, .int v, .int b] (nn pl) (MM I sp pl) (KM pl mX12_wish (rK 2) [.ref 101, .int v, .int b]) := by
  obtain ⟨ns, nstr, nc, d, cs, fr, to, sc, kd, nr, tl, nm, cn, hC, hK⟩ := h
  have hW := hC.1
  have hMo := hC.2.1
  have h8 := hW.2.1.2
  have hs4 := hW.1.2
  have h10 := hW.2.2.2.2.2.2.1.2
  have hsp := hW.2.2.2.2.2.2.2.1
  have hstr := hW.2.2.1.2
  have hE := hC.2.2.2.2.1
  refine c_wish v b ns hW.1.1 hs4 (fun hb => ?_) (fun s hs hv hb => ?_)
  · refine ⟨_, _, _, rfl, rfl, rfl, m_wish v b ns ((iu_ne (by omega)).trans hMo.2.2.1) hs4 (fun _ => ⟨_, rfl, rfl, rfl, Inv_f2 hC hK⟩) (fun s hs hv hb' => ?_)⟩
    exfalso; rcases hb with q | q
    · rw [hv, hW.1.1] at q; exact wi_nx (by omega) hs q
    · exact hb' q
  · refine ⟨_, _, _, rfl, rfl, rfl, ?_⟩
    refine m_wish v b ns ((iu_ne (by omega)).trans ((iu_ne (by omega)).trans (hMo.2.2.1))) hs4 (fun hb' => ?_) (fun s' hs' hv' _ => ⟨_, ?_, rfl, rfl, ?_⟩)
    · exfalso; rcases hb' with q | q
      · rw [hv] at q
        (try unfold ano at q); (try unfold fall at q); (try unfold fnd at q)
        repeat rw [iu_ne (by omega)] at q
        rw [hMo.2.2.1] at q; exact wi_nx (by omega) hs q
      · exact hb q
    · have e : s' = s := (nI_eq (by omega) (by omega)).mp (hv'.symm.trans hv)
      subst e
      (try unfold ano); (try unfold fall); (try unfold fnd); (try unfold fndM)
      repeat rw [iu_ne (by omega)]
      rw [(hE s' (by omega)).2.2.2]
    · have e : s' = s := (nI_eq (by omega) (by omega)).mp (hv'.symm.trans hv)
      subst e
      exact Inv_wish hC hK s' hs b (wi_b hb) (fun q i hh => by (try unfold ano); (try unfold fall); (try unfold fnd); (try unfold fndM); repeat rw [iu_ne (by omega)]) (by (try unfold ano); (try unfold fall); (try unfold fnd); (try unfold fndM); repeat (first | rw [iu_eq] | rw [iu_ne (by omega)])) (by (try unfold ano); (try unfold fall); (try unfold fnd); (try unfold fndM); repeat (first | rw [iu_eq] | rw [iu_ne (by omega)])) (by (try unfold ano); (try unfold fall); (try unfold fnd); (try unfold fndM); repeat (first | rw [iu_eq] | rw [iu_ne (by omega)])) (by (try unfold ano); (try unfold fall); (try unfold fnd); (try unfold fndM); repeat (first | rw [iu_eq] | rw [iu_ne (by omega)])) (by (try unfold ano); (try unfold fall); (try unfold fnd); (try unfold fndM); repeat (first | rw [iu_eq] | rw [iu_ne (by omega)]))
theorem k_pupils (v c : Int32) (h : Inv I sp pl) : aRuns mX11_pupils (rK 2) [.ref 0, .int v, .int c] (nn pl) (MM I sp pl) (KM pl mX12_pupils (rK 2) [.ref 101, .int v, .int c]) := by
  obtain ⟨ns, nstr, nc, d, cs, fr, to, sc, kd, nr, tl, nm, cn, hC, hK⟩ := h
  have hW := hC.1
  have hMo := hC.2.1
  have h8 := hW.2.1.2
  have hs4 := hW.1.2
  have h10 := hW.2.2.2.2.2.2.1.2
  have hsp := hW.2.2.2.2.2.2.2.1
  have hstr := hW.2.2.1.2
  have hG := hC.2.2.2.2.2.2.1
  have hinj := hC.2.2.2.2.2.2.2.1
  refine c_pupils v c d.1 hW.2.2.2.2.2.2.1.1 h10 hsp (fun hb => ?_) (fun t ht hv hb => ?_)
  · refine ⟨_, _, _, rfl, rfl, rfl, m_pupils v c d.1 ((iu_ne (by omega)).trans hMo.2.2.2.1) h10 (fun _ => ⟨_, rfl, rfl, rfl, Inv_f2 hC hK⟩) (fun t ht hv hb' => ?_)⟩
    exfalso; rcases hb with q | q
    · rw [hv, hW.2.2.2.2.2.2.1.1] at q; exact wi_nx (by omega) ht q
    · exact hb' q
  · have ht44 := hsp t (by omega)
    refine ⟨_, _, _, rfl, rfl, rfl, ?_⟩
    refine m_pupils v c d.1 ((iu_ne (by omega)).trans ((iu_ne (by omega)).trans ((iu_ne (by omega)).trans ((iu_ne (by omega)).trans (hMo.2.2.2.1))))) h10 (fun hb' => ?_) (fun t' ht' hv' _ => ⟨_, ?_, rfl, rfl, ?_⟩)
    · exfalso; rcases hb' with q | q
      · rw [hv] at q
        (try unfold ano at q); (try unfold fall at q); (try unfold fnd at q)
        repeat rw [iu_ne (by omega)] at q
        rw [hMo.2.2.2.1] at q; exact wi_nx (by omega) ht q
      · exact hb q
    · have e : t' = t := (nI_eq (by omega) (by omega)).mp (hv'.symm.trans hv)
      subst e
      (try unfold ano); (try unfold fall); (try unfold fnd); (try unfold fndM)
      repeat rw [iu_ne (by omega)]
      rw [(hG t' ht).2.2.2.2.1]
    · have e : t' = t := (nI_eq (by omega) (by omega)).mp (hv'.symm.trans hv)
      subst e
      have hb2 := wi_b hb
      have i1 : (1 : Int32).toInt = 1 := rfl
      have i30 : (30 : Int32).toInt = 30 := rfl
      refine Inv_pups hC hK (fup d.2.2.2.1 t' c) (fun q i hh => by (try unfold ano); (try unfold fall); (try unfold fnd); (try unfold fndM); repeat rw [iu_ne (by omega)]) (fun k hk => ?_) (by (try unfold ano); (try unfold fall); (try unfold fnd); (try unfold fndM); repeat (first | rw [iu_eq] | rw [iu_ne (by omega)])) (by (try unfold ano); (try unfold fall); (try unfold fnd); (try unfold fndM); repeat (first | rw [iu_eq] | rw [iu_ne (by omega)])) (by (try unfold ano); (try unfold fall); (try unfold fnd); (try unfold fndM); repeat (first | rw [iu_eq] | rw [iu_ne (by omega)])) (by (try unfold ano); (try unfold fall); (try unfold fnd); (try unfold fndM); repeat (first | rw [iu_eq] | rw [iu_ne (by omega)])) (by (try unfold ano); (try unfold fall); (try unfold fnd); (try unfold fndM); repeat (first | rw [iu_eq] | rw [iu_ne (by omega)]))
      have h44 := hsp k (by omega)
      by_cases e : k = t'
      · rw [e, fup_eq]
        refine ⟨by (try unfold ano); (try unfold fall); (try unfold fnd); (try unfold fndM); repeat (first | rw [iu_eq] | rw [iu_ne (by omega)]), by (try unfold ano); (try unfold fall); (try unfold fnd); (try unfold fndM); repeat (first | rw [iu_eq] | rw [iu_ne (by omega)]), by omega, by omega⟩
      · have hne : sp k ≠ sp t' := fun w => e (hinj k t' (by omega) (by omega) w)
        rw [fup_ne e]
        (try unfold ano); (try unfold fall); (try unfold fnd); (try unfold fndM)
        repeat rw [iu_ne (by omega)]
        have := hW.2.2.2.2.2.2.2.2.1 k hk
        refine ⟨this.2.2.1, (hG k hk).2.2.2.2.1.trans this.2.2.1, this.2.2.2⟩
end K6
