section K7
variable {I : Nat → Nat → Int32} {sp : Nat → Nat} {pl : Bool} {J : Nat → Nat → Int32} {ns nstr nc : Nat} {d : pD} {cs : Nat → pC} {fr to sc kd : Nat → Nat} {nr tl nm : Nat} {cn : Nat → Nat}
theorem Inv_ano (hC : Core I sp ns nstr nc d cs fr to sc kd nr tl nm cn) (hK : Cach I sp pl ns d cs nr) (u : ∀ q i, ¬ (q = 101 ∧ (i = 29 ∨ i = 30)) → J q i = I q i) (z4 : J 101 29 = 0) (z5 : J 101 30 = 0) : Inv J sp pl := by
  have hW := hC.1
  have hMo := hC.2.1
  have h8 := hW.2.1.2
  have hs4 := hW.1.2
  have h10 := hW.2.2.2.2.2.2.1.2
  have hsp := hW.2.2.2.2.2.2.2.1
  have hstr := hW.2.2.1.2
  refine ⟨ns, nstr, nc, d, cs, fr, to, sc, kd, nr, tl, nm, cn, ?_, ?_⟩
  · exact ⟨CW_fr2 hW (fun q i h => u q i (by omega)) (fun hm a b ha hb => by rw [u 2 8 (by omega)] at hm; rw [u _ _ (by omega)]; exact hW.2.2.2.2.2.2.2.2.2.2.2 hm a b ha hb),
      ⟨((u 101 0 (by omega)).trans hMo.1), ((u 101 1 (by omega)).trans hMo.2.1), ((u 101 2 (by omega)).trans hMo.2.2.1), ((u 101 3 (by omega)).trans hMo.2.2.2.1), ((u 101 4 (by omega)).trans hMo.2.2.2.2.1), ((u 101 5 (by omega)).trans hMo.2.2.2.2.2.1), (by rw [u 101 6 (by omega), u 0 10 (by omega)]; exact hMo.2.2.2.2.2.2.1), ((u 101 7 (by omega)).trans hMo.2.2.2.2.2.2.2.1), (by rw [u 101 8 (by omega), u 1 7 (by omega)]; exact hMo.2.2.2.2.2.2.2.2.1), (by rw [u 101 9 (by omega), u 1 8 (by omega)]; exact hMo.2.2.2.2.2.2.2.2.2)⟩,
      (by rw [u 75 0 (by omega), u 75 1 (by omega)]; exact hC.2.2.1),
      (by rw [(show J (102) = I (102) from funext fun i => u (102) i (by omega)), (show J (103) = I (103) from funext fun i => u (103) i (by omega)), (show J (104) = I (104) from funext fun i => u (104) i (by omega)), (show J (105) = I (105) from funext fun i => u (105) i (by omega)), (show J (5) = I (5) from funext fun i => u (5) i (by omega)), (show J (6) = I (6) from funext fun i => u (6) i (by omega))]; exact hC.2.2.2.1),
      (fun s hs => by rw [u 106 s (by omega), u 107 s (by omega), u 108 s (by omega), u 109 s (by omega), u 26 s (by omega), u (28 + 4 * s) 0 (by omega), u (28 + 4 * s) 1 (by omega), u (28 + 4 * s) 2 (by omega)]; exact hC.2.2.2.2.1 s hs),
      (fun s hs => by rw [u 26 s (by omega), u (28 + 4 * s) 0 (by omega), u (28 + 4 * s) 2 (by omega)]; exact hC.2.2.2.2.2.1 s hs),
      (fun x hx => by have hspx := hsp x (by omega); rw [u 110 x (by omega), u 111 x (by omega), u 112 x (by omega), u 113 x (by omega), u (sp x) 0 (by omega), u (sp x) 1 (by omega), u (sp x) 2 (by omega), u (sp x) 3 (by omega)]; exact hC.2.2.2.2.2.2.1 x hx),
      hC.2.2.2.2.2.2.2.1,
      (by rw [(show J (114) = I (114) from funext fun i => u (114) i (by omega)), (show J (115) = I (115) from funext fun i => u (115) i (by omega)), (show J (116) = I (116) from funext fun i => u (116) i (by omega)), (show J (117) = I (117) from funext fun i => u (117) i (by omega)), (show J (76) = I (76) from funext fun i => u (76) i (by omega)), (show J (77) = I (77) from funext fun i => u (77) i (by omega)), (show J (78) = I (78) from funext fun i => u (78) i (by omega)), (show J (79) = I (79) from funext fun i => u (79) i (by omega))]; exact hC.2.2.2.2.2.2.2.2.1),
      (fun j hj => by obtain ⟨p1, p2, p3, p4, p5⟩ := hC.2.2.2.2.2.2.2.2.2.1 j hj; exact ⟨p1, (u _ _ (by omega)).trans p2, by rw [u 118 j (by omega), u (93 + 2 * j) 0 (by omega)]; exact p3, (u _ _ (by omega)).trans p4, fun i hi => by rw [u 120 _ (by omega), u (94 + 2 * j) i (by omega)]; exact p5 i hi⟩),
      (by obtain ⟨p1, p2, p3, p4⟩ := hC.2.2.2.2.2.2.2.2.2.2.1; exact ⟨(u _ _ (by omega)).trans p1, p2, (u _ _ (by omega)).trans p3, fun r hr => by rw [u 144 r (by omega), u 91 r (by omega)]; exact p4 r hr⟩),
      (by rw [u 1 8 (by omega)]; exact hC.2.2.2.2.2.2.2.2.2.2.2.1),
      (by rw [u 1 7 (by omega)]; exact hC.2.2.2.2.2.2.2.2.2.2.2.2)⟩
  · exact Cach_fr3 hW hK (fun q => ⟨by rw [← u 0 7 (by omega)]; exact q, fun q i h => u q i (by omega)⟩) (fun q => ⟨by rw [← u 0 8 (by omega)]; exact q, by rw [u 0 7 (by omega)]; exact (hK.2.1 (by rw [← u 0 8 (by omega)]; exact q)).1, fun q i h => u q i (by omega)⟩) (fun q => ⟨by rw [← u 0 9 (by omega)]; exact q, by rw [u 0 7 (by omega)]; exact (hK.2.2.1 (by rw [← u 0 9 (by omega)]; exact q)).1, fun q i h => u q i (by omega)⟩) (fun q => absurd z4 q) (fun q => absurd z5 q)
theorem k_street (a b c : Int32) (h : Inv I sp pl) : aRuns mX11_street (rK 2) [.ref 0, .int a, .int b, .int c] (nn pl) (MM I sp pl) (KM pl mX12_street (rK 2) [.ref 101, .int a, .int b, .int c]) := by
  obtain ⟨ns, nstr, nc, d, cs, fr, to, sc, kd, nr, tl, nm, cn, hC, hK⟩ := h
  have hW := hC.1
  have hMo := hC.2.1
  have h8 := hW.2.1.2
  have hs4 := hW.1.2
  have h10 := hW.2.2.2.2.2.2.1.2
  have hsp := hW.2.2.2.2.2.2.2.1
  have hstr := hW.2.2.1.2
  have e1 := hW.2.1.1
  have e2 := hMo.1
  have e3 := hW.2.2.1.1
  have e4 := hMo.2.1
  have key : ∀ n, n ≤ 14 → (nI n < 14 ↔ n < 14) ∧ (nI n = 14 ↔ n = 14) := by decide
  have hk := key nstr hstr
  have ge : ∀ X : Int32, X = nI nc → ((wi a 0 (X - 1) = 0 ∨ wi b 0 (X - 1) = 0 ∨ a = b ∨ wi c 1 20 = 0) ↔ (wi a 0 (nI nc - 1) = 0 ∨ wi b 0 (nI nc - 1) = 0 ∨ a = b ∨ wi c 1 20 = 0)) := fun X hX => by rw [hX]
  refine c_street a b c nstr e3 (by omega) (fun hb => ?_) (fun hg hf => ?_) (fun hg hf => ?_)
  · refine ⟨_, _, _, rfl, rfl, rfl, m_street a b c nstr ((iu_ne (by omega)).trans e4) hstr (fun _ => ⟨_, rfl, rfl, rfl, Inv_f2 hC hK⟩) (fun hg _ => ?_) (fun hg _ => ?_)⟩
    all_goals (exfalso; rw [fnd_o (by omega), e2] at hg; rw [e1] at hb; rcases hb with q | q | q | q; exact hg.1 q; exact hg.2.1 q; exact hg.2.2.1 q; exact hg.2.2.2 q)
  · refine ⟨_, _, _, rfl, rfl, rfl, m_street a b c nstr ((iu_ne (by omega)).trans e4) hstr (fun hb => ?_) (fun _ _ => ⟨_, rfl, rfl, rfl, Inv_f2 hC hK⟩) (fun _ hn => ?_)⟩
    · exfalso; rw [fnd_o (by omega), e2] at hb; rw [e1] at hg; rcases hb with q | q | q | q; exact hg.1 q; exact hg.2.1 q; exact hg.2.2.1 q; exact hg.2.2.2 q
    · exfalso; rw [e3, hk.1] at hf; omega
  · rw [e3, hk.1] at hf
    rw [e1] at hg
    obtain ⟨x, hx, rfl⟩ := wi_ix (by omega) hg.1
    obtain ⟨y, hy, rfl⟩ := wi_ix (by omega) hg.2.1
    have hcb := wi_b hg.2.2.2
    have i1 : (1 : Int32).toInt = 1 := rfl
    have i20 : (20 : Int32).toInt = 20 := rfl
    refine ⟨_, _, _, rfl, rfl, rfl, ?_⟩
    refine m_street (nI x) (nI y) c nstr ((iu_ne (by omega)).trans ((iu_ne (by omega)).trans ((iu_ne (by omega)).trans ((iu_ne (by omega)).trans ((iu_ne (by omega)).trans ((iu_ne (by omega)).trans ((iu_ne (by omega)).trans ((iu_ne (by omega)).trans ((iu_ne (by omega)).trans (e4)))))))))) hstr (fun hb => ?_) (fun _ h14 => ?_) (fun _ _ => ⟨_, rfl, rfl, rfl, ?_⟩)
    · exfalso
      unfold fall at hb
      repeat rw [iu_ne (by omega)] at hb
      rw [e2] at hb
      rcases hb with q | q | q | q; exact hg.1 q; exact hg.2.1 q; exact hg.2.2.1 q; exact hg.2.2.2 q
    · exfalso
      unfold fall at h14
      repeat rw [iu_ne (by omega)] at h14
      rw [e4, hk.2] at h14; omega
    · exact Inv_street hC hK x y hx hy (fun e => hg.2.2.1 (by rw [e])) c (by omega) hf (fun q i hh => by (try unfold ano); (try unfold fall); (try unfold fnd); (try unfold fndM); repeat rw [iu_ne (by omega)]) ⟨by (try unfold ano); (try unfold fall); (try unfold fnd); (try unfold fndM); repeat (first | rw [iu_eq] | rw [iu_ne (by omega)]), by (try unfold ano); (try unfold fall); (try unfold fnd); (try unfold fndM); repeat (first | rw [iu_eq] | rw [iu_ne (by omega)]), by (try unfold ano); (try unfold fall); (try unfold fnd); (try unfold fndM); repeat (first | rw [iu_eq] | rw [iu_ne (by omega)]), by (try unfold ano); (try unfold fall); (try unfold fnd); (try unfold fndM); repeat (first | rw [iu_eq] | rw [iu_ne (by omega)])⟩ ⟨by (try unfold ano); (try unfold fall); (try unfold fnd); (try unfold fndM); repeat (first | rw [iu_eq] | rw [iu_ne (by omega)]), by (try unfold ano); (try unfold fall); (try unfold fnd); (try unfold fndM); repeat (first | rw [iu_eq] | rw [iu_ne (by omega)]), by (try unfold ano); (try unfold fall); (try unfold fnd); (try unfold fndM); repeat (first | rw [iu_eq] | rw [iu_ne (by omega)]), by (try unfold ano); (try unfold fall); (try unfold fnd); (try unfold fndM); repeat (first | rw [iu_eq] | rw [iu_ne (by omega)])⟩ (by (try unfold ano); (try unfold fall); (try unfold fnd); (try unfold fndM); rw [iu_ne (by omega), iu_ne (by omega), iu_ne (by omega), iu_ne (by omega), iu_ne (by omega), iu_ne (by omega), iu_ne (by omega), iu_eq, nI_1]) (by (try unfold ano); (try unfold fall); (try unfold fnd); (try unfold fndM); rw [iu_ne (by omega), iu_ne (by omega), iu_eq, nI_1]) (by (try unfold ano); (try unfold fall); (try unfold fnd); (try unfold fndM); repeat (first | rw [iu_eq] | rw [iu_ne (by omega)])) (by (try unfold ano); (try unfold fall); (try unfold fnd); (try unfold fndM); repeat (first | rw [iu_eq] | rw [iu_ne (by omega)])) (by (try unfold ano); (try unfold fall); (try unfold fnd); (try unfold fndM); repeat (first | rw [iu_eq] | rw [iu_ne (by omega)])) (by (try unfold ano); (try unfold fall); (try unfold fnd); (try unfold fndM); repeat (first | rw [iu_eq] | rw [iu_ne (by omega)])) (by (try unfold ano); (try unfold fall); (try unfold fnd); (try unfold fndM); repeat (first | rw [iu_eq] | rw [iu_ne (by omega)])) (by (try unfold ano); (try unfold fall); (try unfold fnd); (try unfold fndM); repeat (first | rw [iu_eq] | rw [iu_ne (by omega)]))
theorem k_shut (v b : Int32) (hb : b = 0 ∨ b = 1) (h : Inv I sp pl) : aRuns mX11_shut (rK 1) [.ref 0, .int v, .int b] (nn pl) (MM I sp pl) (KM pl mX12_shut (rK 1) [.ref 101, .int v, .int b]) := by
  obtain ⟨ns, nstr, nc, d, cs, fr, to, sc, kd, nr, tl, nm, cn, hC, hK⟩ := h
  have hW := hC.1
  have hMo := hC.2.1
  have h8 := hW.2.1.2
  have hs4 := hW.1.2
  have h10 := hW.2.2.2.2.2.2.1.2
  have hsp := hW.2.2.2.2.2.2.2.1
  have hstr := hW.2.2.1.2
  have e3 := hW.2.2.1.1
  have e4 := hMo.2.1
  have e6 := hC.2.2.2.1.2.2.1
  refine c_shut v b nstr e3 hstr hb (fun hB => ?_) (fun st hs hv he => ?_) (fun st hs hv he => ?_)
  · refine ⟨_, _, _, rfl, rfl, rfl, m_shut v b nstr ((iu_ne (by omega)).trans e4) hstr hb (fun _ => ⟨_, rfl, rfl, rfl, Inv_f2 hC hK⟩) (fun st hs hv _ => ?_) (fun st hs hv _ => ?_)⟩
    all_goals (exfalso; rw [hv, e3] at hB; exact wi_nx (by omega) hs hB)
  · refine ⟨_, _, _, rfl, rfl, rfl, m_shut v b nstr e4 hstr hb (fun hB => ?_) (fun st' hs' hv' he' => ⟨_, rfl, rfl, rfl, ?_⟩) (fun st' hs' hv' he' => ?_)⟩
    · exfalso; rw [hv, e4] at hB; exact wi_nx (by omega) hs hB
    · refine Inv_ano hC hK (fun q i hh => ?_) (by (try unfold ano); (try unfold fall); (try unfold fnd); (try unfold fndM); repeat (first | rw [iu_eq] | rw [iu_ne (by omega)])) (by (try unfold ano); (try unfold fall); (try unfold fnd); (try unfold fndM); repeat (first | rw [iu_eq] | rw [iu_ne (by omega)]))
      unfold ano
      rw [iu_ne (by omega), iu_ne (by omega)]
      by_cases e : q = 105 ∧ i = st'
      · obtain ⟨rfl, rfl⟩ := e; rw [iu_eq]; exact he'.symm
      · exact iu_ne (by omega)
    · exfalso
      have e : st' = st := (nI_eq (by omega) (by omega)).mp (hv'.symm.trans hv)
      rw [e, e6] at he'; exact he' he
  · refine ⟨_, _, _, rfl, rfl, rfl, ?_⟩
    refine m_shut v b nstr ((iu_ne (by omega)).trans ((iu_ne (by omega)).trans ((iu_ne (by omega)).trans ((iu_ne (by omega)).trans ((iu_ne (by omega)).trans (e4)))))) hstr hb (fun hB => ?_) (fun st' hs' hv' he' => ?_) (fun st' hs' hv' he' => ⟨_, rfl, rfl, rfl, ?_⟩)
    · exfalso
      unfold fall at hB
      repeat rw [iu_ne (by omega)] at hB
      rw [hv, e4] at hB; exact wi_nx (by omega) hs hB
    · exfalso
      have e : st' = st := (nI_eq (by omega) (by omega)).mp (hv'.symm.trans hv)
      unfold fall at he'
      repeat rw [iu_ne (by omega)] at he'
      rw [e, e6] at he'; exact he he'
    · have e : st' = st := (nI_eq (by omega) (by omega)).mp (hv'.symm.trans hv)
      subst e
      exact Inv_shut hC hK st' hs b hb (fun q i hh => by (try unfold ano); (try unfold fall); (try unfold fnd); (try unfold fndM); repeat rw [iu_ne (by omega)]) (by (try unfold ano); (try unfold fall); (try unfold fnd); (try unfold fndM); repeat (first | rw [iu_eq] | rw [iu_ne (by omega)])) (by (try unfold ano); (try unfold fall); (try unfold fnd); (try unfold fndM); repeat (first | rw [iu_eq] | rw [iu_ne (by omega)])) (by (try unfold ano); (try unfold fall); (try unfold fnd); (try unfold fndM); repeat (first | rw [iu_eq] | rw [iu_ne (by omega)])) (by (try unfold ano); (try unfold fall); (try unfold fnd); (try unfold fndM); repeat (first | rw [iu_eq] | rw [iu_ne (by omega)])) (by (try unfold ano); (try unfold fall); (try unfold fnd); (try unfold fndM); repeat (first | rw [iu_eq] | rw [iu_ne (by omega)])) (by (try unfold ano); (try unfold fall); (try unfold fnd); (try unfold fndM); repeat (first | rw [iu_eq] | rw [iu_ne (by omega)])) (by (try unfold ano); (try unfold fall); (try unfold fnd); (try unfold fndM); repeat (first | rw [iu_eq] | rw [iu_ne (by omega)])) (by (try unfold ano); (try unfold fall); (try unfold fnd); (try unfold fndM); repeat (first | rw [iu_eq] | rw [iu_ne (by omega)]))
theorem k_school (k c : Int32) (h : Inv I sp pl) : aRuns mX11_school (rK 2) [.ref 0, .int k, .int c] (nn pl) (MM I sp pl) (KM pl mX12_school (rK 2) [.ref 101, .int k, .int c]) := by
  obtain ⟨ns, nstr, nc, d, cs, fr, to, sc, kd, nr, tl, nm, cn, hC, hK⟩ := h
  have hW := hC.1
  have hMo := hC.2.1
  have h8 := hW.2.1.2
  have hs4 := hW.1.2
  have h10 := hW.2.2.2.2.2.2.1.2
  have hsp := hW.2.2.2.2.2.2.2.1
  have hstr := hW.2.2.1.2
  have e1 := hW.2.1.1
  have e2 := hMo.1
  have e3 := hW.1.1
  have e4 := hMo.2.2.1
  have key : ∀ n, n ≤ 4 → (nI n < 4 ↔ n < 4) ∧ (nI n = 4 ↔ n = 4) := by decide
  have hk := key ns hs4
  refine c_school k c ns e3 (by omega) (fun hb => ?_) (fun hg hf => ?_) (fun hg hf => ?_)
  · refine ⟨_, _, _, rfl, rfl, rfl, m_school k c ns ((iu_ne (by omega)).trans e4) hs4 (fun _ => ⟨_, rfl, rfl, rfl, Inv_f2 hC hK⟩) (fun hg _ => ?_) (fun hg _ => ?_)⟩
    all_goals (exfalso; rw [fnd_o (by omega), e2] at hg; rw [e1] at hb; rcases hb with q | q; exact hg.1 q; exact hg.2 q)
  · refine ⟨_, _, _, rfl, rfl, rfl, m_school k c ns ((iu_ne (by omega)).trans e4) hs4 (fun hb => ?_) (fun _ _ => ⟨_, rfl, rfl, rfl, Inv_f2 hC hK⟩) (fun _ hn => ?_)⟩
    · exfalso; rw [fnd_o (by omega), e2] at hb; rw [e1] at hg; rcases hb with q | q; exact hg.1 q; exact hg.2 q
    · exfalso; rw [e3, hk.1] at hf; omega
  · rw [e3, hk.1] at hf
    rw [e1] at hg
    obtain ⟨x, hx, rfl⟩ := wi_ix (by omega) hg.2
    obtain ⟨y, hy, rfl⟩ := wi_c (m := 3) (by decide) rfl hg.1
    refine ⟨_, _, _, rfl, rfl, rfl, ?_⟩
    refine m_school (nI y) (nI x) ns ((iu_ne (by omega)).trans ((iu_ne (by omega)).trans ((iu_ne (by omega)).trans ((iu_ne (by omega)).trans ((iu_ne (by omega)).trans ((iu_ne (by omega)).trans ((iu_ne (by omega)).trans ((iu_ne (by omega)).trans (e4))))))))) hs4 (fun hb => ?_) (fun _ h14 => ?_) (fun _ _ => ⟨_, rfl, rfl, rfl, ?_⟩)
    · exfalso
      unfold fall at hb
      repeat rw [iu_ne (by omega)] at hb
      rw [e2] at hb
      rcases hb with q | q; exact hg.1 q; exact hg.2 q
    · exfalso
      unfold fall at h14
      repeat rw [iu_ne (by omega)] at h14
      rw [e4, hk.2] at h14; omega
    · exact Inv_school hC hK y x (by omega) hx hf (fun q i hh => by (try unfold ano); (try unfold fall); (try unfold fnd); (try unfold fndM); repeat rw [iu_ne (by omega)]) ⟨by (try unfold ano); (try unfold fall); (try unfold fnd); (try unfold fndM); repeat (first | rw [iu_eq] | rw [iu_ne (by omega)]), by (try unfold ano); (try unfold fall); (try unfold fnd); (try unfold fndM); repeat (first | rw [iu_eq] | rw [iu_ne (by omega)]), by (try unfold ano); (try unfold fall); (try unfold fnd); (try unfold fndM); repeat (first | rw [iu_eq] | rw [iu_ne (by omega)]), by (try unfold ano); (try unfold fall); (try unfold fnd); (try unfold fndM); repeat (first | rw [iu_eq] | rw [iu_ne (by omega)])⟩ ⟨by (try unfold ano); (try unfold fall); (try unfold fnd); (try unfold fndM); repeat (first | rw [iu_eq] | rw [iu_ne (by omega)]), by (try unfold ano); (try unfold fall); (try unfold fnd); (try unfold fndM); repeat (first | rw [iu_eq] | rw [iu_ne (by omega)]), by (try unfold ano); (try unfold fall); (try unfold fnd); (try unfold fndM); repeat (first | rw [iu_eq] | rw [iu_ne (by omega)]), by (try unfold ano); (try unfold fall); (try unfold fnd); (try unfold fndM); repeat (first | rw [iu_eq] | rw [iu_ne (by omega)])⟩ (by (try unfold ano); (try unfold fall); (try unfold fnd); (try unfold fndM); rw [iu_ne (by omega), iu_ne (by omega), iu_ne (by omega), iu_ne (by omega), iu_ne (by omega), iu_ne (by omega), iu_ne (by omega), iu_eq, nI_1]) (by (try unfold ano); (try unfold fall); (try unfold fnd); (try unfold fndM); rw [iu_ne (by omega), iu_ne (by omega), iu_eq, nI_1]) (by (try unfold ano); (try unfold fall); (try unfold fnd); (try unfold fndM); repeat (first | rw [iu_eq] | rw [iu_ne (by omega)])) (by (try unfold ano); (try unfold fall); (try unfold fnd); (try unfold fndM); repeat (first | rw [iu_eq] | rw [iu_ne (by omega)])) (by (try unfold ano); (try unfold fall); (try unfold fnd); (try unfold fndM); repeat (first | rw [iu_eq] | rw [iu_ne (by omega)])) (by (try unfold ano); (try unfold fall); (try unfold fnd); (try unfold fndM); repeat (first | rw [iu_eq] | rw [iu_ne (by omega)])) (by (try unfold ano); (try unfold fall); (try unfold fnd); (try unfold fndM); repeat (first | rw [iu_eq] | rw [iu_ne (by omega)]))
theorem k_stop (a b c e : Int32) (h : Inv I sp pl) : aRuns mX11_stop (rK 2) [.ref 0, .int a, .int b, .int c, .int e] (nn pl) (MM I sp pl) (KM pl mX12_stop (rK 2) [.ref 101, .int a, .int b, .int c, .int e]) := by
  obtain ⟨ns, nstr, nc, d, cs, fr, to, sc, kd, nr, tl, nm, cn, hC, hK⟩ := h
  have hW := hC.1
  have hMo := hC.2.1
  have h8 := hW.2.1.2
  have hs4 := hW.1.2
  have h10 := hW.2.2.2.2.2.2.1.2
  have hsp := hW.2.2.2.2.2.2.2.1
  have hstr := hW.2.2.1.2
  have e1 := hW.2.1.1
  have e2 := hMo.1
  have e3 := hW.1.1
  have e4 := hMo.2.2.1
  have e5 := hW.2.2.2.2.2.2.1.1
  have e6 := hMo.2.2.2.1
  have key : ∀ n, n ≤ 10 → (nI n < 10 ↔ n < 10) ∧ (nI n = 10 ↔ n = 10) := by decide
  have hk := key d.1 h10
  refine c_stop a b c e d.1 e5 (by omega) hsp (fun hb => ?_) (fun hg hf => ?_) (fun hg hf => ?_)
  · refine ⟨_, _, _, rfl, rfl, rfl, m_stop a b c e d.1 ((iu_ne (by omega)).trans e6) h10 (fun _ => ⟨_, rfl, rfl, rfl, Inv_f2 hC hK⟩) (fun hg _ => ?_) (fun hg _ => ?_)⟩
    all_goals (exfalso; rw [fnd_o (by omega), fnd_o (by omega), e2, e4] at hg; rw [e1, e3] at hb; rcases hb with q | q | q | q; exact hg.1 q; exact hg.2.1 q; exact hg.2.2.1 q; exact hg.2.2.2 q)
  · refine ⟨_, _, _, rfl, rfl, rfl, m_stop a b c e d.1 ((iu_ne (by omega)).trans e6) h10 (fun hb => ?_) (fun _ _ => ⟨_, rfl, rfl, rfl, Inv_f2 hC hK⟩) (fun _ hn => ?_)⟩
    · exfalso; rw [fnd_o (by omega), fnd_o (by omega), e2, e4] at hb; rw [e1, e3] at hg; rcases hb with q | q | q | q; exact hg.1 q; exact hg.2.1 q; exact hg.2.2.1 q; exact hg.2.2.2 q
    · exfalso; rw [e5, hk.1] at hf; omega
  · rw [e5, hk.1] at hf
    rw [e1, e3] at hg
    obtain ⟨s, hs, rfl⟩ := wi_ix (by omega) hg.1
    obtain ⟨x, hx, rfl⟩ := wi_ix (by omega) hg.2.1
    have hcb := wi_b hg.2.2.1
    have i1 : (1 : Int32).toInt = 1 := rfl
    have i30 : (30 : Int32).toInt = 30 := rfl
    have hst := hsp d.1 (by omega)
    refine ⟨_, _, _, rfl, rfl, rfl, ?_⟩
    refine m_stop (nI s) (nI x) c e d.1 ((iu_ne (by omega)).trans ((iu_ne (by omega)).trans ((iu_ne (by omega)).trans ((iu_ne (by omega)).trans ((iu_ne (by omega)).trans ((iu_ne (by omega)).trans ((iu_ne (by omega)).trans ((iu_ne (by omega)).trans (e6))))))))) h10 (fun hb => ?_) (fun _ h14 => ?_) (fun _ _ => ⟨_, rfl, rfl, rfl, ?_⟩)
    · exfalso
      unfold fall at hb
      repeat rw [iu_ne (by omega)] at hb
      rw [e2, e4] at hb
      rcases hb with q | q | q | q; exact hg.1 q; exact hg.2.1 q; exact hg.2.2.1 q; exact hg.2.2.2 q
    · exfalso
      unfold fall at h14
      repeat rw [iu_ne (by omega)] at h14
      rw [e6, hk.2] at h14; omega
    · exact Inv_stop hC hK s x hs hx c e (by omega) hf (fun q i hh => by (try unfold ano); (try unfold fall); (try unfold fnd); (try unfold fndM); repeat rw [iu_ne (by omega)]) ⟨by (try unfold ano); (try unfold fall); (try unfold fnd); (try unfold fndM); repeat (first | rw [iu_eq] | rw [iu_ne (by omega)]), by (try unfold ano); (try unfold fall); (try unfold fnd); (try unfold fndM); repeat (first | rw [iu_eq] | rw [iu_ne (by omega)]), by (try unfold ano); (try unfold fall); (try unfold fnd); (try unfold fndM); repeat (first | rw [iu_eq] | rw [iu_ne (by omega)]), by (try unfold ano); (try unfold fall); (try unfold fnd); (try unfold fndM); repeat (first | rw [iu_eq] | rw [iu_ne (by omega)])⟩ ⟨by (try unfold ano); (try unfold fall); (try unfold fnd); (try unfold fndM); repeat (first | rw [iu_eq] | rw [iu_ne (by omega)]), by (try unfold ano); (try unfold fall); (try unfold fnd); (try unfold fndM); repeat (first | rw [iu_eq] | rw [iu_ne (by omega)]), by (try unfold ano); (try unfold fall); (try unfold fnd); (try unfold fndM); repeat (first | rw [iu_eq] | rw [iu_ne (by omega)]), by (try unfold ano); (try unfold fall); (try unfold fnd); (try unfold fndM); repeat (first | rw [iu_eq] | rw [iu_ne (by omega)])⟩ (by (try unfold ano); (try unfold fall); (try unfold fnd); (try unfold fndM); rw [iu_ne (by omega), iu_ne (by omega), iu_ne (by omega), iu_ne (by omega), iu_ne (by omega), iu_ne (by omega), iu_ne (by omega), iu_eq, nI_1]) (by (try unfold ano); (try unfold fall); (try unfold fnd); (try unfold fndM); rw [iu_ne (by omega), iu_ne (by omega), iu_eq, nI_1]) (by (try unfold ano); (try unfold fall); (try unfold fnd); (try unfold fndM); repeat (first | rw [iu_eq] | rw [iu_ne (by omega)])) (by (try unfold ano); (try unfold fall); (try unfold fnd); (try unfold fndM); repeat (first | rw [iu_eq] | rw [iu_ne (by omega)])) (by (try unfold ano); (try unfold fall); (try unfold fnd); (try unfold fndM); repeat (first | rw [iu_eq] | rw [iu_ne (by omega)])) (by (try unfold ano); (try unfold fall); (try unfold fnd); (try unfold fndM); repeat (first | rw [iu_eq] | rw [iu_ne (by omega)])) (by (try unfold ano); (try unfold fall); (try unfold fnd); (try unfold fndM); repeat (first | rw [iu_eq] | rw [iu_ne (by omega)]))
theorem k_gone (v : Int32) (h : Inv I sp pl) : aRuns mX11_gone (rK 2) [.ref 0, .int v] (nn pl) (MM I sp pl) (KM pl mX12_gone (rK 2) [.ref 101, .int v]) := by
  obtain ⟨ns, nstr, nc, d, cs, fr, to, sc, kd, nr, tl, nm, cn, hC, hK⟩ := h
  have hW := hC.1
  have hMo := hC.2.1
  have h8 := hW.2.1.2
  have hs4 := hW.1.2
  have h10 := hW.2.2.2.2.2.2.1.2
  have hsp := hW.2.2.2.2.2.2.2.1
  have hstr := hW.2.2.1.2
  have e5 := hW.2.2.2.2.2.2.1.1
  have e6 := hMo.2.2.2.1
  refine c_gone v d.1 e5 h10 hsp (fun hb => ?_) (fun t t' ht hv hd => ?_)
  · refine ⟨_, _, _, rfl, rfl, rfl, m_gone v d.1 ((iu_ne (by omega)).trans e6) h10 (fun _ => ⟨_, rfl, rfl, rfl, Inv_f2 hC hK⟩) (fun t t' ht hv hd => ?_)⟩
    exfalso; rw [hv, e5] at hb; exact wi_nx (by omega) ht hb
  · refine ⟨_, _, _, rfl, rfl, rfl, ?_⟩
    refine m_gone v d.1 ((iu_ne (by omega)).trans ((iu_ne (by omega)).trans ((iu_ne (by omega)).trans ((iu_ne (by omega)).trans (e6))))) h10 (fun hb => ?_) (fun u u' hu hv' hd' => ⟨_, ?_, rfl, rfl, ?_⟩)
    · exfalso
      unfold fall at hb
      repeat rw [iu_ne (by omega)] at hb
      rw [hv, e6] at hb; exact wi_nx (by omega) ht hb
    · rw [show u' = t' by omega]
    · have e : u = t := (nI_eq (by omega) (by omega)).mp (hv'.symm.trans hv)
      have e2 : u' = t' := by omega
      subst e e2
      have hgs : ∀ q i, ¬ (110 ≤ q ∧ q ≤ 113) → gsI (iu (fall I) 1 5 (nI u')) u u' q i = iu (fall I) 1 5 (nI u') q i := fun q i h => gsI_o (by omega)
      refine Inv_gone hC hK u u' ht hd (fun q i hh => ?_) (fun q k hq hk => ?_) ?_ ?_ ?_ ?_ ?_ (by (try unfold ano); (try unfold fall); (try unfold fnd); (try unfold fndM); repeat (first | rw [iu_eq] | rw [iu_ne (by omega)])) (by (try unfold ano); (try unfold fall); (try unfold fnd); (try unfold fndM); repeat (first | rw [iu_eq] | rw [iu_ne (by omega)]))
      · unfold ano
        rw [iu_ne (by omega), iu_ne (by omega), iu_ne (by omega), hgs q i (by omega)]
        unfold fall
        repeat rw [iu_ne (by omega)]
      · unfold ano
        rw [iu_ne (by omega), iu_ne (by omega), iu_ne (by omega)]
        unfold gsI shf fall
        by_cases e : u ≤ k
        · rw [if_pos ⟨hq, e, hk⟩, if_pos e]
          repeat rw [iu_ne (by omega)]
        · rw [if_neg (by omega), if_neg e]
          repeat rw [iu_ne (by omega)]
      · unfold ano
        rw [iu_ne (by omega), iu_ne (by omega), iu_ne (by omega), hgs 1 5 (by omega), iu_eq]
      · unfold ano
        rw [iu_ne (by omega), iu_ne (by omega), iu_eq]
      · unfold ano
        rw [iu_ne (by omega), iu_ne (by omega), iu_ne (by omega), hgs 0 7 (by omega)]
        (try unfold ano); (try unfold fall); (try unfold fnd); (try unfold fndM); repeat (first | rw [iu_eq] | rw [iu_ne (by omega)])
      · unfold ano
        rw [iu_ne (by omega), iu_ne (by omega), iu_ne (by omega), hgs 0 8 (by omega)]
        (try unfold ano); (try unfold fall); (try unfold fnd); (try unfold fndM); repeat (first | rw [iu_eq] | rw [iu_ne (by omega)])
      · unfold ano
        rw [iu_ne (by omega), iu_ne (by omega), iu_ne (by omega), hgs 0 9 (by omega)]
        (try unfold ano); (try unfold fall); (try unfold fnd); (try unfold fndM); repeat (first | rw [iu_eq] | rw [iu_ne (by omega)])
end K7
