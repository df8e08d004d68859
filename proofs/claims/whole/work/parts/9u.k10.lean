section K10
variable {I : Nat → Nat → Int32} {sp : Nat → Nat} {pl : Bool} {J : Nat → Nat → Int32} {ns nstr nc : Nat} {d : pD} {cs : Nat → pC} {fr to sc kd : Nat → Nat} {nr tl nm : Nat} {cn : Nat → Nat}
theorem k_sheet (v b n : Int32) (h : Inv I sp pl) : aRuns mX11_sheet (rK 2) [.ref 0, .int v, .int b, .int n] (nn pl) (MM I sp pl) (KM pl mX12_sheet (rK 2) [.ref 101, .int v, .int b, .int n]) := by
  obtain ⟨ns, nstr, nc, d, cs, fr, to, sc, kd, nr, tl, nm, cn, hC, hK⟩ := h
  have hW := hC.1
  have hMo := hC.2.1
  have h8 := hW.2.1.2
  have hs4 := hW.1.2
  have h10 := hW.2.2.2.2.2.2.1.2
  have hsp := hW.2.2.2.2.2.2.2.1
  have hstr := hW.2.2.1.2
  have hL := hC.2.2.2.2.2.2.2.2.2.1
  have hcn : ∀ j, j < 4 → cn j ≤ 10 ∧ I (93 + 2 * j) 1 = nI (cn j) := fun j hj => ⟨(hL j hj).1, (hL j hj).2.1⟩
  refine c_sheet v b n (fun hb => ?_) (fun hv hb hn => ?_) (fun hv hb hn hl => ?_) (fun j m hj hm hv hn hb => ?_)
  · refine ⟨_, _, _, rfl, rfl, rfl, m_sheet v b n (fun _ => ⟨_, rfl, rfl, rfl, Inv_f2 hC hK⟩) (fun hv hb' hn => ?_) (fun hv hb' hn hl => ?_) (fun j m hj hm hv hn hb' => ?_)⟩
    · exfalso; rcases hb with q | q; exact hv q; exact q hb'
    · exfalso; rcases hb with q | q; exact hv q; exact q hb'
    · exfalso; rcases hb with q | q
      · rw [hv, show (3 : Int32) = nI 4 - 1 from by decide] at q; exact wi_nx (by omega) hj q
      · exact q hb'
  · refine ⟨_, _, _, rfl, rfl, rfl, m_sheet v b n (fun hb' => ?_) (fun _ _ _ => ⟨_, rfl, rfl, rfl, Inv_f2 hC hK⟩) (fun _ _ hn' _ => absurd hn (Int32.not_lt.mpr hn')) (fun j m hj hm hv' hn' hb' => ?_)⟩
    · exfalso; rcases hb' with q | q; exact hv q; exact q hb
    · exfalso; rw [hn'] at hn; exact absurd hn (nI_pos (by omega))
  · refine ⟨_, _, _, rfl, rfl, rfl, m_sheet v b n (fun hb' => ?_) (fun _ _ hn' => absurd hn' (Int32.not_lt.mpr hn)) (fun _ _ _ _ => ⟨_, rfl, rfl, rfl, Inv_f2 hC hK⟩) (fun j m hj hm hv' hn' hb' => ?_)⟩
    · exfalso; rcases hb' with q | q; exact hv q; exact q hb
    · exfalso; rw [hn'] at hl; exact hl ((nI_leI (b := 10) (by omega) (by decide)).mpr hm)
  · have hv2 : ¬ wi v 0 3 = 0 := by rw [hv, show (3 : Int32) = nI 4 - 1 from by decide]; exact wi_nx (by omega) hj
    refine ⟨_, _, _, rfl, rfl, rfl, ?_⟩
    refine m_sheet v b n (fun hb' => ?_) (fun _ _ hn' => ?_) (fun _ _ _ hl => ?_) (fun j' m' hj' hm' hv' hn' _ => ⟨_, ?_, rfl, rfl, ?_⟩)
    · exfalso; rcases hb' with q | q; exact hv2 q; exact q hb
    · exfalso; rw [hn] at hn'; exact absurd hn' (nI_pos (by omega))
    · exfalso; rw [hn] at hl; exact hl ((nI_leI (b := 10) (by omega) (by decide)).mpr hm)
    · have em : m' = m := (nI_eq (by omega) (by omega)).mp (hn'.symm.trans hn)
      rw [em]
    · have ej : j' = j := (nI_eq (by omega) (by omega)).mp (hv'.symm.trans hv)
      have em : m' = m := (nI_eq (by omega) (by omega)).mp (hn'.symm.trans hn)
      subst ej em
      have eX : (if b = 0 then (0 : Int32) else nI m') = nI (if b = 0 then 0 else m') := by split <;> rfl
      have hx10 : (if b = 0 then 0 else m') ≤ 10 := by split <;> omega
      generalize (if b = 0 then 0 else m') = xn at *
      rw [eX]
      have c1 : ∀ q i, fillI (iu (iu I (93 + 2 * j') 0 b) (93 + 2 * j') 1 (nI xn)) (94 + 2 * j') 0 10 q i = if q = 94 + 2 * j' ∧ i < 10 then 0 else iu (iu I (93 + 2 * j') 0 b) (93 + 2 * j') 1 (nI xn) q i := fun q i => by rw [fillI_eq]
      generalize fillI (iu (iu I (93 + 2 * j') 0 b) (93 + 2 * j') 1 (nI xn)) (94 + 2 * j') 0 10 = X at *
      have c2 : ∀ q i, zrI (iu (iu X 118 j' b) 119 j' (nI xn)) 120 (10 * j') 10 q i = if q = 120 ∧ 10 * j' ≤ i ∧ i < 10 * j' + 10 then 0 else iu (iu X 118 j' b) 119 j' (nI xn) q i := fun q i => rfl
      generalize zrI (iu (iu X 118 j' b) 119 j' (nI xn)) 120 (10 * j') 10 = J at *
      refine Inv_sheet hC hK (fup cn j' xn) (fun q i hh => ?_) (fun k hk => ?_)
      · rw [c2, if_neg (by omega), iu_ne (by omega), iu_ne (by omega), c1, if_neg (by omega), iu_ne (by omega), iu_ne (by omega)]
      · by_cases e : k = j'
        · subst e
          rw [fup_eq]
          refine ⟨hx10, ?_, ?_, ?_, fun i hi => ?_⟩
          · rw [c2, if_neg (by omega), iu_ne (by omega), iu_ne (by omega), c1, if_neg (by omega), iu_eq]
          · rw [c2, if_neg (by omega), iu_ne (by omega), iu_eq, c2, if_neg (by omega), iu_ne (by omega), iu_ne (by omega), c1, if_neg (by omega), iu_ne (by omega), iu_eq]
          · rw [c2, if_neg (by omega), iu_eq]
          · rw [c2, if_pos (by omega), c2, if_neg (by omega), iu_ne (by omega), iu_ne (by omega), c1, if_pos (by omega)]
        · rw [fup_ne e]
          obtain ⟨p1, p2, p3, p4, p5⟩ := hL k hk
          refine ⟨p1, ?_, ?_, ?_, fun i hi => ?_⟩
          · rw [c2, if_neg (by omega), iu_ne (by omega), iu_ne (by omega), c1, if_neg (by omega), iu_ne (by omega), iu_ne (by omega)]; exact p2
          · rw [c2, if_neg (by omega), iu_ne (by omega), iu_ne (by omega), c1, if_neg (by omega), iu_ne (by omega), iu_ne (by omega), c2, if_neg (by omega), iu_ne (by omega), iu_ne (by omega), c1, if_neg (by omega), iu_ne (by omega), iu_ne (by omega)]; exact p3
          · rw [c2, if_neg (by omega), iu_ne (by omega), iu_ne (by omega), c1, if_neg (by omega), iu_ne (by omega), iu_ne (by omega)]; exact p4
          · rw [c2, if_neg (by omega), iu_ne (by omega), iu_ne (by omega), c1, if_neg (by omega), iu_ne (by omega), iu_ne (by omega), c2, if_neg (by omega), iu_ne (by omega), iu_ne (by omega), c1, if_neg (by omega), iu_ne (by omega), iu_ne (by omega)]; exact p5 i hi
theorem k_write (v i x : Int32) (h : Inv I sp pl) : aRuns mX11_write (rK 2) [.ref 0, .int v, .int i, .int x] (nn pl) (MM I sp pl) (KM pl mX12_write (rK 2) [.ref 101, .int v, .int i, .int x]) := by
  obtain ⟨ns, nstr, nc, d, cs, fr, to, sc, kd, nr, tl, nm, cn, hC, hK⟩ := h
  have hW := hC.1
  have hMo := hC.2.1
  have h8 := hW.2.1.2
  have hs4 := hW.1.2
  have h10 := hW.2.2.2.2.2.2.1.2
  have hsp := hW.2.2.2.2.2.2.2.1
  have hstr := hW.2.2.1.2
  have hL := hC.2.2.2.2.2.2.2.2.2.1
  have hcn : ∀ j, j < 4 → cn j ≤ 10 ∧ I (93 + 2 * j) 1 = nI (cn j) := fun j hj => ⟨(hL j hj).1, (hL j hj).2.1⟩
  refine c_write v i x cn hcn (fun hb => ?_) (fun j hj hv hz => ?_) (fun j hj hv hz hi => ?_) (fun j k hj hk hv hi hz => ?_)
  · refine ⟨_, _, _, rfl, rfl, rfl, m_write v i x cn (fun j hj => ⟨(hL j hj).1, (iu_ne (by omega)).trans (hL j hj).2.2.2.1⟩) (fun _ => ⟨_, rfl, rfl, rfl, Inv_f2 hC hK⟩) (fun j hj hv _ => ?_) (fun j hj hv _ _ => ?_) (fun j k hj hk hv _ _ => ?_)⟩
    all_goals (exfalso; rw [hv, show (3 : Int32) = nI 4 - 1 from by decide] at hb; exact wi_nx (by omega) hj hb)
  · refine ⟨_, _, _, rfl, rfl, rfl, m_write v i x cn (fun j hj => ⟨(hL j hj).1, (iu_ne (by omega)).trans (hL j hj).2.2.2.1⟩) (fun q => ?_) (fun _ _ _ _ => ⟨_, rfl, rfl, rfl, Inv_f2 hC hK⟩) (fun j' hj' hv' hz' _ => ?_) (fun j' k hj' hk hv' _ hz' => ?_)⟩
    · exfalso; rw [hv, show (3 : Int32) = nI 4 - 1 from by decide] at q; exact wi_nx (by omega) hj q
    all_goals (exfalso; have ej : j' = j := (nI_eq (by omega) (by omega)).mp (hv'.symm.trans hv); rw [ej, fnd_o (by omega), (hL j hj).2.2.1] at hz'; exact hz' hz)
  · refine ⟨_, _, _, rfl, rfl, rfl, m_write v i x cn (fun j hj => ⟨(hL j hj).1, (iu_ne (by omega)).trans (hL j hj).2.2.2.1⟩) (fun q => ?_) (fun j' hj' hv' hz' => ?_) (fun _ _ _ _ _ => ⟨_, rfl, rfl, rfl, Inv_f2 hC hK⟩) (fun j' k hj' hk hv' hi' hz' => ?_)⟩
    · exfalso; rw [hv, show (3 : Int32) = nI 4 - 1 from by decide] at q; exact wi_nx (by omega) hj q
    · exfalso; have ej : j' = j := (nI_eq (by omega) (by omega)).mp (hv'.symm.trans hv); rw [ej, fnd_o (by omega), (hL j hj).2.2.1] at hz'; exact hz hz'
    · exfalso; have ej : j' = j := (nI_eq (by omega) (by omega)).mp (hv'.symm.trans hv)
      rw [ej] at hk
      have hc10 := (hL j hj).1
      rw [(hL j hj).2.1, hi'] at hi
      exact wi_nx (by omega) hk hi
  · have hk10 := (hL j hj).1
    refine ⟨_, _, _, rfl, rfl, rfl, ?_⟩
    refine m_write v i x cn (fun j hj => ⟨(hL j hj).1, (iu_ne (by omega)).trans (hL j hj).2.2.2.1⟩) (fun q => ?_) (fun j' hj' hv' hz' => ?_) (fun j' hj' hv' hz' hi' => ?_) (fun j' k' hj' hk' hv' hi' hz' => ⟨_, ?_, rfl, rfl, ?_⟩)
    · exfalso; rw [hv, show (3 : Int32) = nI 4 - 1 from by decide] at q; exact wi_nx (by omega) hj q
    · exfalso; have ej : j' = j := (nI_eq (by omega) (by omega)).mp (hv'.symm.trans hv); rw [ej, iu_ne (by omega), (hL j hj).2.2.1] at hz'; exact hz hz'
    · exfalso; have ej : j' = j := (nI_eq (by omega) (by omega)).mp (hv'.symm.trans hv)
      rw [ej, iu_ne (by omega), (hL j hj).2.2.2.1, hi] at hi'
      exact wi_nx (by omega) hk hi'
    · have ej : j' = j := (nI_eq (by omega) (by omega)).mp (hv'.symm.trans hv)
      have h10' := (hL j' hj').1
      have ek : k' = k := (nI_eq (by omega) (by omega)).mp (hi'.symm.trans hi)
      rw [ej, ek, iu_ne (by omega), (hL j hj).2.2.2.2 k (by omega)]
    · have ej : j' = j := (nI_eq (by omega) (by omega)).mp (hv'.symm.trans hv)
      have h10' := (hL j' hj').1
      have ek : k' = k := (nI_eq (by omega) (by omega)).mp (hi'.symm.trans hi)
      subst ej ek
      have e18 : iu I (94 + 2 * j') k' (cutB (I (93 + 2 * j') 0) x) 118 j' = I (93 + 2 * j') 0 := by rw [iu_ne (by omega)]; exact (hL j' hj').2.2.1
      rw [e18]
      refine Inv_sheet hC hK cn (fun q i hh => by rw [iu_ne (by omega), iu_ne (by omega)]) (fun a ha => ?_)
      obtain ⟨p1, p2, p3, p4, p5⟩ := hL a ha
      refine ⟨p1, by rw [iu_ne (by omega), iu_ne (by omega)]; exact p2, by rw [iu_ne (by omega), iu_ne (by omega), iu_ne (by omega), iu_ne (by omega)]; exact p3, by rw [iu_ne (by omega), iu_ne (by omega)]; exact p4, fun y hy => ?_⟩
      by_cases e : a = j' ∧ y = k'
      · obtain ⟨rfl, rfl⟩ := e; rw [iu_eq, iu_ne (by omega), iu_eq]
      · rw [iu_ne (by omega), iu_ne (by omega), iu_ne (by omega), iu_ne (by omega)]; exact p5 y hy
theorem k_copy (v f w t n : Int32) (h : Inv I sp pl) : aRuns mX11_copy (rK 2) [.ref 0, .int v, .int f, .int w, .int t, .int n] (nn pl) (MM I sp pl) (KM pl mX12_copy (rK 2) [.ref 101, .int v, .int f, .int w, .int t, .int n]) := by
  obtain ⟨ns, nstr, nc, d, cs, fr, to, sc, kd, nr, tl, nm, cn, hC, hK⟩ := h
  have hW := hC.1
  have hMo := hC.2.1
  have h8 := hW.2.1.2
  have hs4 := hW.1.2
  have h10 := hW.2.2.2.2.2.2.1.2
  have hsp := hW.2.2.2.2.2.2.2.1
  have hstr := hW.2.2.1.2
  have hL := hC.2.2.2.2.2.2.2.2.2.1
  have hcn : ∀ j, j < 4 → cn j ≤ 10 ∧ I (93 + 2 * j) 1 = nI (cn j) := fun j hj => ⟨(hL j hj).1, (hL j hj).2.1⟩
  refine c_copy v f w t n cn hcn (fun hb => ?_) (fun j k hj hk hv hw hz => ?_) (fun j k hj hk hv hw z1 z2 hne => ?_) (fun j k hj hk hv hw z1 z2 he hh => ?_) (fun j k p q m hj hk hv hw hf ht hn z1 z2 he hp hq => ?_)
  · refine ⟨_, _, _, rfl, rfl, rfl, m_copy v f w t n cn (fun j hj => ⟨(hL j hj).1, (iu_ne (by omega)).trans (hL j hj).2.2.2.1⟩) (fun _ => ⟨_, rfl, rfl, rfl, Inv_f2 hC hK⟩) (fun j k hj hk hv hw _ => ?_) (fun j k hj hk hv hw _ _ _ => ?_) (fun j k hj hk hv hw _ _ _ _ => ?_) (fun j k p q m hj hk hv hw _ _ _ _ _ _ _ _ => ?_)⟩
    all_goals (exfalso; rw [hv, hw, show (3 : Int32) = nI 4 - 1 from by decide] at hb; rcases hb with x | x; exact wi_nx (by omega) hj x; exact wi_nx (by omega) hk x)
  · refine ⟨_, _, _, rfl, rfl, rfl, m_copy v f w t n cn (fun j hj => ⟨(hL j hj).1, (iu_ne (by omega)).trans (hL j hj).2.2.2.1⟩) (fun hb => ?_) (fun _ _ _ _ _ _ _ => ⟨_, rfl, rfl, rfl, Inv_f2 hC hK⟩) (fun j' k' hj' hk' hv' hw' y1 y2 _ => ?_) (fun j' k' hj' hk' hv' hw' y1 y2 _ _ => ?_) (fun j' k' p q m hj' hk' hv' hw' _ _ _ y1 y2 _ _ _ => ?_)⟩
    · exfalso; rw [hv, hw, show (3 : Int32) = nI 4 - 1 from by decide] at hb; rcases hb with x | x; exact wi_nx (by omega) hj x; exact wi_nx (by omega) hk x
    all_goals (exfalso; have ej : j' = j := (nI_eq (by omega) (by omega)).mp (hv'.symm.trans hv); have ek : k' = k := (nI_eq (by omega) (by omega)).mp (hw'.symm.trans hw); rw [ej, fnd_o (by omega), (hL j hj).2.2.1] at y1; rw [ek, fnd_o (by omega), (hL k hk).2.2.1] at y2; rcases hz with x | x; exact y1 x; exact y2 x)
  · refine ⟨_, _, _, rfl, rfl, rfl, m_copy v f w t n cn (fun j hj => ⟨(hL j hj).1, (iu_ne (by omega)).trans (hL j hj).2.2.2.1⟩) (fun hb => ?_) (fun j' k' hj' hk' hv' hw' y => ?_) (fun _ _ _ _ _ _ _ _ _ => ⟨_, rfl, rfl, rfl, Inv_f2 hC hK⟩) (fun j' k' hj' hk' hv' hw' _ _ y _ => ?_) (fun j' k' p q m hj' hk' hv' hw' _ _ _ _ _ y _ _ => ?_)⟩
    · exfalso; rw [hv, hw, show (3 : Int32) = nI 4 - 1 from by decide] at hb; rcases hb with x | x; exact wi_nx (by omega) hj x; exact wi_nx (by omega) hk x
    · exfalso; have ej : j' = j := (nI_eq (by omega) (by omega)).mp (hv'.symm.trans hv); have ek : k' = k := (nI_eq (by omega) (by omega)).mp (hw'.symm.trans hw); rw [ej, ek, fnd_o (by omega), (hL j hj).2.2.1, fnd_o (by omega), (hL k hk).2.2.1] at y; rcases y with x | x; exact z1 x; exact z2 x
    all_goals (exfalso; have ej : j' = j := (nI_eq (by omega) (by omega)).mp (hv'.symm.trans hv); have ek : k' = k := (nI_eq (by omega) (by omega)).mp (hw'.symm.trans hw); rw [ej, ek, fnd_o (by omega), (hL j hj).2.2.1, fnd_o (by omega), (hL k hk).2.2.1] at y; exact hne y)
  · refine ⟨_, _, _, rfl, rfl, rfl, m_copy v f w t n cn (fun j hj => ⟨(hL j hj).1, (iu_ne (by omega)).trans (hL j hj).2.2.2.1⟩) (fun hb => ?_) (fun j' k' hj' hk' hv' hw' y => ?_) (fun j' k' hj' hk' hv' hw' _ _ y => ?_) (fun _ _ _ _ _ _ _ _ _ _ => ⟨_, rfl, rfl, rfl, Inv_f2 hC hK⟩) (fun j' k' p q m hj' hk' hv' hw' hf ht hn _ _ y hp hq => ?_)⟩
    · exfalso; rw [hv, hw, show (3 : Int32) = nI 4 - 1 from by decide] at hb; rcases hb with x | x; exact wi_nx (by omega) hj x; exact wi_nx (by omega) hk x
    · exfalso; have ej : j' = j := (nI_eq (by omega) (by omega)).mp (hv'.symm.trans hv); have ek : k' = k := (nI_eq (by omega) (by omega)).mp (hw'.symm.trans hw); rw [ej, ek, fnd_o (by omega), (hL j hj).2.2.1, fnd_o (by omega), (hL k hk).2.2.1] at y; rcases y with x | x; exact z1 x; exact z2 x
    · exfalso; have ej : j' = j := (nI_eq (by omega) (by omega)).mp (hv'.symm.trans hv); have ek : k' = k := (nI_eq (by omega) (by omega)).mp (hw'.symm.trans hw); rw [ej, ek, fnd_o (by omega), (hL j hj).2.2.1, fnd_o (by omega), (hL k hk).2.2.1] at y; exact y he
    · exfalso
      have ej : j' = j := (nI_eq (by omega) (by omega)).mp (hv'.symm.trans hv)
      have ek : k' = k := (nI_eq (by omega) (by omega)).mp (hw'.symm.trans hw)
      rw [ej] at hp
      rw [ek] at hq
      have hj10 := (hL j hj).1
      have hk10 := (hL k hk).1
      have key : ∀ p m c, p + m ≤ c → c ≤ 10 → ¬ hldV (nI p) (nI m) (nI c) = 0 := fun p m c h1 h2 => by
        unfold hldV
        have e : nI c - nI m = nI (c - m) := by rw [show nI c = nI (c - m) + nI m by rw [nI_add, Nat.sub_add_cancel (by omega)], Int32.add_sub_cancel]
        rw [if_pos ⟨Int32.not_lt.mp (nI_pos (by omega)), Int32.not_lt.mp (nI_pos (by omega)), (nI_leI (by omega) (by omega)).mpr (by omega), by rw [e]; exact (nI_leI (by omega) (by omega)).mpr (by omega)⟩]
        decide
      rcases hh with x | x
      · rw [hf, hn, (hL j hj).2.1] at x; exact key p m (cn j) hp hj10 x
      · rw [ht, hn, (hL k hk).2.1] at x; exact key q m (cn k) hq hk10 x
  · have hj10 := (hL j hj).1
    have hk10 := (hL k hk).1
    refine ⟨_, _, _, rfl, rfl, rfl, ?_⟩
    refine m_copy v f w t n cn (fun j hj => ⟨(hL j hj).1, by unfold cpI; rw [if_neg (by omega)]; exact (hL j hj).2.2.2.1⟩) (fun hb => ?_) (fun j' k' hj' hk' hv' hw' y => ?_) (fun j' k' hj' hk' hv' hw' _ _ y => ?_) (fun j' k' hj' hk' hv' hw' _ _ _ y => ?_) (fun j' k' p' q' m' hj' hk' hv' hw' hf' ht' hn' _ _ y hp' hq' => ⟨_, ?_, rfl, rfl, ?_⟩)
    · exfalso; rw [hv, hw, show (3 : Int32) = nI 4 - 1 from by decide] at hb; rcases hb with x | x; exact wi_nx (by omega) hj x; exact wi_nx (by omega) hk x
    · exfalso; have ej : j' = j := (nI_eq (by omega) (by omega)).mp (hv'.symm.trans hv); have ek : k' = k := (nI_eq (by omega) (by omega)).mp (hw'.symm.trans hw)
      unfold cpI at y
      rw [if_neg (by omega), if_neg (by omega), ej, ek, (hL j hj).2.2.1, (hL k hk).2.2.1] at y; rcases y with x | x; exact z1 x; exact z2 x
    · exfalso; have ej : j' = j := (nI_eq (by omega) (by omega)).mp (hv'.symm.trans hv); have ek : k' = k := (nI_eq (by omega) (by omega)).mp (hw'.symm.trans hw)
      unfold cpI at y
      rw [if_neg (by omega), if_neg (by omega), ej, ek, (hL j hj).2.2.1, (hL k hk).2.2.1] at y; exact y he
    · exfalso; have ej : j' = j := (nI_eq (by omega) (by omega)).mp (hv'.symm.trans hv); have ek : k' = k := (nI_eq (by omega) (by omega)).mp (hw'.symm.trans hw)
      have key : ∀ p m c, p + m ≤ c → c ≤ 10 → ¬ hldV (nI p) (nI m) (nI c) = 0 := fun p m c h1 h2 => by
        unfold hldV
        have e : nI c - nI m = nI (c - m) := by rw [show nI c = nI (c - m) + nI m by rw [nI_add, Nat.sub_add_cancel (by omega)], Int32.add_sub_cancel]
        rw [if_pos ⟨Int32.not_lt.mp (nI_pos (by omega)), Int32.not_lt.mp (nI_pos (by omega)), (nI_leI (by omega) (by omega)).mpr (by omega), by rw [e]; exact (nI_leI (by omega) (by omega)).mpr (by omega)⟩]
        decide
      unfold cpI at y
      rw [if_neg (by omega), if_neg (by omega), ej, ek, (hL j hj).2.2.2.1, (hL k hk).2.2.2.1, hf, ht, hn] at y
      rcases y with x | x
      · exact key p m (cn j) hp hj10 x
      · exact key q m (cn k) hq hk10 x
    · have a1 := (hL j' hj').1
      have em : m' = m := (nI_eq (by omega) (by omega)).mp (hn'.symm.trans hn)
      rw [em]
    · have a1 := (hL j' hj').1
      have a2 := (hL k' hk').1
      have ej : j' = j := (nI_eq (by omega) (by omega)).mp (hv'.symm.trans hv)
      have ek : k' = k := (nI_eq (by omega) (by omega)).mp (hw'.symm.trans hw)
      have em : m' = m := (nI_eq (by omega) (by omega)).mp (hn'.symm.trans hn)
      have ep : p' = p := (nI_eq (by omega) (by omega)).mp (hf'.symm.trans hf)
      have eq : q' = q := (nI_eq (by omega) (by omega)).mp (ht'.symm.trans ht)
      subst ej ek em ep eq
      have c1 : ∀ a i, cpI I (94 + 2 * j') (94 + 2 * k') p' q' m' a i = if a = 94 + 2 * k' ∧ q' ≤ i ∧ i < q' + m' then I (94 + 2 * j') (p' + (i - q')) else I a i := fun a i => rfl
      generalize cpI I (94 + 2 * j') (94 + 2 * k') p' q' m' = X at *
      have c2 : ∀ a i, cpI X 120 146 (10 * j' + p') 0 m' a i = if a = 146 ∧ 0 ≤ i ∧ i < 0 + m' then X 120 (10 * j' + p' + (i - 0)) else X a i := fun a i => rfl
      generalize cpI X 120 146 (10 * j' + p') 0 m' = Y at *
      have c3 : ∀ a i, cpI Y 146 120 0 (10 * k' + q') m' a i = if a = 120 ∧ 10 * k' + q' ≤ i ∧ i < 10 * k' + q' + m' then Y 146 (0 + (i - (10 * k' + q'))) else Y a i := fun a i => rfl
      generalize cpI Y 146 120 0 (10 * k' + q') m' = J at *
      have d1 : ∀ a i, a ≠ 120 → a ≠ 146 → J a i = X a i := fun a i x y => by rw [c3, if_neg (by omega), c2, if_neg (by omega)]
      by_cases q146 : True
      · have hfree : ∀ a i, a < 120 → ¬ (93 ≤ a ∧ a < 101) → J a i = I a i := fun a i x y => by rw [d1 a i (by omega) (by omega), c1, if_neg (by omega)]
        have hI2 : Inv J sp pl := by
          have hS := Inv_sheet (J := fun a i => if a = 146 then I a i else J a i) hC hK cn (fun a i hh => ?_) (fun a ha => ?_)
          · obtain ⟨ns, nstr, nc, d, cs, fr, to, sc, kd, nr, tl, nm, cn, hC', hK'⟩ := hS
            exact Inv_fr hC' hK' (fun a i hh => by rw [if_neg (by omega)])
          · show (if a = 146 then I a i else J a i) = I a i
            by_cases e : a = 146
            · rw [if_pos e]
            · rw [if_neg e, d1 a i (by omega) e, c1, if_neg (by omega)]
          · obtain ⟨p1, p2, p3, p4, p5⟩ := hL a ha
            show cn a ≤ 10 ∧ (if 93 + 2 * a = 146 then _ else J (93 + 2 * a) 1) = nI (cn a) ∧ (if (118 : Nat) = 146 then _ else J 118 a) = (if 93 + 2 * a = 146 then _ else J (93 + 2 * a) 0) ∧ (if (119 : Nat) = 146 then _ else J 119 a) = nI (cn a) ∧ ∀ i, i < 10 → (if (120 : Nat) = 146 then _ else J 120 (10 * a + i)) = (if 94 + 2 * a = 146 then _ else J (94 + 2 * a) i)
            rw [if_neg (by omega), if_neg (by omega), if_neg (by omega), if_neg (by omega)]
            refine ⟨p1, ?_, ?_, ?_, fun i hi => ?_⟩
            · rw [d1 _ _ (by omega) (by omega), c1, if_neg (by omega)]; exact p2
            · rw [d1 _ _ (by omega) (by omega), c1, if_neg (by omega), d1 _ _ (by omega) (by omega), c1, if_neg (by omega)]; exact p3
            · rw [d1 _ _ (by omega) (by omega), c1, if_neg (by omega)]; exact p4
            · rw [if_neg (by omega), if_neg (by omega), d1 (94 + 2 * a) i (by omega) (by omega)]
              by_cases e : a = k' ∧ q' ≤ i ∧ i < q' + m'
              · obtain ⟨e1, e2, e3⟩ := e
                subst e1
                rw [c3, if_pos (by omega), c2, if_pos (by omega), c1, if_neg (by omega), c1, if_pos ⟨rfl, e2, e3⟩, show 10 * j' + p' + (0 + (10 * a + i - (10 * a + q')) - 0) = 10 * j' + (p' + (i - q')) by omega]
                exact (hL j' hj).2.2.2.2 _ (by omega)
              · rw [c3, if_neg (by omega), c2, if_neg (by omega), c1, if_neg (by omega), c1, if_neg (by omega)]
                exact p5 i hi
        exact hI2
      · exact absurd trivial q146
end K10
