theorem rd_guard {f : Int32} {nst c : Nat} (h10 : nst ≤ 10) (hc : c ≤ 10) : wi f 0 (nI nst - nI c) = 0 ↔ ∀ p, p < 2 ^ 31 → f = nI p → ¬ p + c ≤ nst := by
  constructor
  · intro h p hp hf hle
    have e : nI nst - nI c = nI (nst - c) := by rw [show nI nst = nI (nst - c) + nI c by rw [nI_add, Nat.sub_add_cancel (by omega)], Int32.add_sub_cancel]
    rw [e, hf] at h
    exact wi_0 h ⟨Int32.not_lt.mp (nI_pos (by omega)), (nI_leI (by omega) (by omega)).mpr (by omega)⟩
  · intro h
    rcases wi_or f 0 (nI nst - nI c) with q | q
    · exact q
    · exfalso
      obtain ⟨h0, h1⟩ := wi_1 (v := f) (lo := 0) (hi := nI nst - nI c) (by rw [q]; decide)
      by_cases hcn : c ≤ nst
      · have e : nI nst - nI c = nI (nst - c) := by rw [show nI nst = nI (nst - c) + nI c by rw [nI_add, Nat.sub_add_cancel hcn], Int32.add_sub_cancel]
        rw [e] at h1
        obtain ⟨p, hp, rfl⟩ := nI_of (Int32.not_lt.mpr h0)
        exact h p hp rfl (by have := (nI_leI hp (by omega)).mp h1; omega)
      · have key : ∀ a, a ≤ 10 → ∀ b, b ≤ 10 → a < b → (nI a - nI b).toInt < 0 := by decide
        have := key nst h10 c hc (by omega)
        rw [Int32.le_iff_toInt_le] at h0 h1
        rw [i32_0] at h0
        omega
section K11
variable {I : Nat → Nat → Int32} {sp : Nat → Nat} {pl : Bool} {J : Nat → Nat → Int32} {ns nstr nc : Nat} {d : pD} {cs : Nat → pC} {fr to sc kd : Nat → Nat} {nr tl nm : Nat} {cn : Nat → Nat}
theorem k_read (v f : Int32) (h : Inv I sp pl) : aRuns mX11_read (rK 2) [.ref 0, .int v, .int f] (nn pl) (MM I sp pl) (KM pl mX12_read (rK 2) [.ref 101, .int v, .int f]) := by
  obtain ⟨ns, nstr, nc, d, cs, fr, to, sc, kd, nr, tl, nm, cn, hC, hK⟩ := h
  have hW := hC.1
  have hMo := hC.2.1
  have h8 := hW.2.1.2
  have hs4 := hW.1.2
  have h10 := hW.2.2.2.2.2.2.1.2
  have hsp := hW.2.2.2.2.2.2.2.1
  have hstr := hW.2.2.1.2
  have hL := hC.2.2.2.2.2.2.2.2.2.1
  have hcn : ∀ j, j < 4 → cn j ≤ 10 ∧ I (93 + 2 * j) 1 = nI (cn j) := fun j hj => ⟨(hL j hj).1, (hL j hj).2.1⟩
  have e5 := hW.2.2.2.2.2.2.1.1
  have e6 := hMo.2.2.2.1
  have hG := hC.2.2.2.2.2.2.1
  have hinj := hC.2.2.2.2.2.2.2.1
  have hB4 : ∀ j, j < 4 → v = nI j → ¬ wi v 0 3 = 0 := fun j hj hv => by rw [hv, show (3 : Int32) = nI 4 - 1 from by decide]; exact wi_nx (by omega) hj
  have haw : ∀ (X : Nat → Nat → Int32) j, j < 4 → (∀ i, X 120 i = I 120 i) → allW (fun i => X 120 (10 * j + i)) 1 30 (cn j) = allW (I (94 + 2 * j)) 1 30 (cn j) := fun X j hj hX => allW_cg _ (fun i hi => by rw [hX]; exact (hL j hj).2.2.2.2 i (by have := (hL j hj).1; omega))
  refine c_read v f cn d.1 hcn e5 h10 hsp (fun hb => ?_) (fun j hj hv hz => ?_) (fun j hj hv hz h0 => ?_) (fun j hj hv hz h0 hi => ?_) (fun j p hj hv hf hz h0 hp ha => ?_)
  · refine ⟨_, _, _, rfl, rfl, rfl, m_read v f cn d.1 (fun j hj => ⟨(hL j hj).1, (iu_ne (by omega)).trans (hL j hj).2.2.2.1⟩) ((iu_ne (by omega)).trans e6) h10 (fun _ => ⟨_, rfl, rfl, rfl, Inv_f2 hC hK⟩) (fun j hj hv _ => absurd hb (hB4 j hj hv)) (fun j hj hv _ _ => absurd hb (hB4 j hj hv)) (fun j hj hv _ _ _ => absurd hb (hB4 j hj hv)) (fun j p hj hv _ _ _ _ _ => absurd hb (hB4 j hj hv))⟩
  · refine ⟨_, _, _, rfl, rfl, rfl, m_read v f cn d.1 (fun j hj => ⟨(hL j hj).1, (iu_ne (by omega)).trans (hL j hj).2.2.2.1⟩) ((iu_ne (by omega)).trans e6) h10 (fun hb => absurd hb (hB4 j hj hv)) (fun _ _ _ _ => ⟨_, rfl, rfl, rfl, Inv_f2 hC hK⟩) (fun j' hj' hv' y _ => ?_) (fun j' hj' hv' y _ _ => ?_) (fun j' p hj' hv' _ y _ _ _ => ?_)⟩
    all_goals (exfalso; have ej : j' = j := (nI_eq (by omega) (by omega)).mp (hv'.symm.trans hv); rw [ej, fnd_o (by omega), (hL j hj).2.2.1] at y; exact y hz)
  · refine ⟨_, _, _, rfl, rfl, rfl, m_read v f cn d.1 (fun j hj => ⟨(hL j hj).1, (hL j hj).2.2.2.1⟩) e6 h10 (fun hb => absurd hb (hB4 j hj hv)) (fun j' hj' hv' y => ?_) (fun _ _ _ _ _ => ⟨_, rfl, rfl, rfl, Inv_of hC hK⟩) (fun j' hj' hv' _ y _ => ?_) (fun j' p hj' hv' _ _ y _ _ => ?_)⟩
    · exfalso; have ej : j' = j := (nI_eq (by omega) (by omega)).mp (hv'.symm.trans hv); rw [ej, (hL j hj).2.2.1] at y; exact hz y
    all_goals (exfalso; have ej : j' = j := (nI_eq (by omega) (by omega)).mp (hv'.symm.trans hv); rw [ej, (hL j hj).2.2.2.1, ← (hL j hj).2.1] at y; exact y h0)
  · refine ⟨_, _, _, rfl, rfl, rfl, m_read v f cn d.1 (fun j hj => ⟨(hL j hj).1, (iu_ne (by omega)).trans (hL j hj).2.2.2.1⟩) ((iu_ne (by omega)).trans e6) h10 (fun hb => absurd hb (hB4 j hj hv)) (fun j' hj' hv' y => ?_) (fun j' hj' hv' _ y => ?_) (fun _ _ _ _ _ _ => ⟨_, rfl, rfl, rfl, Inv_f2 hC hK⟩) (fun j' p hj' hv' hf' _ _ hp' ha' => ?_)⟩
    · exfalso; have ej : j' = j := (nI_eq (by omega) (by omega)).mp (hv'.symm.trans hv); rw [ej, fnd_o (by omega), (hL j hj).2.2.1] at y; exact hz y
    · exfalso; have ej : j' = j := (nI_eq (by omega) (by omega)).mp (hv'.symm.trans hv); rw [ej, fnd_o (by omega), (hL j hj).2.2.2.1, ← (hL j hj).2.1] at y; exact h0 y
    · exfalso
      have ej : j' = j := (nI_eq (by omega) (by omega)).mp (hv'.symm.trans hv)
      subst ej
      rcases hi with x | x
      · rw [e5, (hL j' hj).2.1, rd_guard h10 (hL j' hj).1] at x
        exact x p (by omega) hf' hp'
      · rw [haw _ j' hj (fun i => fnd_o (by omega))] at ha'
        exact ha' x
  · have hc10 := (hL j hj).1
    have hrd : ∀ q i, (q < 44 ∨ 54 ≤ q) ∨ i ≠ 2 → rdI I sp (94 + 2 * j) p (cn j) q i = I q i := fun q i hh => by
      by_cases e : i = 2
      · exact rdI_ne (by omega) _ (fun x hx => hsp _ (by omega))
      · exact rdI_2 e _
    have y0 : ∀ q i, ¬ (q = 0 ∧ 7 ≤ i ∧ i ≤ 9) → (q < 44 ∨ 54 ≤ q) ∨ i ≠ 2 → fall (rdI I sp (94 + 2 * j) p (cn j)) q i = I q i := fun q i h1 h2 => by
      unfold fall
      rw [iu_ne (by omega), iu_ne (by omega), iu_ne (by omega)]; exact hrd q i h2
    have y2 : ∀ x, x < 10 → fall (rdI I sp (94 + 2 * j) p (cn j)) (sp x) 2 = if p ≤ x ∧ x < p + cn j then I (94 + 2 * j) (x - p) else I (sp x) 2 := fun x hx => by
      have := hsp x hx
      unfold fall
      rw [iu_ne (by omega), iu_ne (by omega), iu_ne (by omega)]; exact rdI_at hinj hx _ (by omega)
    have y7 : fall (rdI I sp (94 + 2 * j) p (cn j)) 0 7 = 0 ∧ fall (rdI I sp (94 + 2 * j) p (cn j)) 0 8 = 0 ∧ fall (rdI I sp (94 + 2 * j) p (cn j)) 0 9 = 0 := by
      unfold fall
      exact ⟨by rw [iu_ne (by omega), iu_ne (by omega), iu_eq], by rw [iu_ne (by omega), iu_eq], iu_eq⟩
    refine ⟨_, _, _, rfl, rfl, rfl, ?_⟩
    generalize fall (rdI I sp (94 + 2 * j) p (cn j)) = X at *
    refine m_read v f cn d.1 (fun j hj => ⟨(hL j hj).1, (y0 _ _ (by omega) (by omega)).trans (hL j hj).2.2.2.1⟩) ((y0 _ _ (by omega) (by omega)).trans e6) h10 (fun hb => absurd hb (hB4 j hj hv)) (fun j' hj' hv' y => ?_) (fun j' hj' hv' _ y => ?_) (fun j' hj' hv' _ _ y => ?_) (fun j' p' hj' hv' hf' _ _ hp' ha' => ⟨_, ?_, rfl, rfl, ?_⟩)
    · exfalso; have ej : j' = j := (nI_eq (by omega) (by omega)).mp (hv'.symm.trans hv); rw [ej, y0 _ _ (by omega) (by omega), (hL j hj).2.2.1] at y; exact hz y
    · exfalso; have ej : j' = j := (nI_eq (by omega) (by omega)).mp (hv'.symm.trans hv); rw [ej, y0 _ _ (by omega) (by omega), (hL j hj).2.2.2.1, ← (hL j hj).2.1] at y; exact h0 y
    · exfalso
      have ej : j' = j := (nI_eq (by omega) (by omega)).mp (hv'.symm.trans hv)
      subst ej
      rcases y with x | x
      · exact x p (by omega) hf hp
      · rw [haw _ j' hj (fun i => y0 _ _ (by omega) (by omega))] at x
        exact ha x
    · have ej : j' = j := (nI_eq (by omega) (by omega)).mp (hv'.symm.trans hv)
      rw [ej]
    · have ej : j' = j := (nI_eq (by omega) (by omega)).mp (hv'.symm.trans hv)
      subst ej
      have ep : p' = p := (nI_eq (by omega) (by omega)).mp (hf'.symm.trans hf)
      subst ep
      have c1 : ∀ a i, cpI X 120 112 (10 * j') p' (cn j') a i = if a = 112 ∧ p' ≤ i ∧ i < p' + cn j' then X 120 (10 * j' + (i - p')) else X a i := fun a i => rfl
      have c2 : ∀ a i, ¬ (a = 101 ∧ (i = 29 ∨ i = 30)) → a ≠ 112 → ano (cpI X 120 112 (10 * j') p' (cn j')) a i = X a i := fun a i h1 h2 => by
        unfold ano
        rw [iu_ne (by omega), iu_ne (by omega), c1, if_neg (by omega)]
      have i1 : (1 : Int32).toInt = 1 := rfl
      have i30 : (30 : Int32).toInt = 30 := rfl
      refine Inv_pups hC hK (fun k => if p' ≤ k ∧ k < p' + cn j' then I (94 + 2 * j') (k - p') else d.2.2.2.1 k) (fun q i hh => ?_) (fun k hk => ?_) ?_ ?_ ?_ ?_ ?_
      · rw [c2 q i (by omega) (by omega)]
        exact y0 q i (by omega) (by omega)
      · have h44 := hsp k (by omega)
        have hw9 := hW.2.2.2.2.2.2.2.2.1 k hk
        rw [c2 _ _ (by omega) (by omega), y2 k (by omega)]
        unfold ano
        rw [iu_ne (by omega), iu_ne (by omega), c1]
        by_cases e : p' ≤ k ∧ k < p' + cn j'
        · have hwi := wi_b (allW_all _ ha (k - p') (by omega))
          rw [if_pos e, if_pos e, if_pos ⟨rfl, e⟩, y0 _ _ (by omega) (by omega)]
          exact ⟨rfl, (hL j' hj).2.2.2.2 _ (by omega), by omega, by omega⟩
        · rw [if_neg e, if_neg e, if_neg (fun w => e w.2), y0 _ _ (by omega) (by omega)]
          exact ⟨hw9.2.2.1, (hG k hk).2.2.2.2.1.trans hw9.2.2.1, hw9.2.2.2⟩
      · rw [c2 _ _ (by omega) (by omega)]; exact y7.1
      · rw [c2 _ _ (by omega) (by omega)]; exact y7.2.1
      · rw [c2 _ _ (by omega) (by omega)]; exact y7.2.2
      · unfold ano; rw [iu_ne (by omega), iu_eq]
      · unfold ano; rw [iu_eq]
end K11
