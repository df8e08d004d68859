theorem lenI_eq {a b c tl : Nat} {I : Nat → Nat → Int32} {w : Int64} (hab : a ≠ b) : ∀ k q i, lenI a b c I tl w k q i = if q = b ∧ i = c then (if k = 0 then I b c else nI (tl + k)) else if q = a ∧ tl ≤ i ∧ i < tl + k then byteOf w (i - tl) else I q i
  | 0, q, i => by
    show I q i = _
    by_cases h : q = b ∧ i = c
    · rw [if_pos h, if_pos rfl, h.1, h.2]
    · rw [if_neg h, if_neg (by omega)]
  | k + 1, q, i => by
    show iu (iu (lenI a b c I tl w k) a (tl + k) (byteOf w k)) b c (nI (tl + k + 1)) q i = _
    by_cases h : q = b ∧ i = c
    · rw [if_pos h, if_neg (by omega), h.1, h.2, iu_eq]; rfl
    · rw [if_neg h, iu_ne (by omega)]
      by_cases h2 : q = a ∧ i = tl + k
      · rw [if_pos (by omega), h2.1, h2.2, iu_eq, show tl + k - tl = k by omega]
      · rw [iu_ne (by omega), lenI_eq hab k q i, if_neg h]
        by_cases h3 : q = a ∧ tl ≤ i ∧ i < tl + k
        · rw [if_pos h3, if_pos (by omega)]
        · rw [if_neg h3, if_neg (by omega)]
theorem adI_eq {a b c tp : Nat} {I : Nat → Nat → Int32} (h1 : a ≠ b) (h2 : a ≠ c) (h3 : b ≠ c) : ∀ m q i, adI a b c tp I m q i = if q = a ∧ i < m then kOf (I tp (5 * i)) else if q = b ∧ i < m then I tp (5 * i + 1) - 48 else if q = c ∧ i < m then I tp (5 * i + 3) - 48 else I q i
  | 0, q, i => by
    rw [if_neg (by omega), if_neg (by omega), if_neg (by omega)]; rfl
  | m + 1, q, i => by
    show iu (iu (iu (adI a b c tp I m) a m (kOf (I tp (5 * m)))) b m (I tp (5 * m + 1) - 48)) c m (I tp (5 * m + 3) - 48) q i = _
    by_cases e1 : q = c ∧ i = m
    · obtain ⟨rfl, rfl⟩ := e1
      rw [iu_eq, if_neg (by omega), if_neg (by omega), if_pos (by omega)]
    · rw [iu_ne (by omega)]
      by_cases e2 : q = b ∧ i = m
      · obtain ⟨rfl, rfl⟩ := e2
        rw [iu_eq, if_neg (by omega), if_pos (by omega)]
      · rw [iu_ne (by omega)]
        by_cases e3 : q = a ∧ i = m
        · obtain ⟨rfl, rfl⟩ := e3
          rw [iu_eq, if_pos (by omega)]
        · rw [iu_ne (by omega), adI_eq h1 h2 h3 m q i]
          by_cases g1 : q = a ∧ i < m
          · rw [if_pos g1, if_pos (by omega)]
          · rw [if_neg g1, if_neg (show ¬ (q = a ∧ i < m + 1) by omega)]
            by_cases g2 : q = b ∧ i < m
            · rw [if_pos g2, if_pos (by omega)]
            · rw [if_neg g2, if_neg (show ¬ (q = b ∧ i < m + 1) by omega)]
              by_cases g3 : q = c ∧ i < m
              · rw [if_pos g3, if_pos (by omega)]
              · rw [if_neg g3, if_neg (by omega)]
theorem cs_12 {tp : Nat → Int32} {p : Nat} (h : ∀ q, q < p → ¬ csC tp q = 0) : csC tp p = csM tp p := csCM tp p (fun h3 => by
  have h1 := h (p - 2) (by omega)
  unfold csC at h1
  rw [if_neg (by omega), if_pos (by omega)] at h1
  exact h1)
theorem cs_21 {tp : Nat → Int32} {p : Nat} (h : ∀ q, q < p → ¬ csM tp q = 0) : ∀ q, q ≤ p → (q < p → ¬ csC tp q = 0) ∧ csC tp q = csM tp q := by
  intro q
  induction q using Nat.strongRecOn with
  | _ q ih =>
    intro hq
    have e := cs_12 (tp := tp) (p := q) (fun r hr => (ih r hr (by omega)).1 (by omega))
    exact ⟨fun hl => by rw [e]; exact h q hl, e⟩
theorem allW_all {f : Nat → Int32} {lo hi : Int32} : ∀ n, ¬ allW f lo hi n = 0 → ∀ i, i < n → ¬ wi (f i) lo hi = 0
  | 0, _, i, h => by omega
  | n + 1, h, i, hi2 => by
    unfold allW at h
    by_cases q : allW f lo hi n = 0
    · rw [if_pos q] at h; exact absurd rfl h
    · rw [if_neg q] at h
      by_cases e : i = n
      · rw [e]; exact h
      · exact allW_all n q i (by omega)
theorem allW_cg {f g : Nat → Int32} {lo hi : Int32} : ∀ n, (∀ i, i < n → f i = g i) → allW f lo hi n = allW g lo hi n
  | 0, _ => rfl
  | n + 1, h => by
    unfold allW
    rw [allW_cg n (fun i hi => h i (by omega)), h n (by omega)]
theorem rdI_at {I : Nat → Nat → Int32} {sp : Nat → Nat} {a f : Nat} (hinj : ∀ i j, i < 10 → j < 10 → sp i = sp j → i = j) {x : Nat} (hx : x < 10) : ∀ k, f + k ≤ 10 → rdI I sp a f k (sp x) 2 = if f ≤ x ∧ x < f + k then I a (x - f) else I (sp x) 2
  | 0, _ => by rw [if_neg (by omega)]; rfl
  | k + 1, hk => by
    show iu (rdI I sp a f k) (sp (f + k)) 2 (I a k) (sp x) 2 = _
    by_cases e : x = f + k
    · rw [e, iu_eq, if_pos (by omega), show f + k - f = k by omega]
    · have hne : sp x ≠ sp (f + k) := fun w => e (hinj x (f + k) hx (by omega) w)
      rw [iu_ne (Or.inl hne), rdI_at hinj hx k (by omega)]
      by_cases g : f ≤ x ∧ x < f + k
      · rw [if_pos g, if_pos (by omega)]
      · rw [if_neg g, if_neg (by omega)]
theorem rdI_2 {I : Nat → Nat → Int32} {sp : Nat → Nat} {a f q i : Nat} (h : i ≠ 2) : ∀ k, rdI I sp a f k q i = I q i
  | 0 => rfl
  | k + 1 => (iu_ne (Or.inr h)).trans (rdI_2 h k)
section K8
variable {I : Nat → Nat → Int32} {sp : Nat → Nat} {pl : Bool} {J : Nat → Nat → Int32} {ns nstr nc : Nat} {d : pD} {cs : Nat → pC} {fr to sc kd : Nat → Nat} {nr tl nm : Nat} {cn : Nat → Nat}
theorem k_feed (w : Int64) (v : Int32) (h : Inv I sp pl) : aRuns mX11_feed (rK 1) [.ref 0, .long w, .int v] (nn pl) (MM I sp pl) (KM pl mX12_feed (rK 1) [.ref 101, .long w, .int v]) := by
  obtain ⟨ns, nstr, nc, d, cs, fr, to, sc, kd, nr, tl, nm, cn, hC, hK⟩ := h
  have hW := hC.1
  have hMo := hC.2.1
  have h8 := hW.2.1.2
  have hs4 := hW.1.2
  have h10 := hW.2.2.2.2.2.2.1.2
  have hsp := hW.2.2.2.2.2.2.2.1
  have hstr := hW.2.2.1.2
  have hr := hC.2.2.1
  have e5 := hMo.2.2.2.2.2.1
  have hKt := hC.2.2.2.2.2.2.2.2.1
  refine c_feed w v tl hr.2.2.1 hr.2.2.2 (fun hb => ?_) (fun m hm hv hb hf => ?_) (fun m hm hv hb hf => ?_)
  · refine ⟨_, _, _, rfl, rfl, rfl, m_feed w v tl ((iu_ne (by omega)).trans e5) hr.2.2.2 (fun _ => ⟨_, rfl, rfl, rfl, Inv_f2 hC hK⟩) (fun m hm hv hb' _ => absurd hb hb') (fun m hm hv hb' _ => absurd hb hb')⟩
  · refine ⟨_, _, _, rfl, rfl, rfl, m_feed w v tl ((iu_ne (by omega)).trans e5) hr.2.2.2 (fun hb' => absurd hb' hb) (fun m hm hv hb' _ => ⟨_, rfl, rfl, rfl, Inv_f2 hC hK⟩) (fun m' hm' hv' hb' hf' => ?_)⟩
    exfalso
    have e : m' = m := (nI_eq (by omega) (by omega)).mp (hv'.symm.trans hv)
    omega
  · have hm1 : m ≠ 0 := fun e => by
      rw [e] at hv; rw [hv] at hb; exact hb (by decide)
    have h1 := lenI_eq (a := 76) (b := 75) (c := 0) (tl := tl) (I := I) (w := w) (by omega) m
    refine ⟨_, _, _, rfl, rfl, rfl, ?_⟩
    refine m_feed w v tl (by rw [h1, if_neg (by omega), if_neg (by omega)]; exact e5) hr.2.2.2 (fun hb' => absurd hb' hb) (fun m' hm' hv' hb' hf' => ?_) (fun m' hm' hv' hb' hf' => ⟨_, ?_, rfl, rfl, ?_⟩)
    · exfalso
      have e : m' = m := (nI_eq (by omega) (by omega)).mp (hv'.symm.trans hv)
      omega
    · have e : m' = m := (nI_eq (by omega) (by omega)).mp (hv'.symm.trans hv)
      rw [e]
    · have e : m' = m := (nI_eq (by omega) (by omega)).mp (hv'.symm.trans hv)
      subst e
      generalize lenI 76 75 0 I tl w m' = I1 at *
      have h2 := lenI_eq (a := 117) (b := 101) (c := 5) (tl := tl) (I := I1) (w := w) (by omega) m'
      generalize lenI 117 101 5 I1 tl w m' = J at *
      refine Inv_tape hC hK (tl + m') hf (fun q i hh => ?_) (funext fun i => ?_) ?_ ?_
      · rw [h2, if_neg (by omega), if_neg (by omega), h1, if_neg (by omega), if_neg (by omega)]
      · have n1 : ¬ (117 = 101 ∧ i = 5) := by omega
        have n2 : ¬ (76 = 101 ∧ i = 5) := by omega
        have n3 : ¬ (76 = 117 ∧ tl ≤ i ∧ i < tl + m') := by omega
        have n4 : ¬ (117 = 75 ∧ i = 0) := by omega
        have n5 : ¬ (76 = 75 ∧ i = 0) := by omega
        have n6 : ¬ (117 = 76 ∧ tl ≤ i ∧ i < tl + m') := by omega
        have a2 : J 76 i = if 76 = 76 ∧ tl ≤ i ∧ i < tl + m' then byteOf w (i - tl) else I 76 i := by rw [h2, if_neg n2, if_neg n3, h1, if_neg n5]
        have a3 : I1 117 i = I 76 i := by rw [h1, if_neg n4, if_neg n6, hKt.2.2.2.1]
        rw [a2, h2, if_neg n1, a3]
        by_cases q : tl ≤ i ∧ i < tl + m'
        · rw [if_pos ⟨rfl, q⟩, if_pos ⟨rfl, q⟩]
        · rw [if_neg (fun w => q w.2), if_neg (fun w => q w.2)]
      · rw [h2, if_neg (by omega), if_neg (by omega), h1, if_pos ⟨rfl, rfl⟩, if_neg hm1]
      · rw [h2, if_pos ⟨rfl, rfl⟩, if_neg hm1]
theorem k_text  (h : Inv I sp pl) : aRuns mX11_text (rK 3) [.ref 0] (nn pl) (MM I sp pl) (KM pl mX12_text (rK 2) [.ref 101]) := by
  obtain ⟨ns, nstr, nc, d, cs, fr, to, sc, kd, nr, tl, nm, cn, hC, hK⟩ := h
  have hW := hC.1
  have hMo := hC.2.1
  have h8 := hW.2.1.2
  have hs4 := hW.1.2
  have h10 := hW.2.2.2.2.2.2.1.2
  have hsp := hW.2.2.2.2.2.2.2.1
  have hstr := hW.2.2.1.2
  have hr := hC.2.2.1
  have e5 := hMo.2.2.2.2.2.1
  have hKt := hC.2.2.2.2.2.2.2.2.1
  have h117 := hKt.2.2.2.1
  have inv0 : Inv (fndM (iu (fnd (iu I 75 0 0)) 101 5 0)) sp pl := by
    have h0 : Inv (iu (iu I 75 0 0) 101 5 0) sp pl := Inv_tape hC hK 0 (by omega) (fun q i hh => by rw [iu_ne (by omega), iu_ne (by omega)]) (by rw [show iu (iu I 75 0 0) 101 5 0 117 = I 117 from funext fun i => by rw [iu_ne (by omega), iu_ne (by omega)], show iu (iu I 75 0 0) 101 5 0 76 = I 76 from funext fun i => by rw [iu_ne (by omega), iu_ne (by omega)]]; exact h117) (by rw [iu_ne (by omega), iu_eq]; rfl) (by rw [iu_eq]; rfl)
    obtain ⟨ns, nstr, nc, d, cs, fr, to, sc, kd, nr, tl, nm, cn, hC', hK'⟩ := h0
    have h6 := hC.2.1.2.2.2.2.2.2.1
    refine Inv_fnd hC' hK' (fun q i a b => ?_) ?_
    · unfold fndM
      rw [iu_ne (by omega)]
      by_cases e : q = 101 ∧ i = 5
      · obtain ⟨rfl, rfl⟩ := e; rw [iu_eq, iu_eq]
      · rw [iu_ne (by omega), iu_ne (by omega)]; unfold fnd; rw [iu_ne (by omega)]
    · unfold fndM
      rw [iu_eq, iu_ne (by omega), iu_ne (by omega), iu_ne (by omega)]
      unfold fnd
      rw [iu_ne (by omega), iu_ne (by omega), iu_eq, iu_ne (by omega), h6]
  have hcs : ∀ X : Nat → Int32, X = I 76 → X = I 76 := fun _ h => h
  have r117 : ∀ (Y : Nat → Nat → Int32), (∀ q i, ¬ (q = 75) → q ≠ 0 → ¬ (77 ≤ q ∧ q ≤ 79) → Y q i = I q i) → Y 117 = I 76 := fun Y hY => by rw [← h117]; exact funext fun i => hY 117 i (by omega) (by omega) (by omega)
  have yf : ∀ q i, ¬ (q = 75) → q ≠ 0 → ¬ (77 ≤ q ∧ q ≤ 79) → fnd (iu I 75 0 0) q i = I q i := fun q i a b c => by unfold fnd; rw [iu_ne (by omega), iu_ne (by omega)]
  refine c_text tl hr.2.2.1 hr.2.2.2 (fun p hp h0 hlt => ?_) (fun hall h5 => ?_) (fun hall h5 h8r => ?_)
  · refine ⟨_, _, _, rfl, rfl, rfl, m_text tl ((yf 101 5 (by omega) (by omega) (by omega)).trans e5) hr.2.2.2 (fun p' hp' h0' hlt' => ⟨_, ?_, rfl, rfl, inv0⟩) (fun hall' h5' => ?_) (fun hall' h5' h8' => ?_)⟩
    · rw [r117 _ yf] at h0' hlt'
      have a1 := (cs_21 hlt' p' (Nat.le_refl _)).2
      rcases Nat.lt_trichotomy p p' with q | q | q
      · exact absurd h0 ((cs_21 hlt' p (by omega)).1 q)
      · rw [q]
      · exact absurd (a1.trans h0') (hlt p' q)
    · exfalso
      rw [r117 _ yf] at hall'
      exact (cs_21 hall' p (by omega)).1 hp h0
    · exfalso
      rw [r117 _ yf] at hall'
      exact (cs_21 hall' p (by omega)).1 hp h0
  · refine ⟨_, _, _, rfl, rfl, rfl, m_text tl ((yf 101 5 (by omega) (by omega) (by omega)).trans e5) hr.2.2.2 (fun p' hp' h0' hlt' => ?_) (fun hall' h5' => ⟨_, rfl, rfl, rfl, inv0⟩) (fun hall' h5' h8' => absurd h5' h5)⟩
    exfalso
    rw [r117 _ yf] at h0' hlt'
    have a1 := (cs_21 hlt' p' (Nat.le_refl _)).2
    exact hall p' hp' (a1.trans h0')
  · have h1 := adI_eq (a := 77) (b := 78) (c := 79) (tp := 76) (I := iu I 75 1 (nI (tl / 5))) (by omega) (by omega) (by omega) (tl / 5)
    have hy : ∀ q i, ¬ (q = 75) → q ≠ 0 → ¬ (77 ≤ q ∧ q ≤ 79) → iu (iu (adI 77 78 79 76 (iu I 75 1 (nI (tl / 5))) (tl / 5)) 0 9 0) 75 0 0 q i = I q i := fun q i a b c => by
      rw [iu_ne (by omega), iu_ne (by omega), h1, if_neg (by omega), if_neg (by omega), if_neg (by omega), iu_ne (by omega)]
    have ha : ∀ i, iu (iu (adI 77 78 79 76 (iu I 75 1 (nI (tl / 5))) (tl / 5)) 0 9 0) 75 0 0 77 i = if i < tl / 5 then kOf (I 76 (5 * i)) else I 77 i := fun i => by
      rw [iu_ne (by omega), iu_ne (by omega), h1]
      by_cases q : i < tl / 5
      · rw [if_pos ⟨rfl, q⟩, if_pos q, iu_ne (by omega)]
      · rw [if_neg (fun w => q w.2), if_neg (fun w => q w.2), if_neg (fun w => q w.2), if_neg q, iu_ne (by omega)]
    have hb : ∀ i, iu (iu (adI 77 78 79 76 (iu I 75 1 (nI (tl / 5))) (tl / 5)) 0 9 0) 75 0 0 78 i = if i < tl / 5 then I 76 (5 * i + 1) - 48 else I 78 i := fun i => by
      rw [iu_ne (by omega), iu_ne (by omega), h1, if_neg (by omega)]
      by_cases q : i < tl / 5
      · rw [if_pos ⟨rfl, q⟩, if_pos q, iu_ne (by omega)]
      · rw [if_neg (fun w => q w.2), if_neg (fun w => q w.2), if_neg q, iu_ne (by omega)]
    have hcc : ∀ i, iu (iu (adI 77 78 79 76 (iu I 75 1 (nI (tl / 5))) (tl / 5)) 0 9 0) 75 0 0 79 i = if i < tl / 5 then I 76 (5 * i + 3) - 48 else I 79 i := fun i => by
      rw [iu_ne (by omega), iu_ne (by omega), h1, if_neg (by omega), if_neg (by omega)]
      by_cases q : i < tl / 5
      · rw [if_pos ⟨rfl, q⟩, if_pos q, iu_ne (by omega)]
      · rw [if_neg (fun w => q w.2), if_neg q, iu_ne (by omega)]
    have h75 : iu (iu (adI 77 78 79 76 (iu I 75 1 (nI (tl / 5))) (tl / 5)) 0 9 0) 75 0 0 75 1 = nI (tl / 5) := by
      rw [iu_ne (by omega), iu_ne (by omega), h1, if_neg (by omega), if_neg (by omega), if_neg (by omega), iu_eq]
    have h750 : iu (iu (adI 77 78 79 76 (iu I 75 1 (nI (tl / 5))) (tl / 5)) 0 9 0) 75 0 0 75 0 = 0 := iu_eq
    have h09 : iu (iu (adI 77 78 79 76 (iu I 75 1 (nI (tl / 5))) (tl / 5)) 0 9 0) 75 0 0 0 9 = 0 := by rw [iu_ne (by omega), iu_eq]
    have h0o : ∀ i, i ≠ 9 → iu (iu (adI 77 78 79 76 (iu I 75 1 (nI (tl / 5))) (tl / 5)) 0 9 0) 75 0 0 0 i = I 0 i := fun i hi => by
      rw [iu_ne (by omega), iu_ne (by omega), h1, if_neg (by omega), if_neg (by omega), if_neg (by omega), iu_ne (by omega)]
    refine ⟨_, _, _, rfl, rfl, rfl, ?_⟩
    generalize iu (iu (adI 77 78 79 76 (iu I 75 1 (nI (tl / 5))) (tl / 5)) 0 9 0) 75 0 0 = X at *
    have x117 := r117 X hy
    refine m_text tl ((hy 101 5 (by omega) (by omega) (by omega)).trans e5) hr.2.2.2 (fun p' hp' h0' hlt' => ?_) (fun hall' h5' => absurd h5 h5') (fun hall' h5' h8' => ⟨_, rfl, rfl, rfl, ?_⟩)
    · exfalso
      rw [x117] at h0' hlt'
      have a1 := (cs_21 hlt' p' (Nat.le_refl _)).2
      exact hall p' hp' (a1.trans h0')
    · have h2 := adI_eq (a := 114) (b := 115) (c := 116) (tp := 117) (I := iu (iu X 101 5 0) 101 4 (nI (tl / 5))) (by omega) (by omega) (by omega) (tl / 5)
      have t117 : ∀ i, iu (iu X 101 5 0) 101 4 (nI (tl / 5)) 117 i = I 76 i := fun i => by rw [iu_ne (by omega), iu_ne (by omega)]; exact congrFun x117 i
      have hz : ∀ q i, ¬ (114 ≤ q ∧ q ≤ 116) → ¬ (q = 101 ∧ (i = 4 ∨ i = 5 ∨ i = 29 ∨ i = 30)) → ano (adI 114 115 116 117 (iu (iu X 101 5 0) 101 4 (nI (tl / 5))) (tl / 5)) q i = X q i := fun q i a b => by
        unfold ano
        rw [iu_ne (by omega), iu_ne (by omega), h2, if_neg (by omega), if_neg (by omega), if_neg (by omega), iu_ne (by omega), iu_ne (by omega)]
      refine Inv_rule hC hK (tl / 5) h8r (fun q i hh => ?_) (funext fun i => ?_) (funext fun i => ?_) (funext fun i => ?_) ?_ ?_ ?_ ?_ (fun r hr2 => ?_) ?_ ?_ ?_
      · rw [hz q i (by omega) (by omega)]
        by_cases e : q = 0
        · rw [e]; exact h0o i (by omega)
        · exact hy q i (by omega) e (by omega)
      · rw [hz 77 i (by omega) (by omega), ha]
        unfold ano
        rw [iu_ne (by omega), iu_ne (by omega), h2]
        by_cases q : i < tl / 5
        · rw [if_pos ⟨rfl, q⟩, if_pos q, t117]
        · rw [if_neg (fun w => q w.2), if_neg (by omega), if_neg (by omega), if_neg q, iu_ne (by omega), iu_ne (by omega), hy 114 i (by omega) (by omega) (by omega)]
          exact congrFun hKt.1 i
      · rw [hz 78 i (by omega) (by omega), hb]
        unfold ano
        rw [iu_ne (by omega), iu_ne (by omega), h2, if_neg (by omega)]
        by_cases q : i < tl / 5
        · rw [if_pos ⟨rfl, q⟩, if_pos q, t117]
        · rw [if_neg (fun w => q w.2), if_neg (by omega), if_neg q, iu_ne (by omega), iu_ne (by omega), hy 115 i (by omega) (by omega) (by omega)]
          exact congrFun hKt.2.1 i
      · rw [hz 79 i (by omega) (by omega), hcc]
        unfold ano
        rw [iu_ne (by omega), iu_ne (by omega), h2, if_neg (by omega), if_neg (by omega)]
        by_cases q : i < tl / 5
        · rw [if_pos ⟨rfl, q⟩, if_pos q, t117]
        · rw [if_neg (fun w => q w.2), if_neg q, iu_ne (by omega), iu_ne (by omega), hy 116 i (by omega) (by omega) (by omega)]
          exact congrFun hKt.2.2.1 i
      · rw [hz 75 1 (by omega) (by omega)]; exact h75
      · unfold ano
        rw [iu_ne (by omega), iu_ne (by omega), h2, if_neg (by omega), if_neg (by omega), if_neg (by omega), iu_eq]
      · rw [hz 75 0 (by omega) (by omega)]; exact h750
      · unfold ano
        rw [iu_ne (by omega), iu_ne (by omega), h2, if_neg (by omega), if_neg (by omega), if_neg (by omega), iu_ne (by omega), iu_eq]
      · rw [hz 77 r (by omega) (by omega), ha, if_pos hr2]
        have hc5 := hall (5 * r) (by omega)
        unfold csC at hc5
        rw [if_pos (by omega)] at hc5
        by_cases q : 5 * r < 40 ∧ ¬ kOf (I 76 (5 * r)) < 0
        · exact q.2
        · rw [if_neg q] at hc5; exact absurd rfl hc5
      · rw [hz 0 9 (by omega) (by omega)]; exact h09
      · unfold ano
        rw [iu_ne (by omega), iu_eq]
      · unfold ano
        rw [iu_eq]
end K8
