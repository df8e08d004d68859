section K16
variable {I : Nat → Nat → Int32} {sp : Nat → Nat} {pl : Bool} {J K X : Nat → Nat → Int32} {ns nstr nc : Nat} {d : pD} {cs : Nat → pC} {fr to sc kd : Nat → Nat} {nr tl nm : Nat} {cn : Nat → Nat}
theorem Core_ts (hC : Core I sp ns nstr nc d cs fr to sc kd nr tl nm cn) (k : Nat) : tS (alN I nr ns) (coN I sp d ns) (nbN d cs (alC I sp d) (I 1 8) ns) k = tsM I d cs ns nr k := by
  have hs4 := hC.1.1.2
  have a1 : alN I nr ns = alW I nr ns := funext fun c => alF_cg ns (Nat.le_refl _) (fun s hs => by
    unfold gCl alG
    rw [(hC.2.2.2.2.1 s (by omega)).1, hC.2.2.2.2.2.2.2.2.1.1, hC.2.2.2.2.2.2.2.2.1.2.1, hC.2.2.2.2.2.2.2.2.1.2.2.1])
  have a2 : coN I sp d ns = coM I d ns := funext fun c => cSum_congr ns (fun s hs => by
    unfold pCl trP
    rw [sumS_sumB, (hC.2.2.2.2.1 s (by omega)).2.2.2, setOf_congr (f := fun k => I (sp k) 0) (g := I 110) d.1 (fun k hk => (hC.2.2.2.2.2.2.1 k hk).2.2.1.symm), sumB_bits (g := fun k => I (sp k) 2) (g' := I 112) d.1 (fun k hk _ => (hC.2.2.2.2.2.2.1 k hk).2.2.2.2.1.symm)])
  have a3 : nbN d cs (alC I sp d) (I 1 8) ns = nbM I d cs ns := funext fun c => by unfold nbN nbM; rw [Core_al hC, hC.2.1.2.2.2.2.2.2.2.2.2]
  unfold tsM
  rw [a1, a2, a3]
theorem fin_T (hC : Core J sp ns nstr nc d cs fr to sc kd nr tl nm cn) (hK : Cach J sp pl ns d cs nr) (hF : ∀ q i, ¬ (121 ≤ q ∧ q ≤ 143) → ¬ (q = 101 ∧ (i = 29 ∨ i = 30 ∨ i = 42 ∨ i = 43 ∨ i = 56)) → K q i = J q i) (hP : PlM K d cs (alM J d) ns) (hT : ¬ K 101 30 = 0 → TRL K (lsM J d cs ns nr 11).2 (tsM J d cs ns nr (7 ^ ns)) ns) : Core K sp ns nstr nc d cs fr to sc kd nr tl nm cn ∧ Cach K sp pl ns d cs nr := by
  have h8 := hC.1.2.1.2
  have hW := hC.1
  have eM : alM K d = alM J d := PlM_al hC (fun i => hF _ _ (by omega) (by omega))
  have ea : alC K sp d = alC J sp d := alC_sp hW.2.2.2.2.2.2.1.2 hW.2.2.2.2.2.2.2.1 (fun q i h => hF q i (by omega) (by omega))
  obtain ⟨t1, t2⟩ := ts_fr (I := J) (J := K) (d := d) (cs := cs) (ns := ns) (nr := nr) (fun q i hh => hF q i (by omega) (by omega))
  have e7 : K 0 7 = J 0 7 := hF _ _ (by omega) (by omega)
  have e18 : K 1 8 = J 1 8 := hF _ _ (by omega) (by omega)
  have e26 : (fun s => K 26 s) = (fun s => J 26 s) := funext fun s => hF 26 s (by omega) (by omega)
  refine ⟨Core_fr hC (fun q i hc => by unfold coreC at hc; exact hF q i (by omega) (by omega)) (by rw [hF 101 6 (by omega) (by omega), hF 0 10 (by omega) (by omega)]; exact hC.2.1.2.2.2.2.2.2.1) (fun hm a b ha hb => ?_), fun q => ?_, fun q => ?_, fun q => ?_, fun _ => by rw [eM]; exact hP, fun q => by rw [t1, t2]; exact hT q⟩
  · rw [hF 2 8 (by omega) (by omega)] at hm
    rw [hF _ _ (by omega) (by omega)]
    exact hW.2.2.2.2.2.2.2.2.2.2.2 hm a b ha hb
  · rw [e7] at q
    obtain ⟨a, b, c⟩ := hK.1 q
    rw [ea, e18]
    exact ⟨a, PCs_fr hW.1.2 b (fun q i h => hF q i (by omega) (by omega)), FlC_fr (CW_al hW) c (fun q i h => hF q i (by omega) (by omega))⟩
  · rw [hF 0 8 (by omega) (by omega)] at q
    obtain ⟨a, b⟩ := hK.2.1 q
    rw [e7, ea]
    refine ⟨a, ?_⟩
    unfold fC
    rw [e26, e18, ea]
    exact ⟨fun x hx => (hF _ _ (by omega) (by omega)).trans (b.1 x hx), (hF _ _ (by omega) (by omega)).trans b.2⟩
  · rw [hF 0 9 (by omega) (by omega)] at q
    obtain ⟨a, b⟩ := hK.2.2.1 q
    rw [e7, t1, t2]
    exact ⟨a, MkT_fr b (fun q i h => hF q i (by omega) (by omega))⟩
theorem ts_fnd (l : List Nat) (ts : tU) (hl : (lsM J d cs ns nr 11).2 = l) (hts : tsM J d cs ns nr (7 ^ ns) = ts) : (lsM (fnd J) d cs ns nr 11).2 = l ∧ tsM (fnd J) d cs ns nr (7 ^ ns) = ts := by
  obtain ⟨t1, t2⟩ := ts_fr (I := J) (J := fnd J) (d := d) (cs := cs) (ns := ns) (nr := nr) (fun q i hh => fnd_o (by omega))
  rw [t1, t2]; exact ⟨hl, hts⟩
theorem TRL_fr {l : List Nat} {ts : tU} (b : TRL J l ts ns) (f : ∀ q i, (140 ≤ q ∧ q ≤ 142) ∨ (q = 101 ∧ i = 56) → K q i = J q i) : TRL K l ts ns := ⟨(f _ _ (by omega)).trans b.1, fun i n hi => by
  obtain ⟨c1, c2, c3⟩ := b.2 i n hi
  exact ⟨(f _ _ (by omega)).trans c1, (f _ _ (by omega)).trans c2, fun c hc s hs => (f _ _ (by omega)).trans (c3 c hc s hs)⟩⟩
theorem ends_T (hC : Core I sp ns nstr nc d cs fr to sc kd nr tl nm cn) (hK : Cach I sp pl ns d cs nr) {v v' : Int32} {l : List Nat} {ts : tU} (hl : (lsM I d cs ns nr 11).2 = l) (hts : tsM I d cs ns nr (7 ^ ns) = ts) (hv : v' = v) (hF : FrT I K) (hP : PlM K d cs (alM I d) ns) (hT : ¬ K 101 30 = 0 → TRL K l ts ns) : qi (ends pl sp v) v' K sp pl := ⟨_, by rw [hv], rfl, rfl, by obtain ⟨a, b⟩ := fin_T hC hK hF.1 hP (by rw [hl, hts]; exact hT); exact Inv_of a b⟩
theorem ends_U (hC : Core I sp ns nstr nc d cs fr to sc kd nr tl nm cn) (hK : Cach I sp pl ns d cs nr) (v : Int32) {l : List Nat} {ts : tU} (hl : (lsM I d cs ns nr 11).2 = l) (hts : tsM I d cs ns nr (7 ^ ns) = ts) (hF : FrT (fnd I) K) (hP : PlM K d cs (alM (fnd I) d) ns) (hT : ¬ K 101 30 = 0 → TRL K l ts ns) : qi (ends pl sp v) v (fndM K) sp pl := by
  have eM : alM (fnd I) d = alM I d := PlM_al hC (fun i => fnd_o (by omega))
  rw [eM] at hP
  have u : ∀ q i, ¬ (q = 0 ∧ i = 10) → iu K 0 10 (I 0 10) q i = K q i := fun q i h => iu_ne (by omega)
  obtain ⟨c1, c2⟩ := fin_T (K := iu K 0 10 (I 0 10)) hC hK (fun q i a b => by
    by_cases h : q = 0 ∧ i = 10
    · obtain ⟨rfl, rfl⟩ := h; rw [iu_eq]
    · rw [u q i h, hF.1 q i a b, fnd_o (by omega)]) (PlM_fr hC.1.2.2.2.2.2.2.1.2 hP (fun q i h => u q i (by omega))) (fun q => by
      rw [u 101 30 (by omega)] at q
      rw [hl, hts]
      exact TRL_fr (hT q) (fun q i h => u q i (by omega)))
  refine ⟨_, rfl, rfl, rfl, Inv_fnd2 c1 c2 (fun q i a b => ?_) ?_ ?_⟩
  · rw [u q i a]; exact fndM_o (by omega)
  · rw [iu_eq, fndM_o (by omega), hF.1 0 10 (by omega) (by omega)]; exact iu_eq
  · rw [u 101 6 (by omega)]; exact iu_eq
/-- the trades are found -/
theorem aft_WT (hC : Core I sp ns nstr nc d cs fr to sc kd nr tl nm cn) (hK : Cach I sp pl ns d cs nr) {l : List Nat} {ts : tU} (hl : (lsM I d cs ns nr 11).2 = l) (hts : tsM I d cs ns nr (7 ^ ns) = ts) (h : WT I K sp ns nstr nc d cs fr to l ts) : Core K sp ns nstr nc d cs fr to sc kd nr tl nm cn ∧ Cach K sp true ns d cs nr ∧ alC K sp d = alC I sp d ∧ (lsM K d cs ns nr 11).2 = l ∧ tsM K d cs ns nr (7 ^ ns) = ts := by
  obtain ⟨⟨J, hD, hL⟩, k9, kM, kW, kP, kF, k7⟩ := h
  obtain ⟨cJ, kJ⟩ := aft_DP hC hK hD
  have hW := hC.1
  have ea : alC J sp d = alC I sp d := alC_fr hW (FrDr_C hD.1)
  have g := hL
  unfold FrWt at g
  have gI : ∀ q i, 101 ≤ q ∧ q < 147 → K q i = I q i := fun q i h => (g q i (by omega) (by omega) (by omega)).trans (hD.1 q i (by omega) (by omega) (by omega) (by omega) (by omega) (by omega) (by omega) (by omega) (by omega))
  have eb : alC K sp d = alC I sp d := (alC_sp hW.2.2.2.2.2.2.1.2 hW.2.2.2.2.2.2.2.1 (fun q i h => g q i (by omega) (by omega) (by omega))).trans ea
  have ebJ : alC K sp d = alC J sp d := eb.trans ea.symm
  have e18J : K 1 8 = J 1 8 := g 1 8 (by omega) (by omega) (by omega)
  have e18 : K 1 8 = I 1 8 := e18J.trans (hD.1 1 8 (by omega) (by omega) (by omega) (by omega) (by omega) (by omega) (by omega) (by omega) (by omega))
  have e26 : (fun s => K 26 s) = (fun s => J 26 s) := funext fun s => g 26 s (by omega) (by omega) (by omega)
  obtain ⟨m1, m2⟩ := Cach_m (K := K) cJ kJ (fun q i h => g q i (by omega) (by omega) (by omega))
  obtain ⟨t1, t2⟩ := ts_fr (I := I) (J := K) (d := d) (cs := cs) (ns := ns) (nr := nr) (fun q i hh => gI q i (by omega))
  refine ⟨Core_fr cJ (fun q i hc => by unfold coreC at hc; exact g q i (by omega) (by omega) (by omega)) (by rw [g 101 6 (by omega) (by omega) (by omega), g 0 10 (by omega) (by omega) (by omega)]; exact cJ.2.1.2.2.2.2.2.2.1) kW.2.2.2.2.2.2.2.2.2.2.2, ⟨fun _ => ⟨rfl, by rw [eb]; exact kP, by rw [eb, e18]; exact kF⟩, fun q => ⟨k7, ?_⟩, fun _ => ⟨k7, by rw [t1, t2, hl, hts]; exact kM⟩, m1, m2⟩, eb, by rw [t2]; exact hl, by rw [t1]; exact hts⟩
  rw [g 0 8 (by omega) (by omega) (by omega)] at q
  have b := (kJ.2.1 q).2
  unfold fC
  rw [e26, e18J, ebJ]
  exact ⟨fun x hx => (g _ _ (by omega) (by omega) (by omega)).trans (b.1 x hx), (g _ _ (by omega) (by omega) (by omega)).trans b.2⟩
theorem fr89 (hC : Core J sp ns nstr nc d cs fr to sc kd nr tl nm cn) (hK : Cach J sp pl ns d cs nr) (u : ∀ q i, q ≠ 89 → K q i = J q i) : Core K sp ns nstr nc d cs fr to sc kd nr tl nm cn ∧ Cach K sp pl ns d cs nr ∧ alC K sp d = alC J sp d := by
  have h8 := hC.1.2.1.2
  refine ⟨Core_fr hC (fun q i h => u q i (by unfold coreC at h; omega)) (by rw [u 101 6 (by omega), u 0 10 (by omega)]; exact hC.2.1.2.2.2.2.2.2.1) (fun hm a b ha hb => ?_), Cach_fr hC.1 hK (fun q i h => u q i (by unfold cachC at h; omega)), alC_sp hC.1.2.2.2.2.2.2.1.2 hC.1.2.2.2.2.2.2.2.1 (fun q i h => u q i (by omega))⟩
  rw [u 2 8 (by omega)] at hm
  rw [u _ _ (by omega)]
  exact hC.1.2.2.2.2.2.2.2.2.2.2.2 hm a b ha hb
theorem w_guard {k : Nat} (hk : k ≤ 4) (w : Int32) : w < 2 + nI k ↔ ¬ 1 + nI k < w := by
  have e1 : ∀ k, k ≤ 4 → (2 + nI k).toInt = (1 + nI k).toInt + 1 := by decide
  have := e1 k hk
  rw [Int32.lt_iff_toInt_lt, Int32.lt_iff_toInt_lt]
  omega
theorem Inv_bells (hC : Core I sp ns nstr nc d cs fr to sc kd nr tl nm cn) (hK : Cach I sp pl ns d cs nr)  (u : ∀ q i, q ≠ 26 ∧ q ≠ 108 ∧ q ≠ 89 ∧ ¬ (q = 0 ∧ i = 8) → J q i = I q i) (f1 : ∀ s, s < ns → J 26 s = J 108 s ∧ 0 ≤ (J 26 s).toInt ∧ (J 26 s).toInt ≤ 6) (f2 : ∀ s, ns ≤ s → J 26 s = I 26 s ∧ J 108 s = I 108 s) (f3 : J 0 8 = 0) : Inv J sp pl := by
  have hW := hC.1
  have hMo := hC.2.1
  have h8 := hW.2.1.2
  have hs4 := hW.1.2
  have h10 := hW.2.2.2.2.2.2.1.2
  have hsp := hW.2.2.2.2.2.2.2.1
  have hstr := hW.2.2.1.2
  refine ⟨ns, nstr, nc, d, cs, fr, to, sc, kd, nr, tl, nm, cn, ?_, ?_⟩
  · exact ⟨CW_fr2 hW (fun q i h => u q i (by omega)) (fun hm a b ha hb => by rw [u 2 8 (by omega)] at hm; rw [u _ _ (by omega)]; exact hW.2.2.2.2.2.2.2.2.2.2.2 hm a b ha hb),
      ⟨((u 101 0 (by omega)).trans hMo.1), ((u 101 1 (by omega)).trans hMo.2.1), ((u 101 2 (by omega)).trans hMo.2.2.1), ((u 101 3 (by omega)).trans hMo.2.2.2.1), ((u 101 4 (by omega)).trans hMo.2.2.2.2.1), ((u 101 5 (by omega)).trans hMo.2.2.2.2.2.1), (by rw [u 101 6 (by omega), u 0 10 (by omega)]; exact hMo.2.2.2.2.2.2.1), ((u 101 7 (by omega)).trans hMo.2.2.2.2.2.2.2.1), (by rw [u 101 8 (by omega), u 1 7 (by omega)]; exact hMo.2.2.2.2.2.2.2.2.1), (by rw [u 101 9 (by omega), u 1 8 (by omega)]; exact hMo.2.2.2.2.2.2.2.2.2)⟩,
      (by rw [u 75 0 (by omega), u 75 1 (by omega)]; exact hC.2.2.1),
      (by rw [(show J (102) = I (102) from funext fun i => u (102) i (by omega)), (show J (103) = I (103) from funext fun i => u (103) i (by omega)), (show J (104) = I (104) from funext fun i => u (104) i (by omega)), (show J (105) = I (105) from funext fun i => u (105) i (by omega)), (show J (5) = I (5) from funext fun i => u (5) i (by omega)), (show J (6) = I (6) from funext fun i => u (6) i (by omega))]; exact hC.2.2.2.1),
      (fun x hx => by
        have := hC.2.2.2.2.1 x hx
        rw [u 106 x (by omega), u 107 x (by omega), u 109 x (by omega), u (28 + 4 * x) 0 (by omega), u (28 + 4 * x) 1 (by omega), u (28 + 4 * x) 2 (by omega)]
        refine ⟨this.1, this.2.1, ?_, this.2.2.2⟩
        by_cases e : x < ns
        · exact (f1 x e).1.symm
        · rw [(f2 x (by omega)).1, (f2 x (by omega)).2]; exact this.2.2.1),
      (fun x hx => by
        have := hC.2.2.2.2.2.1 x hx
        rw [u (28 + 4 * x) 0 (by omega), u (28 + 4 * x) 2 (by omega)]
        exact ⟨this.1, this.2.1, (f1 x hx).2, this.2.2.2⟩),
      (fun x hx => by have hspx := hsp x (by omega); rw [u 110 x (by omega), u 111 x (by omega), u 112 x (by omega), u 113 x (by omega), u (sp x) 0 (by omega), u (sp x) 1 (by omega), u (sp x) 2 (by omega), u (sp x) 3 (by omega)]; exact hC.2.2.2.2.2.2.1 x hx),
      hC.2.2.2.2.2.2.2.1,
      (by rw [(show J (114) = I (114) from funext fun i => u (114) i (by omega)), (show J (115) = I (115) from funext fun i => u (115) i (by omega)), (show J (116) = I (116) from funext fun i => u (116) i (by omega)), (show J (117) = I (117) from funext fun i => u (117) i (by omega)), (show J (76) = I (76) from funext fun i => u (76) i (by omega)), (show J (77) = I (77) from funext fun i => u (77) i (by omega)), (show J (78) = I (78) from funext fun i => u (78) i (by omega)), (show J (79) = I (79) from funext fun i => u (79) i (by omega))]; exact hC.2.2.2.2.2.2.2.2.1),
      (fun j hj => by obtain ⟨p1, p2, p3, p4, p5⟩ := hC.2.2.2.2.2.2.2.2.2.1 j hj; exact ⟨p1, (u _ _ (by omega)).trans p2, by rw [u 118 j (by omega), u (93 + 2 * j) 0 (by omega)]; exact p3, (u _ _ (by omega)).trans p4, fun i hi => by rw [u 120 _ (by omega), u (94 + 2 * j) i (by omega)]; exact p5 i hi⟩),
      (by obtain ⟨p1, p2, p3, p4⟩ := hC.2.2.2.2.2.2.2.2.2.2.1; exact ⟨(u _ _ (by omega)).trans p1, p2, (u _ _ (by omega)).trans p3, fun r hr => by rw [u 144 r (by omega), u 91 r (by omega)]; exact p4 r hr⟩),
      (by rw [u 1 8 (by omega)]; exact hC.2.2.2.2.2.2.2.2.2.2.2.1),
      (by rw [u 1 7 (by omega)]; exact hC.2.2.2.2.2.2.2.2.2.2.2.2)⟩
  · exact Cach_fr3 hW hK (fun q => ⟨by rw [← u 0 7 (by omega)]; exact q, fun q i h => u q i (by omega)⟩) (fun q => absurd f3 q) (fun q => ⟨by rw [← u 0 9 (by omega)]; exact q, by rw [u 0 7 (by omega)]; exact (hK.2.2.1 (by rw [← u 0 9 (by omega)]; exact q)).1, fun q i h => u q i (by omega)⟩) (fun q => ⟨by rw [← u 101 29 (by omega)]; exact q, fun q i h => u q i (by omega)⟩) (fun q => ⟨by rw [← u 101 30 (by omega)]; exact q, fun q i h => u q i (by omega)⟩)

theorem mN_trades (hC : Core I sp ns nstr nc d cs fr to sc kd nr tl nm cn) (hK : Cach I sp pl ns d cs nr)  (l : List Nat) (ts : tU) (hl : (lsM I d cs ns nr 11).2 = l) (hts : tsM I d cs ns nr (7 ^ ns) = ts) (hp : allH d cs (alC I sp d) ns = false ∨ l = []) : aRuns mX12_trades (rK 7) [.ref 101] (nn pl) (MM (fnd I) sp pl) (ends pl sp (-1000004)) := by
  obtain ⟨hlf, htf⟩ := ts_fnd l ts hl hts
  have hr := hC.2.1.2.2.2.2.1
  have hrf : fnd I 101 4 = nI nr := (fnd_o (by omega)).trans hr
  have hr8 := hC.2.2.1.2.1
  have w2 := hC.2.1.2.2.1
  have w3 : fnd I 101 2 = nI ns := (fnd_o (by omega)).trans w2
  have w1 := hC.1.1.1
  have hns := hC.1.1.2
  have hstT : ¬ I 101 30 = 0 → TRL I l ts ns := fun q => by have := hK.2.2.2.2 q; rw [hl, hts] at this; exact this
  have hstF : ¬ fnd I 101 30 = 0 → TRL (fnd I) l ts ns := fun q => by rw [fnd_o (by omega)] at q; exact TRL_fr (hstT q) (fun q i h => fnd_o (by omega))
  have hlen : l.length ≤ 11 := by rw [← hl]; exact lsT_len _ _ 11
  have lpos : ∀ (ii n : Nat), l[ii]? = some n → ii < 11 ∧ ii < l.length := fun ii n h => by
    have := (List.getElem?_eq_some_iff.mp h).1
    omega
  have e : alM (fnd I) d = alC I sp d := mo_al hC (fun q i h => fnd_o (by omega))
  refine m_trades ns nstr nc d cs fr to (mo_MW hC (fun q i h => fnd_o (by omega))) (mo_Pl hC hK (fun q i h => fnd_o (by omega))) nr hrf hr8 l ts hlf htf hstF (fun K hF hM hT _ => ends_U hC hK _ hl hts hF hM.2.2.2.2.1 hT) (fun K hF hM hT hah hne => ?_)
  exfalso; rw [e] at hah; rcases hp with q | q
  · rw [hah] at q; exact absurd q (by decide)
  · exact hne q
theorem mO_trades (hC : Core I sp ns nstr nc d cs fr to sc kd nr tl nm cn) (hK : Cach I sp pl ns d cs nr)  (l : List Nat) (ts : tU) (hl : (lsM I d cs ns nr 11).2 = l) (hts : tsM I d cs ns nr (7 ^ ns) = ts) (hp : allH d cs (alC I sp d) ns = true) (hne : l ≠ []) : aRuns mX12_trades (rK 7) [.ref 101] (nn pl) (MM I sp pl) (ends pl sp (nI l.length)) := by
  obtain ⟨hlf, htf⟩ := ts_fnd l ts hl hts
  have hr := hC.2.1.2.2.2.2.1
  have hrf : fnd I 101 4 = nI nr := (fnd_o (by omega)).trans hr
  have hr8 := hC.2.2.1.2.1
  have w2 := hC.2.1.2.2.1
  have w3 : fnd I 101 2 = nI ns := (fnd_o (by omega)).trans w2
  have w1 := hC.1.1.1
  have hns := hC.1.1.2
  have hstT : ¬ I 101 30 = 0 → TRL I l ts ns := fun q => by have := hK.2.2.2.2 q; rw [hl, hts] at this; exact this
  have hstF : ¬ fnd I 101 30 = 0 → TRL (fnd I) l ts ns := fun q => by rw [fnd_o (by omega)] at q; exact TRL_fr (hstT q) (fun q i h => fnd_o (by omega))
  have hlen : l.length ≤ 11 := by rw [← hl]; exact lsT_len _ _ 11
  have lpos : ∀ (ii n : Nat), l[ii]? = some n → ii < 11 ∧ ii < l.length := fun ii n h => by
    have := (List.getElem?_eq_some_iff.mp h).1
    omega
  have e : alM I d = alC I sp d := Core_al hC
  refine m_trades ns nstr nc d cs fr to (Core_MW hC) hK.2.2.2.1 nr hr hr8 l ts hl hts hstT (fun K hF hM hT hq => ?_) (fun K hF hM hT hah hne => ends_T hC hK hl hts (rfl) hF hM.2.2.2.2.1 hT)
  exfalso; rw [e] at hq; rcases hq with q | q
  · rw [hp] at q; exact absurd q (by decide)
  · exact hne q
theorem mB_trade (hC : Core I sp ns nstr nc d cs fr to sc kd nr tl nm cn) (hK : Cach I sp pl ns d cs nr) (i w : Int32) (l : List Nat) (ts : tU) (hl : (lsM I d cs ns nr 11).2 = l) (hts : tsM I d cs ns nr (7 ^ ns) = ts) (hb : i < 0 ∨ w < 0 ∨ ¬ w < 2 + I 1 4) : aRuns mX12_trade (rK 7) [.ref 101, .int i, .int w] (nn pl) (MM (fnd I) sp pl) (ends pl sp (-1000001)) := by
  obtain ⟨hlf, htf⟩ := ts_fnd l ts hl hts
  have hr := hC.2.1.2.2.2.2.1
  have hrf : fnd I 101 4 = nI nr := (fnd_o (by omega)).trans hr
  have hr8 := hC.2.2.1.2.1
  have w2 := hC.2.1.2.2.1
  have w3 : fnd I 101 2 = nI ns := (fnd_o (by omega)).trans w2
  have w1 := hC.1.1.1
  have hns := hC.1.1.2
  have hstT : ¬ I 101 30 = 0 → TRL I l ts ns := fun q => by have := hK.2.2.2.2 q; rw [hl, hts] at this; exact this
  have hstF : ¬ fnd I 101 30 = 0 → TRL (fnd I) l ts ns := fun q => by rw [fnd_o (by omega)] at q; exact TRL_fr (hstT q) (fun q i h => fnd_o (by omega))
  have hlen : l.length ≤ 11 := by rw [← hl]; exact lsT_len _ _ 11
  have lpos : ∀ (ii n : Nat), l[ii]? = some n → ii < 11 ∧ ii < l.length := fun ii n h => by
    have := (List.getElem?_eq_some_iff.mp h).1
    omega
  have ixp : ∀ (ii n : Nat), l[ii]? = some n → i = nI ii → ¬ i < 0 := fun ii n h hi => by rw [hi]; exact nI_pos (by have := lpos _ _ h; omega)
  have w0 : w = 0 → ¬ (w < 0 ∨ ¬ w < 2 + I 1 4) := fun h q => by
    rw [w1, h] at q
    have key : ∀ k, k ≤ 4 → ¬ ((0 : Int32) < 0 ∨ ¬ (0 : Int32) < 2 + nI k) := by decide
    exact key ns hns q
  have w11 : w = 1 → ¬ (w < 0 ∨ ¬ w < 2 + I 1 4) := fun h q => by
    rw [w1, h] at q
    have key : ∀ k, k ≤ 4 → ¬ ((1 : Int32) < 0 ∨ ¬ (1 : Int32) < 2 + nI k) := by decide
    exact key ns hns q
  have w22 : ∀ s, s < ns → w = nI (s + 2) → ¬ (w < 0 ∨ ¬ w < 2 + I 1 4) := fun s hs h q => by
    rw [w1, h] at q
    have key : ∀ k, k ≤ 4 → ∀ s, s < k → ¬ (nI (s + 2) < 0 ∨ ¬ nI (s + 2) < 2 + nI k) := by decide
    exact key ns hns s hs q
  have no : ∀ (ii n : Nat), l[ii]? = some n → i = nI ii → ¬ (w < 0 ∨ ¬ w < 2 + I 1 4) → False := fun ii n h hi hw => by
    rcases hb with q | q
    · exact ixp _ _ h hi q
    · exact hw q
  refine m_trade i w ns nstr nc d cs fr to (mo_MW hC (fun q i h => fnd_o (by omega))) (mo_Pl hC hK (fun q i h => fnd_o (by omega))) nr hrf hr8 l ts hlf htf hstF (fun _ => ends_F hC hK) (fun K h1 h2 h3 _ _ _ _ => ?_) (fun K ii n hi hw _ _ _ h _ => (no ii n h hi (w0 hw)).elim) (fun K ii n hi hw _ _ _ h _ => (no ii n h hi (w11 hw)).elim) (fun K ii n s hi hw hs _ _ _ h _ _ _ => (no ii n h hi (w22 s hs hw)).elim)
  exfalso
  rw [w3] at h3
  rw [w1] at hb
  rcases hb with q | q | q
  · exact h1 q
  · exact h2 q
  · exact q ((w_guard hns w).mpr (Int32.not_lt.mpr h3))
theorem mN_trade (hC : Core I sp ns nstr nc d cs fr to sc kd nr tl nm cn) (hK : Cach I sp pl ns d cs nr) (i w : Int32) (l : List Nat) (ts : tU) (hl : (lsM I d cs ns nr 11).2 = l) (hts : tsM I d cs ns nr (7 ^ ns) = ts) (h1 : ¬ i < 0) (h2 : ¬ w < 0) (h3 : w < 2 + I 1 4) (hp : allH d cs (alC I sp d) ns = false ∨ l = [] ∨ nI l.length ≤ i) : aRuns mX12_trade (rK 7) [.ref 101, .int i, .int w] (nn pl) (MM (fnd I) sp pl) (ends pl sp (-1000004)) := by
  obtain ⟨hlf, htf⟩ := ts_fnd l ts hl hts
  have hr := hC.2.1.2.2.2.2.1
  have hrf : fnd I 101 4 = nI nr := (fnd_o (by omega)).trans hr
  have hr8 := hC.2.2.1.2.1
  have w2 := hC.2.1.2.2.1
  have w3 : fnd I 101 2 = nI ns := (fnd_o (by omega)).trans w2
  have w1 := hC.1.1.1
  have hns := hC.1.1.2
  have hstT : ¬ I 101 30 = 0 → TRL I l ts ns := fun q => by have := hK.2.2.2.2 q; rw [hl, hts] at this; exact this
  have hstF : ¬ fnd I 101 30 = 0 → TRL (fnd I) l ts ns := fun q => by rw [fnd_o (by omega)] at q; exact TRL_fr (hstT q) (fun q i h => fnd_o (by omega))
  have hlen : l.length ≤ 11 := by rw [← hl]; exact lsT_len _ _ 11
  have lpos : ∀ (ii n : Nat), l[ii]? = some n → ii < 11 ∧ ii < l.length := fun ii n h => by
    have := (List.getElem?_eq_some_iff.mp h).1
    omega
  have ixp : ∀ (ii n : Nat), l[ii]? = some n → i = nI ii → ¬ i < 0 := fun ii n h hi => by rw [hi]; exact nI_pos (by have := lpos _ _ h; omega)
  have e : alM (fnd I) d = alC I sp d := mo_al hC (fun q i h => fnd_o (by omega))
  have no : ∀ (ii n : Nat), l[ii]? = some n → i = nI ii → allH d cs (alC I sp d) ns = true → False := fun ii n h hi hah => by
    have b := lpos _ _ h
    rcases hp with q | q | q
    · rw [hah] at q; exact absurd q (by decide)
    · rw [q] at h; simp at h
    · rw [hi] at q; have := (nI_leI (by omega) (by omega)).mp q; omega
  refine m_trade i w ns nstr nc d cs fr to (mo_MW hC (fun q i h => fnd_o (by omega))) (mo_Pl hC hK (fun q i h => fnd_o (by omega))) nr hrf hr8 l ts hlf htf hstF (fun hb => by
    exfalso
    rw [w3] at hb
    rw [w1] at h3
    rcases hb with q | q | q
    · exact h1 q
    · exact h2 q
    · exact (w_guard hns w).mp h3 q) (fun K _ _ _ hF hM hT _ => ends_U hC hK _ hl hts hF hM.2.2.2.2.1 hT) (fun K ii n hi hw _ _ _ h hah => ?_) (fun K ii n hi hw _ _ _ h hah => ?_) (fun K ii n s hi hw hs _ _ _ h hah _ _ => ?_)
  all_goals (rw [e] at hah; exact (no ii n h hi hah).elim)
theorem mO_trade (hC : Core I sp ns nstr nc d cs fr to sc kd nr tl nm cn) (hK : Cach I sp pl ns d cs nr) (i w : Int32) (l : List Nat) (ts : tU) (hl : (lsM I d cs ns nr 11).2 = l) (hts : tsM I d cs ns nr (7 ^ ns) = ts) (ii n : Nat) (hi : i = nI ii) (hn : l[ii]? = some n) (hp : allH d cs (alC I sp d) ns = true) (h2 : ¬ w < 0) (h3 : w < 2 + I 1 4) (v : Int32) (hv : (w = 0 → v = nI n) ∧ (w = 1 → v = ts.1 n) ∧ ∀ s, s < ns → w = nI (s + 2) → ∃ c, ts.2 n = some c ∧ v = nI (dg ns c s)) : aRuns mX12_trade (rK 7) [.ref 101, .int i, .int w] (nn pl) (MM I sp pl) (ends pl sp (v)) := by
  obtain ⟨hlf, htf⟩ := ts_fnd l ts hl hts
  have hr := hC.2.1.2.2.2.2.1
  have hrf : fnd I 101 4 = nI nr := (fnd_o (by omega)).trans hr
  have hr8 := hC.2.2.1.2.1
  have w2 := hC.2.1.2.2.1
  have w3 : fnd I 101 2 = nI ns := (fnd_o (by omega)).trans w2
  have w1 := hC.1.1.1
  have hns := hC.1.1.2
  have hstT : ¬ I 101 30 = 0 → TRL I l ts ns := fun q => by have := hK.2.2.2.2 q; rw [hl, hts] at this; exact this
  have hstF : ¬ fnd I 101 30 = 0 → TRL (fnd I) l ts ns := fun q => by rw [fnd_o (by omega)] at q; exact TRL_fr (hstT q) (fun q i h => fnd_o (by omega))
  have hlen : l.length ≤ 11 := by rw [← hl]; exact lsT_len _ _ 11
  have lpos : ∀ (ii n : Nat), l[ii]? = some n → ii < 11 ∧ ii < l.length := fun ii n h => by
    have := (List.getElem?_eq_some_iff.mp h).1
    omega
  have ixp : ∀ (ii n : Nat), l[ii]? = some n → i = nI ii → ¬ i < 0 := fun ii n h hi => by rw [hi]; exact nI_pos (by have := lpos _ _ h; omega)
  have e : alM I d = alC I sp d := Core_al hC
  have b := lpos _ _ hn
  have same : ∀ (i2 n2 : Nat), l[i2]? = some n2 → i = nI i2 → i2 = ii ∧ n2 = n := fun i2 n2 h hi2 => by
    have b2 := lpos _ _ h
    have e2 : i2 = ii := (nI_eq (by omega) (by omega)).mp (hi2.symm.trans hi)
    rw [e2, hn] at h
    exact ⟨e2, (Option.some.inj h).symm⟩
  have h1 := ixp _ _ hn hi
  have yes : ¬ ((allH d cs (alC I sp d) ns = false ∨ l = []) ∨ nI l.length ≤ i) := fun q => by
    rcases q with (q | q) | q
    · rw [hp] at q; exact absurd q (by decide)
    · rw [q] at hn; simp at hn
    · rw [hi] at q; have := (nI_leI (by omega) (by omega)).mp q; omega
  refine m_trade i w ns nstr nc d cs fr to (Core_MW hC) hK.2.2.2.1 nr hr hr8 l ts hl hts hstT (fun hb => by
    exfalso
    rw [w2] at hb
    rw [w1] at h3
    rcases hb with q | q | q
    · exact h1 q
    · exact h2 q
    · exact (w_guard hns w).mp h3 q) (fun K _ _ _ hF hM hT hq => ?_) (fun K i2 n2 hi2 hw hF hM hT h hah => ends_T hC hK hl hts (by rw [hv.1 hw, (same i2 n2 h hi2).2]) hF hM.2.2.2.2.1 hT) (fun K i2 n2 hi2 hw hF hM hT h hah => ends_T hC hK hl hts (by rw [hv.2.1 hw, (same i2 n2 h hi2).2]) hF hM.2.2.2.2.1 hT) (fun K i2 n2 s hi2 hw hs hF hM hT h hah x hx => ?_)
  · exfalso; rw [e] at hq; exact yes hq
  · obtain ⟨c, hc, hvc⟩ := hv.2.2 s hs hw
    rw [(same i2 n2 h hi2).2] at hx
    exact ends_T hC hK hl hts (by rw [hx c hc, hvc]) hF hM.2.2.2.2.1 hT
theorem mB_take (hC : Core I sp ns nstr nc d cs fr to sc kd nr tl nm cn) (hK : Cach I sp pl ns d cs nr) (i : Int32) (l : List Nat) (ts : tU) (hl : (lsM I d cs ns nr 11).2 = l) (hts : tsM I d cs ns nr (7 ^ ns) = ts) (hb : i < 0) : aRuns mX12_take (rK 7) [.ref 101, .int i] (nn pl) (MM (fnd I) sp pl) (ends pl sp (-1000001)) := by
  obtain ⟨hlf, htf⟩ := ts_fnd l ts hl hts
  have hr := hC.2.1.2.2.2.2.1
  have hrf : fnd I 101 4 = nI nr := (fnd_o (by omega)).trans hr
  have hr8 := hC.2.2.1.2.1
  have w2 := hC.2.1.2.2.1
  have w3 : fnd I 101 2 = nI ns := (fnd_o (by omega)).trans w2
  have w1 := hC.1.1.1
  have hns := hC.1.1.2
  have hstT : ¬ I 101 30 = 0 → TRL I l ts ns := fun q => by have := hK.2.2.2.2 q; rw [hl, hts] at this; exact this
  have hstF : ¬ fnd I 101 30 = 0 → TRL (fnd I) l ts ns := fun q => by rw [fnd_o (by omega)] at q; exact TRL_fr (hstT q) (fun q i h => fnd_o (by omega))
  have hlen : l.length ≤ 11 := by rw [← hl]; exact lsT_len _ _ 11
  have lpos : ∀ (ii n : Nat), l[ii]? = some n → ii < 11 ∧ ii < l.length := fun ii n h => by
    have := (List.getElem?_eq_some_iff.mp h).1
    omega
  have ixp : ∀ (ii n : Nat), l[ii]? = some n → i = nI ii → ¬ i < 0 := fun ii n h hi => by rw [hi]; exact nI_pos (by have := lpos _ _ h; omega)
  refine m_take i ns nstr nc d cs fr to (mo_MW hC (fun q i h => fnd_o (by omega))) (mo_Pl hC hK (fun q i h => fnd_o (by omega))) nr hrf hr8 l ts hlf htf hstF (fun _ => ends_F hC hK) (fun K h1 _ _ _ _ => absurd hb (Int32.not_lt.mpr h1)) (fun K ii n hi _ _ _ h _ _ => absurd hb (ixp ii n h hi))
theorem mN_take (hC : Core I sp ns nstr nc d cs fr to sc kd nr tl nm cn) (hK : Cach I sp pl ns d cs nr) (i : Int32) (l : List Nat) (ts : tU) (hl : (lsM I d cs ns nr 11).2 = l) (hts : tsM I d cs ns nr (7 ^ ns) = ts) (h1 : ¬ i < 0) (hp : allH d cs (alC I sp d) ns = false ∨ l = [] ∨ nI l.length ≤ i) : aRuns mX12_take (rK 7) [.ref 101, .int i] (nn pl) (MM (fnd I) sp pl) (ends pl sp (-1000004)) := by
  obtain ⟨hlf, htf⟩ := ts_fnd l ts hl hts
  have hr := hC.2.1.2.2.2.2.1
  have hrf : fnd I 101 4 = nI nr := (fnd_o (by omega)).trans hr
  have hr8 := hC.2.2.1.2.1
  have w2 := hC.2.1.2.2.1
  have w3 : fnd I 101 2 = nI ns := (fnd_o (by omega)).trans w2
  have w1 := hC.1.1.1
  have hns := hC.1.1.2
  have hstT : ¬ I 101 30 = 0 → TRL I l ts ns := fun q => by have := hK.2.2.2.2 q; rw [hl, hts] at this; exact this
  have hstF : ¬ fnd I 101 30 = 0 → TRL (fnd I) l ts ns := fun q => by rw [fnd_o (by omega)] at q; exact TRL_fr (hstT q) (fun q i h => fnd_o (by omega))
  have hlen : l.length ≤ 11 := by rw [← hl]; exact lsT_len _ _ 11
  have lpos : ∀ (ii n : Nat), l[ii]? = some n → ii < 11 ∧ ii < l.length := fun ii n h => by
    have := (List.getElem?_eq_some_iff.mp h).1
    omega
  have ixp : ∀ (ii n : Nat), l[ii]? = some n → i = nI ii → ¬ i < 0 := fun ii n h hi => by rw [hi]; exact nI_pos (by have := lpos _ _ h; omega)
  have e : alM (fnd I) d = alC I sp d := mo_al hC (fun q i h => fnd_o (by omega))
  have no : ∀ (ii n : Nat), l[ii]? = some n → i = nI ii → allH d cs (alC I sp d) ns = true → False := fun ii n h hi hah => by
    have b := lpos _ _ h
    rcases hp with q | q | q
    · rw [hah] at q; exact absurd q (by decide)
    · rw [q] at h; simp at h
    · rw [hi] at q; have := (nI_leI (by omega) (by omega)).mp q; omega
  refine m_take i ns nstr nc d cs fr to (mo_MW hC (fun q i h => fnd_o (by omega))) (mo_Pl hC hK (fun q i h => fnd_o (by omega))) nr hrf hr8 l ts hlf htf hstF (fun hb => absurd hb h1) (fun K _ hF hM hT _ => ends_U hC hK _ hl hts hF hM.2.2.2.2.1 hT) (fun K ii n hi _ _ _ h hah _ => ?_)
  rw [e] at hah; exact (no ii n h hi hah).elim
theorem mO_take (hC : Core I sp ns nstr nc d cs fr to sc kd nr tl nm cn) (hK : Cach I sp pl ns d cs nr) (i : Int32) (l : List Nat) (ts : tU) (hl : (lsM I d cs ns nr 11).2 = l) (hts : tsM I d cs ns nr (7 ^ ns) = ts) (ii n : Nat) (hi : i = nI ii) (hn : l[ii]? = some n) (hp : allH d cs (alC I sp d) ns = true) (c : Nat) (hc : ts.2 n = some c) (X : Nat → Nat → Int32) (u : ∀ q j, q ≠ 89 → q ≠ 26 → ¬ (q = 0 ∧ j = 8) → X q j = I q j) (f1 : ∀ s, s < ns → X 26 s = nI (dg ns c s)) (f2 : ∀ s, ns ≤ s → X 26 s = I 26 s) (f3 : X 0 8 = 0) : aRuns mX12_take (rK 7) [.ref 101, .int i] (nn pl) (MM X sp pl) (ends pl sp (nI n)) := by
  obtain ⟨hlf, htf⟩ := ts_fnd l ts hl hts
  have hr := hC.2.1.2.2.2.2.1
  have hrf : fnd I 101 4 = nI nr := (fnd_o (by omega)).trans hr
  have hr8 := hC.2.2.1.2.1
  have w2 := hC.2.1.2.2.1
  have w3 : fnd I 101 2 = nI ns := (fnd_o (by omega)).trans w2
  have w1 := hC.1.1.1
  have hns := hC.1.1.2
  have hstT : ¬ I 101 30 = 0 → TRL I l ts ns := fun q => by have := hK.2.2.2.2 q; rw [hl, hts] at this; exact this
  have hstF : ¬ fnd I 101 30 = 0 → TRL (fnd I) l ts ns := fun q => by rw [fnd_o (by omega)] at q; exact TRL_fr (hstT q) (fun q i h => fnd_o (by omega))
  have hlen : l.length ≤ 11 := by rw [← hl]; exact lsT_len _ _ 11
  have lpos : ∀ (ii n : Nat), l[ii]? = some n → ii < 11 ∧ ii < l.length := fun ii n h => by
    have := (List.getElem?_eq_some_iff.mp h).1
    omega
  have ixp : ∀ (ii n : Nat), l[ii]? = some n → i = nI ii → ¬ i < 0 := fun ii n h hi => by rw [hi]; exact nI_pos (by have := lpos _ _ h; omega)
  have b := lpos _ _ hn
  have same : ∀ (i2 n2 : Nat), l[i2]? = some n2 → i = nI i2 → i2 = ii ∧ n2 = n := fun i2 n2 h hi2 => by
    have b2 := lpos _ _ h
    have e2 : i2 = ii := (nI_eq (by omega) (by omega)).mp (hi2.symm.trans hi)
    rw [e2, hn] at h
    exact ⟨e2, (Option.some.inj h).symm⟩
  have h1 := ixp _ _ hn hi
  have yes : ¬ ((allH d cs (alC I sp d) ns = false ∨ l = []) ∨ nI l.length ≤ i) := fun q => by
    rcases q with (q | q) | q
    · rw [hp] at q; exact absurd q (by decide)
    · rw [q] at hn; simp at hn
    · rw [hi] at q; have := (nI_leI (by omega) (by omega)).mp q; omega
  have hX : ∀ q j, 101 ≤ q → X q j = I q j := fun q j h => u q j (by omega) (by omega) (by omega)
  have e : alM X d = alC I sp d := mo_al hC hX
  have eM : alM X d = alM I d := e.trans (Core_al hC).symm
  obtain ⟨t1, t2⟩ := ts_fr (I := I) (J := X) (d := d) (cs := cs) (ns := ns) (nr := nr) (fun q j hh => hX q j (by omega))
  refine m_take i ns nstr nc d cs fr to (mo_MW hC hX) (mo_Pl hC hK hX) nr ((hX _ _ (by omega)).trans hr) hr8 l ts (by rw [t2]; exact hl) (by rw [t1]; exact hts) (fun q => by rw [hX _ _ (by omega)] at q; exact TRL_fr (hstT q) (fun q j h => hX q j (by omega))) (fun hb => absurd hb h1) (fun K _ hF hM hT hq => ?_) (fun K i2 n2 hi2 hF hM hT h hah hrow => ?_)
  · exfalso; rw [e] at hq; exact yes hq
  · obtain ⟨ei, en⟩ := same i2 n2 h hi2
    subst ei en
    have hrow2 := hrow c hc
    -- the state before the bells were set
    obtain ⟨Z, hZ⟩ : ∃ Z, tkI K i2 ns = Z := ⟨_, rfl⟩
    have z1 : ∀ q j, q ≠ 108 → Z q j = K q j := fun q j hq => by rw [← hZ]; exact tkI_o hq
    have z2 : ∀ s, s < ns → Z 108 s = nI (dg ns c s) := fun s hs => by
      rw [← hZ, ← hrow2 s hs]; show (if 108 = 108 ∧ s < ns then _ else _) = _; rw [if_pos ⟨rfl, hs⟩]
    have z3 : ∀ s, ns ≤ s → Z 108 s = K 108 s := fun s hs => by
      rw [← hZ]; show (if 108 = 108 ∧ s < ns then _ else _) = _; rw [if_neg (by omega)]
    rw [hZ]
    obtain ⟨Wm, hWm⟩ : ∃ Wm : Nat → Nat → Int32, ∀ q j, Wm q j = if q = 26 ∨ q = 108 ∨ q = 89 ∨ (q = 0 ∧ j = 8) then I q j else Z q j := ⟨_, fun _ _ => rfl⟩
    have y1 : ∀ q j, ¬ (q = 26 ∨ q = 108 ∨ q = 89 ∨ (q = 0 ∧ j = 8)) → Wm q j = Z q j := fun q j hh => by rw [hWm, if_neg hh]
    obtain ⟨c1, c2⟩ := fin_T (K := Wm) hC hK (fun q j a b => by
      rw [hWm]
      by_cases hh : q = 26 ∨ q = 108 ∨ q = 89 ∨ (q = 0 ∧ j = 8)
      · rw [if_pos hh]
      · rw [if_neg hh, z1 q j (by omega), hF.1 q j a b, u q j (by omega) (by omega) (by omega)]) (by
        rw [← eM]
        exact PlM_fr hC.1.2.2.2.2.2.2.1.2 hM.2.2.2.2.1 (fun q j h => (y1 q j (by omega)).trans (z1 q j (by omega)))) (fun q => by
        rw [y1 101 30 (by omega), z1 101 30 (by omega)] at q
        rw [hl, hts]
        exact TRL_fr (hT q) (fun q j h => (y1 q j (by omega)).trans (z1 q j (by omega))))
    have k26 : ∀ s, Z 26 s = X 26 s := fun s => (z1 26 s (by omega)).trans (hF.1 26 s (by omega) (by omega))
    refine ⟨Z, rfl, rfl, rfl, Inv_bells (J := Z) c1 c2 (fun q j hh => (y1 q j (by omega)).symm) (fun s hs => ?_) (fun s hs => ?_) ?_⟩
    · rw [k26, f1 s hs, z2 s hs]; exact ⟨rfl, nI_sm (dg7 ns c s)⟩
    · rw [k26, f2 s hs, z3 s hs, hF.1 108 s (by omega) (by omega), hX 108 s (by omega), hWm, if_pos (by omega), hWm, if_pos (by omega)]; exact ⟨rfl, rfl⟩
    · rw [z1 0 8 (by omega), hF.1 0 8 (by omega) (by omega)]; exact f3
end K16
section K16b
variable {I : Nat → Nat → Int32} {sp : Nat → Nat}
theorem k_trades_t  (h : Inv I sp true) : aRuns mX11_trades (rK 7) [.ref 0] (nn true) (MM I sp true) (KM true mX12_trades (rK 7) [.ref 101]) := by
  obtain ⟨ns, nstr, nc, d, cs, fr, to, sc, kd, nr, tl, nm, cn, hC, hK⟩ := h
  have hW := hC.1
  have hns := hW.1.2
  obtain ⟨K7, hK7⟩ : ∃ K7, 7 ^ ns = K7 := ⟨_, rfl⟩
  obtain ⟨ts, hts⟩ : ∃ ts, tsM I d cs ns nr (7 ^ ns) = ts := ⟨_, rfl⟩
  obtain ⟨l, hl⟩ : ∃ l, (lsM I d cs ns nr 11).2 = l := ⟨_, rfl⟩
  have hts2 : tS (alN I nr ns) (coN I sp d ns) (nbN d cs (alC I sp d) (I 1 8) ns) K7 = ts := by rw [Core_ts hC, ← hK7]; exact hts
  have hl2 : (lsT ts.1 2000000000 11).2 = l := by unfold lsM at hl; rw [← hts]; exact hl
  have htr : ¬ I 0 9 = 0 → ¬ I 0 7 = 0 ∧ MkT I l ts ns := fun q => by have := hK.2.2.1 q; rw [hl, hts] at this; exact this
  refine c_trades_t  hW nr kd hC.2.2.1.1 hC.2.2.1.2.1 hC.2.2.2.2.2.2.2.2.1.2.2.2.2 (fun s hs => ⟨(hC.2.2.2.2.2.1 s hs).1, (hC.2.2.2.2.2.1 s hs).2.1⟩) (fun s hs => (hC.2.2.2.2.2.1 s hs).2.2.2) hC.2.2.2.2.2.2.2.2.2.2.2.1 K7 hK7 l ts hts2 hl2 htr (fun q => (hK.1 q).2) (fun J hD hp => ?_) (fun K hT hp he => ?_) (fun K hT hp hne => ?_)
  · obtain ⟨cJ, kJ⟩ := aft_DP hC hK hD
    have ea : alC J sp d = alC I sp d := alC_fr hW (FrDr_C hD.1)
    obtain ⟨t1, t2⟩ := ts_fr (I := I) (J := J) (d := d) (cs := cs) (ns := ns) (nr := nr) (fun q i hh => hD.1 q i (by omega) (by omega) (by omega) (by omega) (by omega) (by omega) (by omega) (by omega) (by omega))
    have xl : (lsM J d cs ns nr 11).2 = l := by rw [t2]; exact hl
    have xt : tsM J d cs ns nr (7 ^ ns) = ts := by rw [t1]; exact hts
    refine ⟨_, _, _, rfl, rfl, rfl, ?_⟩
    exact mN_trades cJ kJ l ts xl xt (Or.inl (by rw [ea]; exact hp))
  · obtain ⟨cK, kK, ea, xl, xt⟩ := aft_WT hC hK hl hts hT
    refine ⟨_, _, _, rfl, rfl, rfl, ?_⟩
    exact mN_trades cK kK l ts xl xt (Or.inr he)
  · obtain ⟨cK, kK, ea, xl, xt⟩ := aft_WT hC hK hl hts hT
    refine ⟨_, _, _, rfl, rfl, rfl, ?_⟩
    exact mO_trades cK kK l ts xl xt (by rw [ea]; exact hp) hne

theorem k_trades_f  (h : Inv I sp false) : aRuns mX11_trades (rK 7) [.ref 0] (nn false) (MM I sp false) (KM false mX12_trades (rK 7) [.ref 101]) ∨ aRuns mX11_trades (rP 7) [.ref 0] (nn false) (MM I sp false) (KM true mX12_trades (rK 7) [.ref 101]) := by
  obtain ⟨ns, nstr, nc, d, cs, fr, to, sc, kd, nr, tl, nm, cn, hC, hK⟩ := h
  have hW := hC.1
  have hns := hW.1.2
  obtain ⟨K7, hK7⟩ : ∃ K7, 7 ^ ns = K7 := ⟨_, rfl⟩
  obtain ⟨ts, hts⟩ : ∃ ts, tsM I d cs ns nr (7 ^ ns) = ts := ⟨_, rfl⟩
  obtain ⟨l, hl⟩ : ∃ l, (lsM I d cs ns nr 11).2 = l := ⟨_, rfl⟩
  have hts2 : tS (alN I nr ns) (coN I sp d ns) (nbN d cs (alC I sp d) (I 1 8) ns) K7 = ts := by rw [Core_ts hC, ← hK7]; exact hts
  have hl2 : (lsT ts.1 2000000000 11).2 = l := by unfold lsM at hl; rw [← hts]; exact hl
  have htr : ¬ I 0 9 = 0 → ¬ I 0 7 = 0 ∧ MkT I l ts ns := fun q => by have := hK.2.2.1 q; rw [hl, hts] at this; exact this
  have h07 : I 0 7 = 0 := Classical.byContradiction fun q => by cases (hK.1 q).1
  refine Or.inr (c_trades_f  hW nr kd hC.2.2.1.1 hC.2.2.1.2.1 hC.2.2.2.2.2.2.2.2.1.2.2.2.2 (fun s hs => ⟨(hC.2.2.2.2.2.1 s hs).1, (hC.2.2.2.2.2.1 s hs).2.1⟩) (fun s hs => (hC.2.2.2.2.2.1 s hs).2.2.2) hC.2.2.2.2.2.2.2.2.2.2.2.1 K7 hK7 l ts hts2 hl2 htr h07 (fun J hD hp => ?_) (fun K hT hp he => ?_) (fun K hT hp hne => ?_))
  · obtain ⟨cJ, kJ⟩ := aft_DP hC hK hD
    have ea : alC J sp d = alC I sp d := alC_fr hW (FrDr_C hD.1)
    obtain ⟨t1, t2⟩ := ts_fr (I := I) (J := J) (d := d) (cs := cs) (ns := ns) (nr := nr) (fun q i hh => hD.1 q i (by omega) (by omega) (by omega) (by omega) (by omega) (by omega) (by omega) (by omega) (by omega))
    have xl : (lsM J d cs ns nr 11).2 = l := by rw [t2]; exact hl
    have xt : tsM J d cs ns nr (7 ^ ns) = ts := by rw [t1]; exact hts
    refine ⟨_, _, _, rfl, rfl, rfl, ?_⟩
    exact mN_trades cJ kJ l ts xl xt (Or.inl (by rw [ea]; exact hp))
  · obtain ⟨cK, kK, ea, xl, xt⟩ := aft_WT hC hK hl hts hT
    refine ⟨_, _, _, rfl, rfl, rfl, ?_⟩
    exact mN_trades cK kK l ts xl xt (Or.inr he)
  · obtain ⟨cK, kK, ea, xl, xt⟩ := aft_WT hC hK hl hts hT
    refine ⟨_, _, _, rfl, rfl, rfl, ?_⟩
    exact mO_trades cK kK l ts xl xt (by rw [ea]; exact hp) hne

theorem k_trade_t (i w : Int32) (h : Inv I sp true) : aRuns mX11_trade (rK 7) [.ref 0, .int i, .int w] (nn true) (MM I sp true) (KM true mX12_trade (rK 7) [.ref 101, .int i, .int w]) := by
  obtain ⟨ns, nstr, nc, d, cs, fr, to, sc, kd, nr, tl, nm, cn, hC, hK⟩ := h
  have hW := hC.1
  have hns := hW.1.2
  obtain ⟨K7, hK7⟩ : ∃ K7, 7 ^ ns = K7 := ⟨_, rfl⟩
  obtain ⟨ts, hts⟩ : ∃ ts, tsM I d cs ns nr (7 ^ ns) = ts := ⟨_, rfl⟩
  obtain ⟨l, hl⟩ : ∃ l, (lsM I d cs ns nr 11).2 = l := ⟨_, rfl⟩
  have hts2 : tS (alN I nr ns) (coN I sp d ns) (nbN d cs (alC I sp d) (I 1 8) ns) K7 = ts := by rw [Core_ts hC, ← hK7]; exact hts
  have hl2 : (lsT ts.1 2000000000 11).2 = l := by unfold lsM at hl; rw [← hts]; exact hl
  have htr : ¬ I 0 9 = 0 → ¬ I 0 7 = 0 ∧ MkT I l ts ns := fun q => by have := hK.2.2.1 q; rw [hl, hts] at this; exact this
  by_cases hg : i < 0 ∨ w < 0 ∨ ¬ w < 2 + I 1 4
  · refine c_trade_bt i w hW nr kd hC.2.2.1.1 hC.2.2.1.2.1 hC.2.2.2.2.2.2.2.2.1.2.2.2.2 (fun s hs => ⟨(hC.2.2.2.2.2.1 s hs).1, (hC.2.2.2.2.2.1 s hs).2.1⟩) (fun s hs => (hC.2.2.2.2.2.1 s hs).2.2.2) hC.2.2.2.2.2.2.2.2.2.2.2.1 K7 hK7 l ts hts2 hl2 htr hg ?_
    refine ⟨_, _, _, rfl, rfl, rfl, ?_⟩
    exact mB_trade hC hK i w l ts hl hts hg
  refine c_trade_t i w hW nr kd hC.2.2.1.1 hC.2.2.1.2.1 hC.2.2.2.2.2.2.2.2.1.2.2.2.2 (fun s hs => ⟨(hC.2.2.2.2.2.1 s hs).1, (hC.2.2.2.2.2.1 s hs).2.1⟩) (fun s hs => (hC.2.2.2.2.2.1 s hs).2.2.2) hC.2.2.2.2.2.2.2.2.2.2.2.1 K7 hK7 l ts hts2 hl2 htr (fun q => (hK.1 q).2) (fun hb => absurd hb hg) (fun J h1 hD hp => ?_) (fun K h1 hT hp he => ?_) (fun K ii n hi hw hT hn hp => ?_) (fun K ii n hi hw hT hn hp => ?_) (fun K K2 ii n s c hi hw hs hT hn hp hc hq => ?_)
  · obtain ⟨cJ, kJ⟩ := aft_DP hC hK hD
    have ea : alC J sp d = alC I sp d := alC_fr hW (FrDr_C hD.1)
    obtain ⟨t1, t2⟩ := ts_fr (I := I) (J := J) (d := d) (cs := cs) (ns := ns) (nr := nr) (fun q i hh => hD.1 q i (by omega) (by omega) (by omega) (by omega) (by omega) (by omega) (by omega) (by omega) (by omega))
    have xl : (lsM J d cs ns nr 11).2 = l := by rw [t2]; exact hl
    have xt : tsM J d cs ns nr (7 ^ ns) = ts := by rw [t1]; exact hts
    have e14 : J 1 4 = I 1 4 := cJ.1.1.1.trans hW.1.1.symm
    refine ⟨_, _, _, rfl, rfl, rfl, ?_⟩
    exact mN_trade cJ kJ i w l ts xl xt h1 (fun q => hg (Or.inr (Or.inl q))) (by rw [e14]; exact Classical.byContradiction fun q => hg (Or.inr (Or.inr q))) (Or.inl (by rw [ea]; exact hp))
  · obtain ⟨cK, kK, ea, xl, xt⟩ := aft_WT hC hK hl hts hT
    have e14 : K 1 4 = I 1 4 := cK.1.1.1.trans hW.1.1.symm
    refine ⟨_, _, _, rfl, rfl, rfl, ?_⟩
    exact mN_trade cK kK i w l ts xl xt h1 (fun q => hg (Or.inr (Or.inl q))) (by rw [e14]; exact Classical.byContradiction fun q => hg (Or.inr (Or.inr q))) (Or.inr he)
  · obtain ⟨cK, kK, ea, xl, xt⟩ := aft_WT hC hK hl hts hT
    have e14 : K 1 4 = I 1 4 := cK.1.1.1.trans hW.1.1.symm
    refine ⟨_, _, _, rfl, rfl, rfl, ?_⟩
    refine mO_trade cK kK i w l ts xl xt ii n hi hn (by rw [ea]; exact hp) (fun q => hg (Or.inr (Or.inl q))) (by rw [e14]; exact Classical.byContradiction fun q => hg (Or.inr (Or.inr q))) _ ⟨fun _ => rfl, fun h => ?_, fun s hs h => ?_⟩
    · rw [hw] at h; exact absurd h (by decide)
    · rw [hw] at h; exact absurd h (by have key : ∀ s, s < 4 → ¬ (0 : Int32) = nI (s + 2) := by decide
                                       exact key s (by omega))
  · obtain ⟨cK, kK, ea, xl, xt⟩ := aft_WT hC hK hl hts hT
    have e14 : K 1 4 = I 1 4 := cK.1.1.1.trans hW.1.1.symm
    refine ⟨_, _, _, rfl, rfl, rfl, ?_⟩
    refine mO_trade cK kK i w l ts xl xt ii n hi hn (by rw [ea]; exact hp) (fun q => hg (Or.inr (Or.inl q))) (by rw [e14]; exact Classical.byContradiction fun q => hg (Or.inr (Or.inr q))) _ ⟨fun h => ?_, fun _ => rfl, fun s hs h => ?_⟩
    · rw [hw] at h; exact absurd h (by decide)
    · rw [hw] at h; exact absurd h (by have key : ∀ s, s < 4 → ¬ (1 : Int32) = nI (s + 2) := by decide
                                       exact key s (by omega))
  · obtain ⟨cK, kK, ea, xl, xt⟩ := aft_WT hC hK hl hts hT
    obtain ⟨c2, k2, eb⟩ := fr89 cK kK hq
    obtain ⟨t1, t2⟩ := ts_fr (I := K) (J := K2) (d := d) (cs := cs) (ns := ns) (nr := nr) (fun q i hh => hq q i (by omega))
    have e14 : K2 1 4 = I 1 4 := c2.1.1.1.trans hW.1.1.symm
    refine ⟨_, _, _, rfl, rfl, rfl, ?_⟩
    refine mO_trade c2 k2 i w l ts (by rw [t2]; exact xl) (by rw [t1]; exact xt) ii n hi hn (by rw [eb, ea]; exact hp) (fun q => hg (Or.inr (Or.inl q))) (by rw [e14]; exact Classical.byContradiction fun q => hg (Or.inr (Or.inr q))) _ ⟨fun h => ?_, fun h => ?_, fun s2 hs2 h => ⟨c, hc, ?_⟩⟩
    · rw [hw] at h; exact absurd h (by have key : ∀ s, s < 4 → ¬ nI (s + 2) = (0 : Int32) := by decide
                                       exact key s (by omega))
    · rw [hw] at h; exact absurd h (by have key : ∀ s, s < 4 → ¬ nI (s + 2) = (1 : Int32) := by decide
                                       exact key s (by omega))
    · rw [hw] at h
      have := (nI_eq (by omega) (by omega)).mp h
      rw [show s2 = s by omega]

theorem k_trade_f (i w : Int32) (h : Inv I sp false) : aRuns mX11_trade (rK 7) [.ref 0, .int i, .int w] (nn false) (MM I sp false) (KM false mX12_trade (rK 7) [.ref 101, .int i, .int w]) ∨ aRuns mX11_trade (rP 7) [.ref 0, .int i, .int w] (nn false) (MM I sp false) (KM true mX12_trade (rK 7) [.ref 101, .int i, .int w]) := by
  obtain ⟨ns, nstr, nc, d, cs, fr, to, sc, kd, nr, tl, nm, cn, hC, hK⟩ := h
  have hW := hC.1
  have hns := hW.1.2
  obtain ⟨K7, hK7⟩ : ∃ K7, 7 ^ ns = K7 := ⟨_, rfl⟩
  obtain ⟨ts, hts⟩ : ∃ ts, tsM I d cs ns nr (7 ^ ns) = ts := ⟨_, rfl⟩
  obtain ⟨l, hl⟩ : ∃ l, (lsM I d cs ns nr 11).2 = l := ⟨_, rfl⟩
  have hts2 : tS (alN I nr ns) (coN I sp d ns) (nbN d cs (alC I sp d) (I 1 8) ns) K7 = ts := by rw [Core_ts hC, ← hK7]; exact hts
  have hl2 : (lsT ts.1 2000000000 11).2 = l := by unfold lsM at hl; rw [← hts]; exact hl
  have htr : ¬ I 0 9 = 0 → ¬ I 0 7 = 0 ∧ MkT I l ts ns := fun q => by have := hK.2.2.1 q; rw [hl, hts] at this; exact this
  have h07 : I 0 7 = 0 := Classical.byContradiction fun q => by cases (hK.1 q).1
  by_cases hg : i < 0 ∨ w < 0 ∨ ¬ w < 2 + I 1 4
  · refine Or.inl (c_trade_b i w hW nr kd hC.2.2.1.1 hC.2.2.1.2.1 hC.2.2.2.2.2.2.2.2.1.2.2.2.2 (fun s hs => ⟨(hC.2.2.2.2.2.1 s hs).1, (hC.2.2.2.2.2.1 s hs).2.1⟩) (fun s hs => (hC.2.2.2.2.2.1 s hs).2.2.2) hC.2.2.2.2.2.2.2.2.2.2.2.1 K7 hK7 l ts hts2 hl2 htr hg ?_)
    refine ⟨_, _, _, rfl, rfl, rfl, ?_⟩
    exact mB_trade hC hK i w l ts hl hts hg
  refine Or.inr (c_trade_f i w hW nr kd hC.2.2.1.1 hC.2.2.1.2.1 hC.2.2.2.2.2.2.2.2.1.2.2.2.2 (fun s hs => ⟨(hC.2.2.2.2.2.1 s hs).1, (hC.2.2.2.2.2.1 s hs).2.1⟩) (fun s hs => (hC.2.2.2.2.2.1 s hs).2.2.2) hC.2.2.2.2.2.2.2.2.2.2.2.1 K7 hK7 l ts hts2 hl2 htr h07 hg (fun J h1 hD hp => ?_) (fun K h1 hT hp he => ?_) (fun K ii n hi hw hT hn hp => ?_) (fun K ii n hi hw hT hn hp => ?_) (fun K K2 ii n s c hi hw hs hT hn hp hc hq => ?_))
  · obtain ⟨cJ, kJ⟩ := aft_DP hC hK hD
    have ea : alC J sp d = alC I sp d := alC_fr hW (FrDr_C hD.1)
    obtain ⟨t1, t2⟩ := ts_fr (I := I) (J := J) (d := d) (cs := cs) (ns := ns) (nr := nr) (fun q i hh => hD.1 q i (by omega) (by omega) (by omega) (by omega) (by omega) (by omega) (by omega) (by omega) (by omega))
    have xl : (lsM J d cs ns nr 11).2 = l := by rw [t2]; exact hl
    have xt : tsM J d cs ns nr (7 ^ ns) = ts := by rw [t1]; exact hts
    have e14 : J 1 4 = I 1 4 := cJ.1.1.1.trans hW.1.1.symm
    refine ⟨_, _, _, rfl, rfl, rfl, ?_⟩
    exact mN_trade cJ kJ i w l ts xl xt h1 (fun q => hg (Or.inr (Or.inl q))) (by rw [e14]; exact Classical.byContradiction fun q => hg (Or.inr (Or.inr q))) (Or.inl (by rw [ea]; exact hp))
  · obtain ⟨cK, kK, ea, xl, xt⟩ := aft_WT hC hK hl hts hT
    have e14 : K 1 4 = I 1 4 := cK.1.1.1.trans hW.1.1.symm
    refine ⟨_, _, _, rfl, rfl, rfl, ?_⟩
    exact mN_trade cK kK i w l ts xl xt h1 (fun q => hg (Or.inr (Or.inl q))) (by rw [e14]; exact Classical.byContradiction fun q => hg (Or.inr (Or.inr q))) (Or.inr he)
  · obtain ⟨cK, kK, ea, xl, xt⟩ := aft_WT hC hK hl hts hT
    have e14 : K 1 4 = I 1 4 := cK.1.1.1.trans hW.1.1.symm
    refine ⟨_, _, _, rfl, rfl, rfl, ?_⟩
    refine mO_trade cK kK i w l ts xl xt ii n hi hn (by rw [ea]; exact hp) (fun q => hg (Or.inr (Or.inl q))) (by rw [e14]; exact Classical.byContradiction fun q => hg (Or.inr (Or.inr q))) _ ⟨fun _ => rfl, fun h => ?_, fun s hs h => ?_⟩
    · rw [hw] at h; exact absurd h (by decide)
    · rw [hw] at h; exact absurd h (by have key : ∀ s, s < 4 → ¬ (0 : Int32) = nI (s + 2) := by decide
                                       exact key s (by omega))
  · obtain ⟨cK, kK, ea, xl, xt⟩ := aft_WT hC hK hl hts hT
    have e14 : K 1 4 = I 1 4 := cK.1.1.1.trans hW.1.1.symm
    refine ⟨_, _, _, rfl, rfl, rfl, ?_⟩
    refine mO_trade cK kK i w l ts xl xt ii n hi hn (by rw [ea]; exact hp) (fun q => hg (Or.inr (Or.inl q))) (by rw [e14]; exact Classical.byContradiction fun q => hg (Or.inr (Or.inr q))) _ ⟨fun h => ?_, fun _ => rfl, fun s hs h => ?_⟩
    · rw [hw] at h; exact absurd h (by decide)
    · rw [hw] at h; exact absurd h (by have key : ∀ s, s < 4 → ¬ (1 : Int32) = nI (s + 2) := by decide
                                       exact key s (by omega))
  · obtain ⟨cK, kK, ea, xl, xt⟩ := aft_WT hC hK hl hts hT
    obtain ⟨c2, k2, eb⟩ := fr89 cK kK hq
    obtain ⟨t1, t2⟩ := ts_fr (I := K) (J := K2) (d := d) (cs := cs) (ns := ns) (nr := nr) (fun q i hh => hq q i (by omega))
    have e14 : K2 1 4 = I 1 4 := c2.1.1.1.trans hW.1.1.symm
    refine ⟨_, _, _, rfl, rfl, rfl, ?_⟩
    refine mO_trade c2 k2 i w l ts (by rw [t2]; exact xl) (by rw [t1]; exact xt) ii n hi hn (by rw [eb, ea]; exact hp) (fun q => hg (Or.inr (Or.inl q))) (by rw [e14]; exact Classical.byContradiction fun q => hg (Or.inr (Or.inr q))) _ ⟨fun h => ?_, fun h => ?_, fun s2 hs2 h => ⟨c, hc, ?_⟩⟩
    · rw [hw] at h; exact absurd h (by have key : ∀ s, s < 4 → ¬ nI (s + 2) = (0 : Int32) := by decide
                                       exact key s (by omega))
    · rw [hw] at h; exact absurd h (by have key : ∀ s, s < 4 → ¬ nI (s + 2) = (1 : Int32) := by decide
                                       exact key s (by omega))
    · rw [hw] at h
      have := (nI_eq (by omega) (by omega)).mp h
      rw [show s2 = s by omega]

theorem k_take_t (i : Int32) (h : Inv I sp true) : aRuns mX11_take (rK 7) [.ref 0, .int i] (nn true) (MM I sp true) (KM true mX12_take (rK 7) [.ref 101, .int i]) := by
  obtain ⟨ns, nstr, nc, d, cs, fr, to, sc, kd, nr, tl, nm, cn, hC, hK⟩ := h
  have hW := hC.1
  have hns := hW.1.2
  obtain ⟨K7, hK7⟩ : ∃ K7, 7 ^ ns = K7 := ⟨_, rfl⟩
  obtain ⟨ts, hts⟩ : ∃ ts, tsM I d cs ns nr (7 ^ ns) = ts := ⟨_, rfl⟩
  obtain ⟨l, hl⟩ : ∃ l, (lsM I d cs ns nr 11).2 = l := ⟨_, rfl⟩
  have hts2 : tS (alN I nr ns) (coN I sp d ns) (nbN d cs (alC I sp d) (I 1 8) ns) K7 = ts := by rw [Core_ts hC, ← hK7]; exact hts
  have hl2 : (lsT ts.1 2000000000 11).2 = l := by unfold lsM at hl; rw [← hts]; exact hl
  have htr : ¬ I 0 9 = 0 → ¬ I 0 7 = 0 ∧ MkT I l ts ns := fun q => by have := hK.2.2.1 q; rw [hl, hts] at this; exact this
  refine c_take_t i hW nr kd hC.2.2.1.1 hC.2.2.1.2.1 hC.2.2.2.2.2.2.2.2.1.2.2.2.2 (fun s hs => ⟨(hC.2.2.2.2.2.1 s hs).1, (hC.2.2.2.2.2.1 s hs).2.1⟩) (fun s hs => (hC.2.2.2.2.2.1 s hs).2.2.2) hC.2.2.2.2.2.2.2.2.2.2.2.1 K7 hK7 l ts hts2 hl2 htr (fun q => (hK.1 q).2) (fun hb => ?_) (fun J h1 hD hp => ?_) (fun K h1 hT hp he => ?_) (fun K K2 ii n c hi hT hn hp hc hq f1 f2 f3 => ?_)
  · refine ⟨_, _, _, rfl, rfl, rfl, ?_⟩
    exact mB_take hC hK i l ts hl hts hb
  · obtain ⟨cJ, kJ⟩ := aft_DP hC hK hD
    have ea : alC J sp d = alC I sp d := alC_fr hW (FrDr_C hD.1)
    obtain ⟨t1, t2⟩ := ts_fr (I := I) (J := J) (d := d) (cs := cs) (ns := ns) (nr := nr) (fun q i hh => hD.1 q i (by omega) (by omega) (by omega) (by omega) (by omega) (by omega) (by omega) (by omega) (by omega))
    have xl : (lsM J d cs ns nr 11).2 = l := by rw [t2]; exact hl
    have xt : tsM J d cs ns nr (7 ^ ns) = ts := by rw [t1]; exact hts
    refine ⟨_, _, _, rfl, rfl, rfl, ?_⟩
    exact mN_take cJ kJ i l ts xl xt (Int32.not_lt.mpr h1) (Or.inl (by rw [ea]; exact hp))
  · obtain ⟨cK, kK, ea, xl, xt⟩ := aft_WT hC hK hl hts hT
    refine ⟨_, _, _, rfl, rfl, rfl, ?_⟩
    exact mN_take cK kK i l ts xl xt (Int32.not_lt.mpr h1) (Or.inr he)
  · obtain ⟨cK, kK, ea, xl, xt⟩ := aft_WT hC hK hl hts hT
    refine ⟨_, _, _, rfl, rfl, rfl, ?_⟩
    exact mO_take cK kK i l ts xl xt ii n hi hn (by rw [ea]; exact hp) c hc K2 hq f1 f2 f3

theorem k_take_f (i : Int32) (h : Inv I sp false) : aRuns mX11_take (rK 7) [.ref 0, .int i] (nn false) (MM I sp false) (KM false mX12_take (rK 7) [.ref 101, .int i]) ∨ aRuns mX11_take (rP 7) [.ref 0, .int i] (nn false) (MM I sp false) (KM true mX12_take (rK 7) [.ref 101, .int i]) := by
  obtain ⟨ns, nstr, nc, d, cs, fr, to, sc, kd, nr, tl, nm, cn, hC, hK⟩ := h
  have hW := hC.1
  have hns := hW.1.2
  obtain ⟨K7, hK7⟩ : ∃ K7, 7 ^ ns = K7 := ⟨_, rfl⟩
  obtain ⟨ts, hts⟩ : ∃ ts, tsM I d cs ns nr (7 ^ ns) = ts := ⟨_, rfl⟩
  obtain ⟨l, hl⟩ : ∃ l, (lsM I d cs ns nr 11).2 = l := ⟨_, rfl⟩
  have hts2 : tS (alN I nr ns) (coN I sp d ns) (nbN d cs (alC I sp d) (I 1 8) ns) K7 = ts := by rw [Core_ts hC, ← hK7]; exact hts
  have hl2 : (lsT ts.1 2000000000 11).2 = l := by unfold lsM at hl; rw [← hts]; exact hl
  have htr : ¬ I 0 9 = 0 → ¬ I 0 7 = 0 ∧ MkT I l ts ns := fun q => by have := hK.2.2.1 q; rw [hl, hts] at this; exact this
  have h07 : I 0 7 = 0 := Classical.byContradiction fun q => by cases (hK.1 q).1
  by_cases hb : i < 0
  · refine Or.inl (c_take_b i hW nr kd hC.2.2.1.1 hC.2.2.1.2.1 hC.2.2.2.2.2.2.2.2.1.2.2.2.2 (fun s hs => ⟨(hC.2.2.2.2.2.1 s hs).1, (hC.2.2.2.2.2.1 s hs).2.1⟩) (fun s hs => (hC.2.2.2.2.2.1 s hs).2.2.2) hC.2.2.2.2.2.2.2.2.2.2.2.1 K7 hK7 l ts hts2 hl2 htr hb ?_)
    refine ⟨_, _, _, rfl, rfl, rfl, ?_⟩
    exact mB_take hC hK i l ts hl hts hb
  refine Or.inr (c_take_f i hW nr kd hC.2.2.1.1 hC.2.2.1.2.1 hC.2.2.2.2.2.2.2.2.1.2.2.2.2 (fun s hs => ⟨(hC.2.2.2.2.2.1 s hs).1, (hC.2.2.2.2.2.1 s hs).2.1⟩) (fun s hs => (hC.2.2.2.2.2.1 s hs).2.2.2) hC.2.2.2.2.2.2.2.2.2.2.2.1 K7 hK7 l ts hts2 hl2 htr h07 hb  (fun J h1 hD hp => ?_) (fun K h1 hT hp he => ?_) (fun K K2 ii n c hi hT hn hp hc hq f1 f2 f3 => ?_))
  · obtain ⟨cJ, kJ⟩ := aft_DP hC hK hD
    have ea : alC J sp d = alC I sp d := alC_fr hW (FrDr_C hD.1)
    obtain ⟨t1, t2⟩ := ts_fr (I := I) (J := J) (d := d) (cs := cs) (ns := ns) (nr := nr) (fun q i hh => hD.1 q i (by omega) (by omega) (by omega) (by omega) (by omega) (by omega) (by omega) (by omega) (by omega))
    have xl : (lsM J d cs ns nr 11).2 = l := by rw [t2]; exact hl
    have xt : tsM J d cs ns nr (7 ^ ns) = ts := by rw [t1]; exact hts
    refine ⟨_, _, _, rfl, rfl, rfl, ?_⟩
    exact mN_take cJ kJ i l ts xl xt (Int32.not_lt.mpr h1) (Or.inl (by rw [ea]; exact hp))
  · obtain ⟨cK, kK, ea, xl, xt⟩ := aft_WT hC hK hl hts hT
    refine ⟨_, _, _, rfl, rfl, rfl, ?_⟩
    exact mN_take cK kK i l ts xl xt (Int32.not_lt.mpr h1) (Or.inr he)
  · obtain ⟨cK, kK, ea, xl, xt⟩ := aft_WT hC hK hl hts hT
    refine ⟨_, _, _, rfl, rfl, rfl, ?_⟩
    exact mO_take cK kK i l ts xl xt ii n hi hn (by rw [ea]; exact hp) c hc K2 hq f1 f2 f3

end K16b
