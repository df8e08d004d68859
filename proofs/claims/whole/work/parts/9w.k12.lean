section K12
variable {I : Nat → Nat → Int32} {sp : Nat → Nat} {pl : Bool} {J K X : Nat → Nat → Int32} {ns nstr nc : Nat} {d : pD} {cs : Nat → pC} {fr to sc kd : Nat → Nat} {nr tl nm : Nat} {cn : Nat → Nat}
theorem PlM_al (h : Core J sp ns nstr nc d cs fr to sc kd nr tl nm cn) (hq : ∀ i, X 110 i = J 110 i) : alM X d = alM J d := by
  have e110 : X 110 = J 110 := funext hq
  funext s; show setOf (X 110) _ _ = setOf (J 110) _ _; rw [e110]
/-- the plans are drawn: all holds still -/
theorem aft_DP (hC : Core I sp ns nstr nc d cs fr to sc kd nr tl nm cn) (hK : Cach I sp pl ns d cs nr) (h : DP I J sp ns nstr nc d cs fr to) : Core J sp ns nstr nc d cs fr to sc kd nr tl nm cn ∧ Cach J sp true ns d cs nr := by
  obtain ⟨h1, h2, h3, h4, h5, h6⟩ := h
  have eal := alC_fr hC.1 (FrDr_C h1)
  have f : ∀ q i, ¬ (147 ≤ q) → ¬ (28 ≤ q ∧ q < 44 ∧ ¬ (q % 4 = 0 ∧ i < 3)) → ¬ (54 ≤ q ∧ q < 69) → ¬ (8 ≤ q ∧ q < 16) → ¬ (q = 2 ∧ i = 8) → ¬ (q = 0 ∧ i = 7) → J q i = I q i := fun q i a b c e g k => h1 q i a b (by omega) (by omega) (by omega) (by omega) e g k
  refine ⟨Core_fr hC (fun q i hc => by unfold coreC at hc; exact f q i (by omega) (by omega) (by omega) (by omega) (by omega) (by omega)) (by rw [f 101 6 (by omega) (by omega) (by omega) (by omega) (by omega) (by omega), f 0 10 (by omega) (by omega) (by omega) (by omega) (by omega) (by omega)]; exact hC.2.1.2.2.2.2.2.2.1) h3.2.2.2.2.2.2.2.2.2.2.2, fun _ => ?_, fun q => ?_, fun q => ?_, fun q => ?_, fun q => ?_⟩
  · rw [eal, f 1 8 (by omega) (by omega) (by omega) (by omega) (by omega) (by omega)]
    exact ⟨rfl, h5, h6⟩
  · rw [f 0 8 (by omega) (by omega) (by omega) (by omega) (by omega) (by omega)] at q
    have hk := hK.2.1 q
    have e := h2 hk.1
    rw [e]; exact hk
  · rw [f 0 9 (by omega) (by omega) (by omega) (by omega) (by omega) (by omega)] at q
    have hk := hK.2.2.1 q
    have e := h2 hk.1
    rw [e]; exact hk
  · rw [f 101 29 (by omega) (by omega) (by omega) (by omega) (by omega) (by omega)] at q
    have eM : alM J d = alM I d := PlM_al hC (fun i => f _ _ (by omega) (by omega) (by omega) (by omega) (by omega) (by omega))
    rw [eM]
    exact PlM_fr hC.1.2.2.2.2.2.2.1.2 (hK.2.2.2.1 q) (fun q i hh => f q i (by omega) (by omega) (by omega) (by omega) (by omega) (by omega))
  · rw [f 101 30 (by omega) (by omega) (by omega) (by omega) (by omega) (by omega)] at q
    have b := hK.2.2.2.2 q
    obtain ⟨t1, t2⟩ := ts_fr (I := I) (J := J) (d := d) (cs := cs) (ns := ns) (nr := nr) (fun q i hh => f q i (by omega) (by omega) (by omega) (by omega) (by omega) (by omega))
    have g : ∀ q i, (140 ≤ q ∧ q ≤ 142) ∨ (q = 101 ∧ i = 56) → J q i = I q i := fun q i hh => f q i (by omega) (by omega) (by omega) (by omega) (by omega) (by omega)
    rw [t1, t2]
    exact ⟨(g _ _ (by omega)).trans b.1, fun i n hi => by
      obtain ⟨c1, c2, c3⟩ := b.2 i n hi
      exact ⟨(g _ _ (by omega)).trans c1, (g _ _ (by omega)).trans c2, fun c hc s hs => (g _ _ (by omega)).trans (c3 c hc s hs)⟩⟩
/-- the model's rows, the class's having moved -/
theorem mo_MW (h : Core J sp ns nstr nc d cs fr to sc kd nr tl nm cn) (hX : ∀ q i, 101 ≤ q → X q i = J q i) : MW X ns nstr nc d cs fr to := by
  have hM := Core_MW h
  obtain ⟨w1, w2, w3, w4, w5, w6, w7, w8, w9, w10, w11, w12, w13⟩ := hM
  have v : ∀ q, 101 ≤ q → X q = J q := fun q hq => funext fun i => hX q i hq
  refine ⟨(hX _ _ (by omega)).trans w1, w2, (hX _ _ (by omega)).trans w3, w4, w5, fun s hs => ?_, ?_, (hX _ _ (by omega)).trans w8, w9, fun k hk => ⟨(w10 k hk).1, (hX _ _ (by omega)).trans (w10 k hk).2⟩, fun k hk => (hX _ _ (by omega)).trans (w11 k hk), (hX _ _ (by omega)).trans w12, fun s hs => ?_⟩
  · rw [v 102 (by omega), v 103 (by omega)]; exact w6 s hs
  · rw [v 104 (by omega), v 105 (by omega)]; exact w7
  · obtain ⟨y1, y2, y3⟩ := w13 s hs
    exact ⟨y1, (hX _ _ (by omega)).trans y2, by rw [hX 106 s (by omega), hX 101 8 (by omega)]; exact y3⟩
theorem mo_Pl (hC : Core J sp ns nstr nc d cs fr to sc kd nr tl nm cn) (hK : Cach J sp pl ns d cs nr) (hX : ∀ q i, 101 ≤ q → X q i = J q i) : ¬ X 101 29 = 0 → PlM X d cs (alM X d) ns := fun q => by
  rw [hX _ _ (by omega)] at q
  rw [PlM_al hC (fun i => hX 110 i (by omega))]
  exact PlM_fr hC.1.2.2.2.2.2.2.1.2 (hK.2.2.2.1 q) (fun q i hh => hX q i (by omega))
theorem mo_al (hC : Core J sp ns nstr nc d cs fr to sc kd nr tl nm cn) (hX : ∀ q i, 101 ≤ q → X q i = J q i) : alM X d = alC J sp d := (PlM_al hC (fun i => hX 110 i (by omega))).trans (Core_al hC)
/-- the model has planned -/
theorem fin_O (hC : Core J sp ns nstr nc d cs fr to sc kd nr tl nm cn) (hK : Cach J sp pl ns d cs nr) (hF : ∀ q i, ¬ (121 ≤ q ∧ q ≤ 139) → q ≠ 143 → q ≠ 145 → ¬ (q = 101 ∧ (i = 29 ∨ i = 42 ∨ i = 43)) → K q i = J q i) (hP : PlM K d cs (alM J d) ns) : Core K sp ns nstr nc d cs fr to sc kd nr tl nm cn ∧ Cach K sp pl ns d cs nr := by
  have h8 := hC.1.2.1.2
  have eM : alM K d = alM J d := PlM_al hC (fun i => hF _ _ (by omega) (by omega) (by omega) (by omega))
  refine ⟨Core_fr hC (fun q i hc => by unfold coreC at hc; exact hF q i (by omega) (by omega) (by omega) (by omega)) (by rw [hF 101 6 (by omega) (by omega) (by omega) (by omega), hF 0 10 (by omega) (by omega) (by omega) (by omega)]; exact hC.2.1.2.2.2.2.2.2.1) (fun hm a b ha hb => ?_), ?_⟩
  · rw [hF 2 8 (by omega) (by omega) (by omega) (by omega)] at hm
    rw [hF _ _ (by omega) (by omega) (by omega) (by omega)]
    exact hC.1.2.2.2.2.2.2.2.2.2.2.2 hm a b ha hb
  · have c1 := Cach_fr3 (J := K) (pl := pl) hC.1 hK (fun q => ⟨by rw [← hF 0 7 (by omega) (by omega) (by omega) (by omega)]; exact q, fun q i h => hF q i (by omega) (by omega) (by omega) (by omega)⟩) (fun q => ⟨by rw [← hF 0 8 (by omega) (by omega) (by omega) (by omega)]; exact q, by rw [hF 0 7 (by omega) (by omega) (by omega) (by omega)]; exact (hK.2.1 (by rw [← hF 0 8 (by omega) (by omega) (by omega) (by omega)]; exact q)).1, fun q i h => hF q i (by omega) (by omega) (by omega) (by omega)⟩) (fun q => ⟨by rw [← hF 0 9 (by omega) (by omega) (by omega) (by omega)]; exact q, by rw [hF 0 7 (by omega) (by omega) (by omega) (by omega)]; exact (hK.2.2.1 (by rw [← hF 0 9 (by omega) (by omega) (by omega) (by omega)]; exact q)).1, fun q i h => hF q i (by omega) (by omega) (by omega) (by omega)⟩)
    by_cases q29 : K 101 29 = 0
    · exact c1 (fun q => absurd q29 q) (fun q => ⟨by rw [← hF 101 30 (by omega) (by omega) (by omega) (by omega)]; exact q, fun q i h => hF q i (by omega) (by omega) (by omega) (by omega)⟩)
    · -- the plan is given
      have k : Cach (iu K 101 29 0) sp pl ns d cs nr := by
        have u : ∀ q i, ¬ (q = 101 ∧ i = 29) → iu K 101 29 0 q i = K q i := fun q i h => iu_ne (by omega)
        refine Cach_fr3 (J := iu K 101 29 0) (pl := pl) hC.1 hK (fun q => ⟨by rw [← hF 0 7 (by omega) (by omega) (by omega) (by omega), ← u 0 7 (by omega)]; exact q, fun q i h => (u q i (by omega)).trans (hF q i (by omega) (by omega) (by omega) (by omega))⟩) (fun q => ⟨by rw [← hF 0 8 (by omega) (by omega) (by omega) (by omega), ← u 0 8 (by omega)]; exact q, by rw [u 0 7 (by omega), hF 0 7 (by omega) (by omega) (by omega) (by omega)]; exact (hK.2.1 (by rw [← hF 0 8 (by omega) (by omega) (by omega) (by omega), ← u 0 8 (by omega)]; exact q)).1, fun q i h => (u q i (by omega)).trans (hF q i (by omega) (by omega) (by omega) (by omega))⟩) (fun q => ⟨by rw [← hF 0 9 (by omega) (by omega) (by omega) (by omega), ← u 0 9 (by omega)]; exact q, by rw [u 0 7 (by omega), hF 0 7 (by omega) (by omega) (by omega) (by omega)]; exact (hK.2.2.1 (by rw [← hF 0 9 (by omega) (by omega) (by omega) (by omega), ← u 0 9 (by omega)]; exact q)).1, fun q i h => (u q i (by omega)).trans (hF q i (by omega) (by omega) (by omega) (by omega))⟩) (fun q => absurd iu_eq q) (fun q => ⟨by rw [← hF 101 30 (by omega) (by omega) (by omega) (by omega), ← u 101 30 (by omega)]; exact q, fun q i h => (u q i (by omega)).trans (hF q i (by omega) (by omega) (by omega) (by omega))⟩)
      have u : ∀ q i, ¬ (q = 101 ∧ i = 29) → iu K 101 29 0 q i = K q i := fun q i h => iu_ne (by omega)
      have v : ∀ q, q ≠ 101 → iu K 101 29 0 q = K q := fun q h => funext fun i => u q i (by omega)
      obtain ⟨k1, k2, k3, -, k5⟩ := k
      have hal : alC (iu K 101 29 0) sp d = alC K sp d := alC_sp hC.1.2.2.2.2.2.2.1.2 hC.1.2.2.2.2.2.2.2.1 (fun q i h => u q i (by omega))
      obtain ⟨t1, t2⟩ := ts_fr (I := K) (J := iu K 101 29 0) (d := d) (cs := cs) (ns := ns) (nr := nr) (fun q i h => u q i (by omega))
      rw [u 0 7 (by omega)] at k1 k2 k3
      rw [u 0 8 (by omega)] at k2
      rw [u 0 9 (by omega)] at k3
      rw [u 101 30 (by omega)] at k5
      refine ⟨fun q => ?_, fun q => ?_, fun q => ?_, fun _ => by rw [eM]; exact hP, fun q => ?_⟩
      · obtain ⟨a, b, c⟩ := k1 q
        rw [hal, u 1 8 (by omega)] at c
        rw [hal] at b
        exact ⟨a, PCs_fr hC.1.1.2 b (fun q i h => (u q i (by omega)).symm), FlC_fr (by have := CW_al hC.1; have e : alC K sp d = alC J sp d := alC_sp hC.1.2.2.2.2.2.2.1.2 hC.1.2.2.2.2.2.2.2.1 (fun q i h => hF q i (by omega) (by omega) (by omega) (by omega)); rw [e]; exact this) c (fun q i h => (u q i (by omega)).symm)⟩
      · obtain ⟨a, b⟩ := k2 q
        refine ⟨a, ?_⟩
        unfold fC at b ⊢
        rw [hal, v 26 (by omega), u 1 8 (by omega)] at b
        exact ⟨fun x hx => (u 56 x (by omega)).symm.trans (b.1 x hx), (u 54 8 (by omega)).symm.trans b.2⟩
      · obtain ⟨a, b⟩ := k3 q
        rw [t1, t2] at b
        exact ⟨a, MkT_fr b (fun q i h => (u q i (by omega)).symm)⟩
      · have b := k5 q
        rw [t1, t2] at b
        exact ⟨(u _ _ (by omega)).symm.trans b.1, fun i n hi => by
          obtain ⟨c1, c2, c3⟩ := b.2 i n hi
          exact ⟨(u _ _ (by omega)).symm.trans c1, (u _ _ (by omega)).symm.trans c2, fun c hc s hs => (u _ _ (by omega)).symm.trans (c3 c hc s hs)⟩⟩
theorem fin_N (hC : Core J sp ns nstr nc d cs fr to sc kd nr tl nm cn) (hK : Cach J sp pl ns d cs nr) (hF : ∀ q i, ¬ (121 ≤ q ∧ q ≤ 139) → q ≠ 143 → q ≠ 145 → ¬ (q = 101 ∧ (i = 29 ∨ i = 42 ∨ i = 43)) → K q i = fnd J q i) (hP : PlM K d cs (alM (fnd J) d) ns) : Inv (fndM K) sp pl := by
  have eM : alM (fnd J) d = alM J d := PlM_al hC (fun i => fnd_o (by omega))
  rw [eM] at hP
  have u : ∀ q i, ¬ (q = 0 ∧ i = 10) → iu K 0 10 (J 0 10) q i = K q i := fun q i h => iu_ne (by omega)
  obtain ⟨c1, c2⟩ := fin_O (K := iu K 0 10 (J 0 10)) hC hK (fun q i a b c e => by
    by_cases h : q = 0 ∧ i = 10
    · obtain ⟨rfl, rfl⟩ := h; rw [iu_eq]
    · rw [u q i h, hF q i a b c e, fnd_o (by omega)]) (PlM_fr hC.1.2.2.2.2.2.2.1.2 hP (fun q i h => u q i (by omega)))
  refine Inv_fnd2 c1 c2 (fun q i a b => ?_) ?_ ?_
  · rw [u q i a]; exact fndM_o (by omega)
  · rw [iu_eq, fndM_o (by omega), hF 0 10 (by omega) (by omega) (by omega) (by omega)]; exact iu_eq
  · rw [u 101 6 (by omega)]; exact iu_eq
theorem frP_F (h : FrP J K) : ∀ q i, ¬ (121 ≤ q ∧ q ≤ 139) → q ≠ 143 → q ≠ 145 → ¬ (q = 101 ∧ (i = 29 ∨ i = 42 ∨ i = 43)) → K q i = J q i := fun q i a _ _ b => h.1 q i (by omega) b
end K12
