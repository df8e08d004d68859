/-! ===== WHAT HOLDS BETWEEN TWO CALLS ===== -/
def Core (I : Nat → Nat → Int32) (sp : Nat → Nat) (ns nstr nc : Nat) (d : pD) (cs : Nat → pC) (fr to sc kd : Nat → Nat) (nr tl nm : Nat) (cn : Nat → Nat) : Prop :=
  CW I sp ns nstr nc d cs fr to
  ∧ (I 101 0 = nI nc ∧ I 101 1 = nI nstr ∧ I 101 2 = nI ns ∧ I 101 3 = nI d.1 ∧ I 101 4 = nI nr ∧ I 101 5 = nI tl ∧ I 101 6 = I 0 10 ∧ I 101 7 = d.2.2.2.2 ∧ I 101 8 = I 1 7 ∧ I 101 9 = I 1 8)
  ∧ (I 75 1 = nI nr ∧ nr ≤ 8 ∧ I 75 0 = nI tl ∧ tl ≤ 60)
  ∧ ((∀ s, s < nstr → I 102 s = nI (fr s) ∧ I 103 s = nI (to s)) ∧ I 104 = I 5 ∧ I 105 = I 6 ∧ ∀ s, s < nstr → 0 ≤ (I 5 s).toInt ∧ (I 5 s).toInt ≤ 20 ∧ (I 6 s = 0 ∨ I 6 s = 1))
  ∧ (∀ s, s < 4 → I 106 s = I (28 + 4 * s) 0 ∧ I 107 s = I (28 + 4 * s) 1 ∧ I 108 s = I 26 s ∧ I 109 s = I (28 + 4 * s) 2)
  ∧ (∀ s, s < ns → kd s < 4 ∧ I (28 + 4 * s) 0 = nI (kd s) ∧ (0 ≤ (I 26 s).toInt ∧ (I 26 s).toInt ≤ 6) ∧ (0 ≤ (I (28 + 4 * s) 2).toInt ∧ (I (28 + 4 * s) 2).toInt ≤ 6))
  ∧ (∀ k, k < d.1 → sc k < ns ∧ I (sp k) 0 = nI (sc k) ∧ I 110 k = I (sp k) 0 ∧ I 111 k = I (sp k) 1 ∧ I 112 k = I (sp k) 2 ∧ I 113 k = I (sp k) 3)
  ∧ (∀ i j, i < 10 → j < 10 → sp i = sp j → i = j)
  ∧ (I 114 = I 77 ∧ I 115 = I 78 ∧ I 116 = I 79 ∧ I 117 = I 76 ∧ ∀ r, r < nr → ¬ I 77 r < 0)
  ∧ (∀ j, j < 4 → cn j ≤ 10 ∧ I (93 + 2 * j) 1 = nI (cn j) ∧ I 118 j = I (93 + 2 * j) 0 ∧ I 119 j = nI (cn j) ∧ ∀ i, i < 10 → I 120 (10 * j + i) = I (94 + 2 * j) i)
  ∧ (I 90 0 = nI nm ∧ nm ≤ 10 ∧ I 101 57 = nI nm ∧ ∀ r, r < nm → I 144 r = I 91 r)
  ∧ (0 ≤ (I 1 8).toInt ∧ (I 1 8).toInt ≤ 30) ∧ (0 ≤ (I 1 7).toInt ∧ (I 1 7).toInt ≤ 90)
def coreC (q i : Nat) : Prop := (1 ≤ q ∧ q ≤ 6 ∧ ¬ (q = 2 ∧ i = 8)) ∨ q = 26 ∨ (28 ≤ q ∧ q < 44 ∧ q % 4 = 0 ∧ i < 3) ∨ (44 ≤ q ∧ q < 54) ∨ (75 ≤ q ∧ q < 80) ∨ (q = 90 ∧ i = 0) ∨ q = 91 ∨ (93 ≤ q ∧ q < 101) ∨ (q = 101 ∧ ((i ≤ 9 ∧ i ≠ 6) ∨ i = 57)) ∨ (102 ≤ q ∧ q ≤ 120) ∨ q = 144
def Cach (I : Nat → Nat → Int32) (sp : Nat → Nat) (pl : Bool) (ns : Nat) (d : pD) (cs : Nat → pC) (nr : Nat) : Prop :=
  (¬ I 0 7 = 0 → pl = true ∧ PCs I ns d cs (alC I sp d) ∧ FlC I ns d cs (alC I sp d) (I 1 8))
  ∧ (¬ I 0 8 = 0 → ¬ I 0 7 = 0 ∧ ChC I (fC I sp ns d cs) (RR d cs (alC I sp d) ns).length)
  ∧ (¬ I 0 9 = 0 → ¬ I 0 7 = 0 ∧ MkT I (lsM I d cs ns nr 11).2 (tsM I d cs ns nr (7 ^ ns)) ns)
  ∧ (¬ I 101 29 = 0 → PlM I d cs (alM I d) ns)
  ∧ (¬ I 101 30 = 0 → TRL I (lsM I d cs ns nr 11).2 (tsM I d cs ns nr (7 ^ ns)) ns)
def Inv (I : Nat → Nat → Int32) (sp : Nat → Nat) (pl : Bool) : Prop := ∃ ns nstr nc d cs fr to sc kd nr tl nm cn, Core I sp ns nstr nc d cs fr to sc kd nr tl nm cn ∧ Cach I sp pl ns d cs nr
section INV
variable {I J : Nat → Nat → Int32} {sp : Nat → Nat} {pl : Bool} {ns nstr nc : Nat} {d : pD} {cs : Nat → pC} {fr to sc kd : Nat → Nat} {nr tl nm : Nat} {cn : Nat → Nat}
theorem Core_fr (h : Core I sp ns nstr nc d cs fr to sc kd nr tl nm cn) (hq : ∀ q i, coreC q i → J q i = I q i) (h6 : J 101 6 = J 0 10) (ht : ¬ J 2 8 = 0 → ∀ a b, a < nc → b < nc → J (8 + a) b = d.2.2.1 a b) : Core J sp ns nstr nc d cs fr to sc kd nr tl nm cn := by
  have hW := h.1
  have h10 := hW.2.2.2.2.2.2.1.2
  have hsp := hW.2.2.2.2.2.2.2.1
  have hns := hW.1.2
  have hstr := hW.2.2.1.2
  obtain ⟨-, b, c, e, f, g, k, m, n, p, r, t⟩ := h
  unfold coreC at hq
  have f1 : ∀ q, (3 ≤ q ∧ q ≤ 6) ∨ (75 ≤ q ∧ q < 80) ∨ (102 ≤ q ∧ q ≤ 120) ∨ q = 26 ∨ q = 91 ∨ q = 144 ∨ q = 1 → J q = I q := fun q hq2 => funext fun i => hq q i (by omega)
  have fs : ∀ k i, k < 10 → J (sp k) i = I (sp k) i := fun k i hk => hq _ _ (by have := hsp k hk; omega)
  have fm : ∀ i, (i ≤ 9 ∧ i ≠ 6) ∨ i = 57 → J 101 i = I 101 i := fun i hi => hq _ _ (by omega)
  have fc : ∀ s i, s < 4 → i < 3 → J (28 + 4 * s) i = I (28 + 4 * s) i := fun s i hs hi => hq _ _ (by omega)
  have ft : ∀ q i, 93 ≤ q ∧ q < 101 → J q i = I q i := fun q i h => hq _ _ (by omega)
  refine ⟨CW_fr2 hW (fun q i hh => hq q i (by omega)) ht, ?_, ?_, ?_, fun s hs => ?_, fun s hs => ?_, fun x hx => ?_, m, ?_, fun j hj => ?_, ?_, ?_⟩
  · rw [fm 0 (by omega), fm 1 (by omega), fm 2 (by omega), fm 3 (by omega), fm 4 (by omega), fm 5 (by omega), fm 7 (by omega), fm 8 (by omega), fm 9 (by omega), f1 1 (by omega)]
    exact ⟨b.1, b.2.1, b.2.2.1, b.2.2.2.1, b.2.2.2.2.1, b.2.2.2.2.2.1, h6, b.2.2.2.2.2.2.2⟩
  · rw [f1 75 (by omega)]; exact c
  · rw [f1 102 (by omega), f1 103 (by omega), f1 104 (by omega), f1 105 (by omega), f1 5 (by omega), f1 6 (by omega)]; exact e
  · rw [f1 106 (by omega), f1 107 (by omega), f1 108 (by omega), f1 109 (by omega), f1 26 (by omega), fc s 0 hs (by omega), fc s 1 hs (by omega), fc s 2 hs (by omega)]; exact f s hs
  · rw [f1 26 (by omega), fc s 0 (by omega) (by omega), fc s 2 (by omega) (by omega)]; exact g s hs
  · rw [f1 110 (by omega), f1 111 (by omega), f1 112 (by omega), f1 113 (by omega), fs x 0 (by omega), fs x 1 (by omega), fs x 2 (by omega), fs x 3 (by omega)]; exact k x hx
  · rw [f1 114 (by omega), f1 115 (by omega), f1 116 (by omega), f1 117 (by omega), f1 76 (by omega), f1 77 (by omega), f1 78 (by omega), f1 79 (by omega)]; exact n
  · obtain ⟨p1, p2, p3, p4, p5⟩ := p j hj
    refine ⟨p1, (ft _ _ (by omega)).trans p2, ?_, ?_, fun i hi => ?_⟩
    · rw [f1 118 (by omega), ft _ _ (by omega)]; exact p3
    · rw [f1 119 (by omega)]; exact p4
    · rw [f1 120 (by omega), ft _ _ (by omega)]; exact p5 i hi
  · rw [hq 90 0 (by omega), fm 57 (by omega), f1 144 (by omega), f1 91 (by omega)]; exact r
  · rw [f1 1 (by omega)]; exact t
theorem Core_MW (h : Core I sp ns nstr nc d cs fr to sc kd nr tl nm cn) : MW I ns nstr nc d cs fr to := by
  obtain ⟨hW, b, c, e, f, g, k, m, n, p, r, t⟩ := h
  have h8 := hW.2.1.2
  refine ⟨b.2.2.1, hW.1.2, b.2.1, hW.2.2.1.2, h8, fun s hs => ⟨(hW.2.2.2.1 s hs).1, (hW.2.2.2.1 s hs).2.1, (e.1 s hs).1, (e.1 s hs).2⟩, by rw [e.2.1, e.2.2.1]; exact hW.2.2.2.2.2.1, b.2.2.2.1, hW.2.2.2.2.2.2.1.2, fun x hx => ?_, fun x hx => ?_, b.2.2.2.2.2.2.2.1, fun s hs => ?_⟩
  · obtain ⟨y1, y2, y3, y4⟩ := hW.2.2.2.2.2.2.2.2.1 x hx
    exact ⟨by omega, by rw [(k x hx).2.2.2.1]; exact y2⟩
  · obtain ⟨y1, y2, y3, y4⟩ := hW.2.2.2.2.2.2.2.2.1 x hx
    rw [(k x hx).2.2.2.2.1]; exact y3
  · have hs4 : s < 4 := by have := hW.1.2; omega
    obtain ⟨y1, y2, y3, y4⟩ := hW.2.2.2.2.2.2.2.2.2.2.1 s hs
    refine ⟨by omega, by rw [(f s hs4).2.1]; exact y2, ?_⟩
    rw [(f s hs4).1, b.2.2.2.2.2.2.2.2.1]; exact y3
theorem Core_al (h : Core I sp ns nstr nc d cs fr to sc kd nr tl nm cn) : alM I d = alC I sp d := funext fun s => setOf_congr d.1 (fun k hk => (h.2.2.2.2.2.2.1 k hk).2.2.1)
/-- the model's rows that trades are made from -/
theorem ts_fr {I J : Nat → Nat → Int32} {d : pD} {cs : Nat → pC} {ns nr : Nat} (hq : ∀ q i, (q = 106 ∨ q = 109 ∨ q = 110 ∨ q = 112 ∨ (114 ≤ q ∧ q ≤ 116)) ∨ (q = 101 ∧ i = 9) → J q i = I q i) : (∀ k, tsM J d cs ns nr k = tsM I d cs ns nr k) ∧ ∀ k, lsM J d cs ns nr k = lsM I d cs ns nr k := by
  have e1 : J 106 = I 106 := funext fun i => hq _ _ (by omega)
  have e2 : J 109 = I 109 := funext fun i => hq _ _ (by omega)
  have e3 : J 110 = I 110 := funext fun i => hq _ _ (by omega)
  have e4 : J 112 = I 112 := funext fun i => hq _ _ (by omega)
  have e5 : J 114 = I 114 := funext fun i => hq _ _ (by omega)
  have e6 : J 115 = I 115 := funext fun i => hq _ _ (by omega)
  have e7 : J 116 = I 116 := funext fun i => hq _ _ (by omega)
  have e8 : J 101 9 = I 101 9 := hq _ _ (by omega)
  have a1 : alW J nr ns = alW I nr ns := by unfold alW alG; rw [e1, e5, e6, e7]
  have a2 : coM J d ns = coM I d ns := by unfold coM trP; rw [e2, e3, e4]
  have a3 : nbM J d cs ns = nbM I d cs ns := by unfold nbM alM; rw [e3, e8]
  have a4 : ∀ k, tsM J d cs ns nr k = tsM I d cs ns nr k := fun k => by unfold tsM; rw [a1, a2, a3]
  exact ⟨a4, fun k => by unfold lsM; rw [a4]⟩
/-- all flags down -/
theorem Cach_0 (h1 : I 0 7 = 0) (h2 : I 0 8 = 0) (h3 : I 0 9 = 0) (h4 : I 101 29 = 0) (h5 : I 101 30 = 0) : Cach I sp pl ns d cs nr :=
  ⟨fun q => absurd h1 q, fun q => absurd h2 q, fun q => absurd h3 q, fun q => absurd h4 q, fun q => absurd h5 q⟩
end INV
/-- a call of the class, then the model's: they answer alike, and all holds again -/
def KM (p : Bool) (mm : aY) (Rm : Room) (a2 : List Value) : Option Value → Nat → aM → Prop := fun r n' m' => ∃ v J sp', r = some (.int v) ∧ n' = nn p ∧ m' = MM J sp' p ∧ aRuns mm Rm a2 (nn p) (MM J sp' p) (fun r2 n2 m2 => ∃ K, r2 = some (.int v) ∧ n2 = nn p ∧ m2 = MM K sp' p ∧ Inv K sp' p)
