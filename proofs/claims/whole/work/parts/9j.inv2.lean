/-! ===== frames of what holds ===== -/
def cachC (q i : Nat) : Prop := (q = 0 ∧ 7 ≤ i ∧ i ≤ 9) ∨ (q = 1 ∧ i = 8) ∨ q = 26 ∨ (28 ≤ q ∧ q < 44 ∧ ¬ (q % 4 = 0 ∧ i < 3)) ∨ (44 ≤ q ∧ q < 54) ∨ (54 ≤ q ∧ q < 69) ∨ (80 ≤ q ∧ q ≤ 83) ∨ (q = 101 ∧ (i = 9 ∨ i = 29 ∨ i = 30 ∨ i = 42 ∨ i = 43 ∨ i = 56)) ∨ q = 106 ∨ q = 109 ∨ q = 110 ∨ q = 112 ∨ (114 ≤ q ∧ q ≤ 116) ∨ (122 ≤ q ∧ q ≤ 131) ∨ (140 ≤ q ∧ q ≤ 142)
section INV2
variable {I J : Nat → Nat → Int32} {sp : Nat → Nat} {pl : Bool} {ns nstr nc : Nat} {d : pD} {cs : Nat → pC} {fr to sc kd : Nat → Nat} {nr tl nm : Nat} {cn : Nat → Nat}
theorem alC_sp (h10 : d.1 ≤ 10) (hsp : ∀ k, k < 10 → 44 ≤ sp k ∧ sp k < 54) (hq : ∀ q i, 44 ≤ q ∧ q < 54 → J q i = I q i) : alC J sp d = alC I sp d := funext fun s => setOf_congr d.1 (fun k hk => hq _ _ (by have := hsp k (by omega); omega))
theorem Cach_fr (hW : CW I sp ns nstr nc d cs fr to) (h : Cach I sp pl ns d cs nr) (hq : ∀ q i, cachC q i → J q i = I q i) : Cach J sp pl ns d cs nr := by
  have h10 := hW.2.2.2.2.2.2.1.2
  have hsp := hW.2.2.2.2.2.2.2.1
  have hs4 := hW.1.2
  have hA := CW_al hW
  unfold cachC at hq
  have eal : alC J sp d = alC I sp d := alC_sp h10 hsp (fun q i h => hq q i (by omega))
  have e18 : J 1 8 = I 1 8 := hq 1 8 (by omega)
  have e26 : (fun s => J 26 s) = (fun s => I 26 s) := funext fun s => hq 26 s (by omega)
  have e110 : J 110 = I 110 := funext fun i => hq 110 i (by omega)
  have ealM : alM J d = alM I d := by funext s; show setOf (J 110) _ _ = setOf (I 110) _ _; rw [e110]
  obtain ⟨t1, t2⟩ := ts_fr (I := I) (J := J) (d := d) (cs := cs) (ns := ns) (nr := nr) (fun q i h => hq q i (by omega))
  have e7 : J 0 7 = I 0 7 := hq 0 7 (by omega)
  refine ⟨fun q => ?_, fun q => ?_, fun q => ?_, fun q => ?_, fun q => ?_⟩
  · rw [e7] at q
    obtain ⟨a, b, c⟩ := h.1 q
    rw [eal, e18]
    exact ⟨a, PCs_fr hs4 b (fun q i h => hq q i (by omega)), FlC_fr hA c (fun q i h => hq q i (by omega))⟩
  · rw [hq 0 8 (by omega)] at q
    obtain ⟨a, b⟩ := h.2.1 q
    rw [e7, eal]
    refine ⟨a, ?_⟩
    unfold fC
    rw [e26, e18, eal]
    exact ⟨fun x hx => (hq _ _ (by omega)).trans (b.1 x hx), (hq _ _ (by omega)).trans b.2⟩
  · rw [hq 0 9 (by omega)] at q
    obtain ⟨a, b⟩ := h.2.2.1 q
    rw [e7, t1, t2]
    exact ⟨a, MkT_fr b (fun q i h => hq q i (by omega))⟩
  · rw [hq 101 29 (by omega)] at q
    rw [ealM]
    exact PlM_fr h10 (h.2.2.2.1 q) (fun q i h => hq q i (by omega))
  · rw [hq 101 30 (by omega)] at q
    have b := h.2.2.2.2 q
    rw [t1, t2]
    exact ⟨(hq _ _ (by omega)).trans b.1, fun i n hi => by
      obtain ⟨c1, c2, c3⟩ := b.2 i n hi
      exact ⟨(hq _ _ (by omega)).trans c1, (hq _ _ (by omega)).trans c2, fun c hc s hs => (hq _ _ (by omega)).trans (c3 c hc s hs)⟩⟩
/-- one finding more on both sides -/
theorem Inv_fnd (hC : Core I sp ns nstr nc d cs fr to sc kd nr tl nm cn) (hK : Cach I sp pl ns d cs nr) (hX : ∀ q i, ¬ (q = 0 ∧ i = 10) → ¬ (q = 101 ∧ i = 6) → J q i = I q i) (h6 : J 101 6 = J 0 10) : Inv J sp pl := by
  have h8 := hC.1.2.1.2
  refine ⟨ns, nstr, nc, d, cs, fr, to, sc, kd, nr, tl, nm, cn, Core_fr hC (fun q i h => hX q i (by unfold coreC at h; omega) (by unfold coreC at h; omega)) h6 (fun hm a b ha hb => ?_), Cach_fr hC.1 hK (fun q i h => hX q i (by unfold cachC at h; omega) (by unfold cachC at h; omega))⟩
  rw [hX 2 8 (by omega) (by omega)] at hm
  rw [hX _ _ (by omega) (by omega)]
  exact hC.1.2.2.2.2.2.2.2.2.2.2.2 hm a b ha hb
theorem Inv_f2 (hC : Core I sp ns nstr nc d cs fr to sc kd nr tl nm cn) (hK : Cach I sp pl ns d cs nr) : Inv (fndM (fnd I)) sp pl :=
  Inv_fnd hC hK (fun q i a b => (iu_ne (by omega)).trans (iu_ne (by omega))) (by
    have := hC.2.1.2.2.2.2.2.2.1
    unfold fndM fnd
    rw [iu_eq, iu_ne (by omega), iu_ne (by omega), iu_eq, this])
theorem Inv_of (hC : Core I sp ns nstr nc d cs fr to sc kd nr tl nm cn) (hK : Cach I sp pl ns d cs nr) : Inv I sp pl := ⟨ns, nstr, nc, d, cs, fr, to, sc, kd, nr, tl, nm, cn, hC, hK⟩
end INV2
