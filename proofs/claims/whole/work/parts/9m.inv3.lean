/-! ===== more frames ===== -/
section INV3
variable {I J : Nat → Nat → Int32} {sp : Nat → Nat} {pl : Bool} {ns nstr nc : Nat} {d : pD} {cs : Nat → pC} {fr to sc kd : Nat → Nat} {nr tl nm : Nat} {cn : Nat → Nat}
theorem Cach_fr3 (hW : CW I sp ns nstr nc d cs fr to) (h : Cach I sp pl ns d cs nr)
    (hp : ¬ J 0 7 = 0 → ¬ I 0 7 = 0 ∧ ∀ q i, (28 ≤ q ∧ q < 44 ∧ ¬ (q % 4 = 0 ∧ i < 3)) ∨ (44 ≤ q ∧ q < 54) ∨ (q = 54 ∧ i < 3) ∨ q = 55 ∨ q = 57 ∨ (59 ≤ q ∧ q < 69) ∨ (q = 1 ∧ i = 8) → J q i = I q i)
    (hc : ¬ J 0 8 = 0 → ¬ I 0 8 = 0 ∧ ¬ J 0 7 = 0 ∧ ∀ q i, q = 26 ∨ q = 56 ∨ (q = 54 ∧ i = 8) ∨ (44 ≤ q ∧ q < 54) ∨ (q = 1 ∧ i = 8) → J q i = I q i)
    (ht : ¬ J 0 9 = 0 → ¬ I 0 9 = 0 ∧ ¬ J 0 7 = 0 ∧ ∀ q i, (80 ≤ q ∧ q ≤ 83) ∨ ((q = 106 ∨ q = 109 ∨ q = 110 ∨ q = 112 ∨ (114 ≤ q ∧ q ≤ 116)) ∨ (q = 101 ∧ i = 9)) → J q i = I q i)
    (hm : ¬ J 101 29 = 0 → ¬ I 101 29 = 0 ∧ ∀ q i, (122 ≤ q ∧ q ≤ 131) ∨ (q = 101 ∧ (i = 42 ∨ i = 43)) ∨ q = 110 → J q i = I q i)
    (hT : ¬ J 101 30 = 0 → ¬ I 101 30 = 0 ∧ ∀ q i, (140 ≤ q ∧ q ≤ 142) ∨ (q = 101 ∧ i = 56) ∨ ((q = 106 ∨ q = 109 ∨ q = 110 ∨ q = 112 ∨ (114 ≤ q ∧ q ≤ 116)) ∨ (q = 101 ∧ i = 9)) → J q i = I q i) : Cach J sp pl ns d cs nr := by
  have h10 := hW.2.2.2.2.2.2.1.2
  have hsp := hW.2.2.2.2.2.2.2.1
  have hs4 := hW.1.2
  have hA := CW_al hW
  refine ⟨fun q => ?_, fun q => ?_, fun q => ?_, fun q => ?_, fun q => ?_⟩
  · obtain ⟨q1, hq⟩ := hp q
    obtain ⟨a, b, c⟩ := h.1 q1
    have eal : alC J sp d = alC I sp d := alC_sp h10 hsp (fun q i h => hq q i (by omega))
    rw [eal, hq 1 8 (by omega)]
    exact ⟨a, PCs_fr hs4 b (fun q i h => hq q i (by omega)), FlC_fr hA c (fun q i h => hq q i (by omega))⟩
  · obtain ⟨q1, q2, hq⟩ := hc q
    obtain ⟨a, b⟩ := h.2.1 q1
    have eal : alC J sp d = alC I sp d := alC_sp h10 hsp (fun q i h => hq q i (by omega))
    have e26 : (fun s => J 26 s) = (fun s => I 26 s) := funext fun s => hq 26 s (by omega)
    refine ⟨q2, ?_⟩
    unfold fC
    rw [e26, hq 1 8 (by omega), eal]
    exact ⟨fun x hx => (hq _ _ (by omega)).trans (b.1 x hx), (hq _ _ (by omega)).trans b.2⟩
  · obtain ⟨q1, q2, hq⟩ := ht q
    obtain ⟨a, b⟩ := h.2.2.1 q1
    obtain ⟨t1, t2⟩ := ts_fr (I := I) (J := J) (d := d) (cs := cs) (ns := ns) (nr := nr) (fun q i h => hq q i (Or.inr h))
    rw [t1, t2]
    exact ⟨q2, MkT_fr b (fun q i h => hq q i (Or.inl h))⟩
  · obtain ⟨q1, hq⟩ := hm q
    have e110 : J 110 = I 110 := funext fun i => hq 110 i (by omega)
    have ealM : alM J d = alM I d := by funext s; show setOf (J 110) _ _ = setOf (I 110) _ _; rw [e110]
    rw [ealM]
    exact PlM_fr h10 (h.2.2.2.1 q1) (fun q i h => hq q i (by omega))
  · obtain ⟨q1, hq⟩ := hT q
    have b := h.2.2.2.2 q1
    obtain ⟨t1, t2⟩ := ts_fr (I := I) (J := J) (d := d) (cs := cs) (ns := ns) (nr := nr) (fun q i h => hq q i (Or.inr (Or.inr h)))
    rw [t1, t2]
    exact ⟨(hq _ _ (by omega)).trans b.1, fun i n hi => by
      obtain ⟨c1, c2, c3⟩ := b.2 i n hi
      exact ⟨(hq _ _ (by omega)).trans c1, (hq _ _ (by omega)).trans c2, fun c hc s hs => (hq _ _ (by omega)).trans (c3 c hc s hs)⟩⟩
theorem Inv_fr (hC : Core I sp ns nstr nc d cs fr to sc kd nr tl nm cn) (hK : Cach I sp pl ns d cs nr) (hq : ∀ q i, q < 121 ∨ (122 ≤ q ∧ q ≤ 131) ∨ (140 ≤ q ∧ q ≤ 142) ∨ q = 144 → J q i = I q i) : Inv J sp pl := by
  have h8 := hC.1.2.1.2
  refine ⟨ns, nstr, nc, d, cs, fr, to, sc, kd, nr, tl, nm, cn, Core_fr hC (fun q i h => hq q i (by unfold coreC at h; omega)) (by rw [hq 101 6 (by omega), hq 0 10 (by omega)]; exact hC.2.1.2.2.2.2.2.2.1) (fun hm a b ha hb => ?_), Cach_fr3 hC.1 hK (fun q => ⟨by rw [← hq 0 7 (by omega)]; exact q, fun q i h => hq q i (by omega)⟩) (fun q => ⟨by rw [← hq 0 8 (by omega)]; exact q, by rw [hq 0 7 (by omega)]; exact (hK.2.1 (by rw [← hq 0 8 (by omega)]; exact q)).1, fun q i h => hq q i (by omega)⟩) (fun q => ⟨by rw [← hq 0 9 (by omega)]; exact q, by rw [hq 0 7 (by omega)]; exact (hK.2.2.1 (by rw [← hq 0 9 (by omega)]; exact q)).1, fun q i h => hq q i (by omega)⟩) (fun q => ⟨by rw [← hq 101 29 (by omega)]; exact q, fun q i h => hq q i (by omega)⟩) (fun q => ⟨by rw [← hq 101 30 (by omega)]; exact q, fun q i h => hq q i (by omega)⟩)⟩
  rw [hq 2 8 (by omega)] at hm
  rw [hq _ _ (by omega)]
  exact hC.1.2.2.2.2.2.2.2.2.2.2.2 hm a b ha hb
end INV3
