section K3
variable {I : Nat → Nat → Int32} {sp : Nat → Nat} {pl : Bool} {J : Nat → Nat → Int32} {ns nstr nc : Nat} {d : pD} {cs : Nat → pC} {fr to sc kd : Nat → Nat} {nr tl nm : Nat} {cn : Nat → Nat}
theorem Inv_bell (hC : Core I sp ns nstr nc d cs fr to sc kd nr tl nm cn) (hK : Cach I sp pl ns d cs nr) (s : Nat) (hs : s < ns) (b : Int32) (hb : 0 ≤ b.toInt ∧ b.toInt ≤ 6) (u : ∀ q i, ¬ (q = 26 ∧ i = s) ∧ ¬ (q = 108 ∧ i = s) ∧ ¬ (q = 0 ∧ i = 8) → J q i = I q i) (f1 : J 26 s = b) (f2 : J 108 s = b) (f3 : J 0 8 = 0) : Inv J sp pl := by
  have hW := hC.1
  have hMo := hC.2.1
  have h8 := hW.2.1.2
  have hs4 := hW.1.2
  have h10 := hW.2.2.2.2.2.2.1.2
  have hsp := hW.2.2.2.2.2.2.2.1
  have hstr := hW.2.2.1.2
  refine ⟨ns, nstr, nc, d, cs, fr, to, sc, kd, nr, tl, nm, cn, ?_, ?_⟩
  · exact ⟨CW_fr2 hW (fun q i h => u q i (by omega)) (fun hm a b ha hb => by rw [u 2 8 (by omega)] at hm; rw [u _ _ (by omega)]; exact hW.2.2.2.2.2.2.2.2.2.2.2 hm a b ha hb),
      ⟨((u 101 0 (by omega)).trans hMo.1), ((u 101 1 (by omega)).trans hMo.2.1), ((u 101 2 (by omega)).trans hMo.2.2.1), ((u 101 3 (by omega)).trans hMo.2.2.2.1), ((u 101 4 (by omega)).trans hMo.2.2.2.2.1), ((u 101 5 (by omega)).trans hMo.2.2.2.2.2.1), (by rw [u 101 6 (by omega), u 0 10 (by omega)]; exact hMo.2.2.2.2.2.2.1), ((u 101 7 (by omega)).trans hMo.2.2.2.2.2.2.2.1), (by rw [u 101 8 (by omega), u 1 7 (by omega)]; exact hMo.2.2.2.2.2.2.2.2.1), (by rw [u 101 9 (by omega), u 1 8 (by omega)]; exact hMo.2.2.2.2.2.2.2.2.2)⟩,
      (by rw [u 75 0 (by omega), u 75 1 (by omega)]; exact hC.2.2.1),
      (by rw [(show J (102) = I (102) from funext fun i => u (102) i (by omega)), (show J (103) = I (103) from funext fun i => u (103) i (by omega)), (show J (104) = I (104) from funext fun i => u (104) i (by omega)), (show J (105) = I (105) from funext fun i => u (105) i (by omega)), (show J (5) = I (5) from funext fun i => u (5) i (by omega)), (show J (6) = I (6) from funext fun i => u (6) i (by omega))]; exact hC.2.2.2.1),
      (fun x hx => by
        have := hC.2.2.2.2.1 x hx
        by_cases e : x = s
        · rw [u 106 x (by omega), u 107 x (by omega), u 109 x (by omega), u (28 + 4 * x) 0 (by omega), u (28 + 4 * x) 1 (by omega), u (28 + 4 * x) 2 (by omega), e, f1, f2]
          rw [e] at this
          exact ⟨this.1, this.2.1, rfl, this.2.2.2⟩
        · rw [u 106 x (by omega), u 107 x (by omega), u 108 x (by omega), u 109 x (by omega), u 26 x (by omega), u (28 + 4 * x) 0 (by omega), u (28 + 4 * x) 1 (by omega), u (28 + 4 * x) 2 (by omega)]; exact this),
      (fun x hx => by
        have := hC.2.2.2.2.2.1 x hx
        rw [u (28 + 4 * x) 0 (by omega), u (28 + 4 * x) 2 (by omega)]
        by_cases e : x = s
        · rw [e] at this ⊢; rw [f1]; exact ⟨this.1, this.2.1, hb, this.2.2.2⟩
        · rw [u 26 x (by omega)]; exact this),
      (fun x hx => by have hspx := hsp x (by omega); rw [u 110 x (by omega), u 111 x (by omega), u 112 x (by omega), u 113 x (by omega), u (sp x) 0 (by omega), u (sp x) 1 (by omega), u (sp x) 2 (by omega), u (sp x) 3 (by omega)]; exact hC.2.2.2.2.2.2.1 x hx),
      hC.2.2.2.2.2.2.2.1,
      (by rw [(show J (114) = I (114) from funext fun i => u (114) i (by omega)), (show J (115) = I (115) from funext fun i => u (115) i (by omega)), (show J (116) = I (116) from funext fun i => u (116) i (by omega)), (show J (117) = I (117) from funext fun i => u (117) i (by omega)), (show J (76) = I (76) from funext fun i => u (76) i (by omega)), (show J (77) = I (77) from funext fun i => u (77) i (by omega)), (show J (78) = I (78) from funext fun i => u (78) i (by omega)), (show J (79) = I (79) from funext fun i => u (79) i (by omega))]; exact hC.2.2.2.2.2.2.2.2.1),
      (fun j hj => by obtain ⟨p1, p2, p3, p4, p5⟩ := hC.2.2.2.2.2.2.2.2.2.1 j hj; exact ⟨p1, (u _ _ (by omega)).trans p2, by rw [u 118 j (by omega), u (93 + 2 * j) 0 (by omega)]; exact p3, (u _ _ (by omega)).trans p4, fun i hi => by rw [u 120 _ (by omega), u (94 + 2 * j) i (by omega)]; exact p5 i hi⟩),
      (by obtain ⟨p1, p2, p3, p4⟩ := hC.2.2.2.2.2.2.2.2.2.2.1; exact ⟨(u _ _ (by omega)).trans p1, p2, (u _ _ (by omega)).trans p3, fun r hr => by rw [u 144 r (by omega), u 91 r (by omega)]; exact p4 r hr⟩),
      (by rw [u 1 8 (by omega)]; exact hC.2.2.2.2.2.2.2.2.2.2.2.1),
      (by rw [u 1 7 (by omega)]; exact hC.2.2.2.2.2.2.2.2.2.2.2.2)⟩
  · exact Cach_fr3 hW hK (fun q => ⟨by rw [← u 0 7 (by omega)]; exact q, fun q i h => u q i (by omega)⟩) (fun q => absurd f3 q) (fun q => ⟨by rw [← u 0 9 (by omega)]; exact q, by rw [u 0 7 (by omega)]; exact (hK.2.2.1 (by rw [← u 0 9 (by omega)]; exact q)).1, fun q i h => u q i (by omega)⟩) (fun q => ⟨by rw [← u 101 29 (by omega)]; exact q, fun q i h => u q i (by omega)⟩) (fun q => ⟨by rw [← u 101 30 (by omega)]; exact q, fun q i h => u q i (by omega)⟩)

theorem Inv_wish (hC : Core I sp ns nstr nc d cs fr to sc kd nr tl nm cn) (hK : Cach I sp pl ns d cs nr) (s : Nat) (hs : s < ns) (b : Int32) (hb : 0 ≤ b.toInt ∧ b.toInt ≤ 6) (u : ∀ q i, ¬ (q = 28 + 4 * s ∧ i = 2) ∧ ¬ (q = 109 ∧ i = s) ∧ ¬ (q = 0 ∧ i = 9) ∧ ¬ (q = 101 ∧ (i = 29 ∨ i = 30)) → J q i = I q i) (f1 : J (28 + 4 * s) 2 = b) (f2 : J 109 s = b) (f3 : J 0 9 = 0) (f4 : J 101 29 = 0) (f5 : J 101 30 = 0) : Inv J sp pl := by
  have hW := hC.1
  have hMo := hC.2.1
  have h8 := hW.2.1.2
  have hs4 := hW.1.2
  have h10 := hW.2.2.2.2.2.2.1.2
  have hsp := hW.2.2.2.2.2.2.2.1
  have hstr := hW.2.2.1.2
  refine ⟨ns, nstr, nc, d, cs, fr, to, sc, kd, nr, tl, nm, cn, ?_, ?_⟩
  · exact ⟨(by
        obtain ⟨w1, w2, w3, w4, w5, w6, w7, w8, w9, w10, w11, w12⟩ := hW
        have hs44 : s < 4 := by omega
        refine ⟨by rw [u 1 4 (by omega)]; exact w1, by rw [u 2 0 (by omega)]; exact w2, by rw [u 2 1 (by omega)]; exact w3, fun x hx => by rw [u 3 x (by omega), u 4 x (by omega)]; exact w4 x hx, fun x hx => by rw [u 5 x (by omega)]; exact w5 x hx, ?_, by rw [u 1 5 (by omega)]; exact w7, w8, fun x hx => ?_, by rw [u 1 6 (by omega)]; exact w10, fun x hx => ?_, fun hm a c ha hc => ?_⟩
        · rw [show J 5 = I 5 from funext fun i => u 5 i (by omega), show J 6 = I 6 from funext fun i => u 6 i (by omega)]; exact w6
        · have := w8 x (by omega)
          rw [u (sp x) 1 (by omega), u (sp x) 2 (by omega)]; exact w9 x hx
        · rw [u (28 + 4 * x) 0 (by omega), u (28 + 4 * x) 1 (by omega), u 1 7 (by omega)]; exact w11 x hx
        · rw [u 2 8 (by omega)] at hm
          rw [u _ _ (by omega)]; exact w12 hm a c ha hc),
      ⟨((u 101 0 (by omega)).trans hMo.1), ((u 101 1 (by omega)).trans hMo.2.1), ((u 101 2 (by omega)).trans hMo.2.2.1), ((u 101 3 (by omega)).trans hMo.2.2.2.1), ((u 101 4 (by omega)).trans hMo.2.2.2.2.1), ((u 101 5 (by omega)).trans hMo.2.2.2.2.2.1), (by rw [u 101 6 (by omega), u 0 10 (by omega)]; exact hMo.2.2.2.2.2.2.1), ((u 101 7 (by omega)).trans hMo.2.2.2.2.2.2.2.1), (by rw [u 101 8 (by omega), u 1 7 (by omega)]; exact hMo.2.2.2.2.2.2.2.2.1), (by rw [u 101 9 (by omega), u 1 8 (by omega)]; exact hMo.2.2.2.2.2.2.2.2.2)⟩,
      (by rw [u 75 0 (by omega), u 75 1 (by omega)]; exact hC.2.2.1),
      (by rw [(show J (102) = I (102) from funext fun i => u (102) i (by omega)), (show J (103) = I (103) from funext fun i => u (103) i (by omega)), (show J (104) = I (104) from funext fun i => u (104) i (by omega)), (show J (105) = I (105) from funext fun i => u (105) i (by omega)), (show J (5) = I (5) from funext fun i => u (5) i (by omega)), (show J (6) = I (6) from funext fun i => u (6) i (by omega))]; exact hC.2.2.2.1),
      (fun x hx => by
        have := hC.2.2.2.2.1 x hx
        rw [u 106 x (by omega), u 107 x (by omega), u 108 x (by omega), u 26 x (by omega), u (28 + 4 * x) 0 (by omega), u (28 + 4 * x) 1 (by omega)]
        by_cases e : x = s
        · rw [e] at this ⊢; rw [f1, f2]; exact ⟨this.1, this.2.1, this.2.2.1, rfl⟩
        · rw [u 109 x (by omega), u (28 + 4 * x) 2 (by omega)]; exact this),
      (fun x hx => by
        have := hC.2.2.2.2.2.1 x hx
        rw [u (28 + 4 * x) 0 (by omega), u 26 x (by omega)]
        by_cases e : x = s
        · rw [e] at this ⊢; rw [f1]; exact ⟨this.1, this.2.1, this.2.2.1, hb⟩
        · rw [u (28 + 4 * x) 2 (by omega)]; exact this),
      (fun x hx => by have hspx := hsp x (by omega); rw [u 110 x (by omega), u 111 x (by omega), u 112 x (by omega), u 113 x (by omega), u (sp x) 0 (by omega), u (sp x) 1 (by omega), u (sp x) 2 (by omega), u (sp x) 3 (by omega)]; exact hC.2.2.2.2.2.2.1 x hx),
      hC.2.2.2.2.2.2.2.1,
      (by rw [(show J (114) = I (114) from funext fun i => u (114) i (by omega)), (show J (115) = I (115) from funext fun i => u (115) i (by omega)), (show J (116) = I (116) from funext fun i => u (116) i (by omega)), (show J (117) = I (117) from funext fun i => u (117) i (by omega)), (show J (76) = I (76) from funext fun i => u (76) i (by omega)), (show J (77) = I (77) from funext fun i => u (77) i (by omega)), (show J (78) = I (78) from funext fun i => u (78) i (by omega)), (show J (79) = I (79) from funext fun i => u (79) i (by omega))]; exact hC.2.2.2.2.2.2.2.2.1),
      (fun j hj => by obtain ⟨p1, p2, p3, p4, p5⟩ := hC.2.2.2.2.2.2.2.2.2.1 j hj; exact ⟨p1, (u _ _ (by omega)).trans p2, by rw [u 118 j (by omega), u (93 + 2 * j) 0 (by omega)]; exact p3, (u _ _ (by omega)).trans p4, fun i hi => by rw [u 120 _ (by omega), u (94 + 2 * j) i (by omega)]; exact p5 i hi⟩),
      (by obtain ⟨p1, p2, p3, p4⟩ := hC.2.2.2.2.2.2.2.2.2.2.1; exact ⟨(u _ _ (by omega)).trans p1, p2, (u _ _ (by omega)).trans p3, fun r hr => by rw [u 144 r (by omega), u 91 r (by omega)]; exact p4 r hr⟩),
      (by rw [u 1 8 (by omega)]; exact hC.2.2.2.2.2.2.2.2.2.2.2.1),
      (by rw [u 1 7 (by omega)]; exact hC.2.2.2.2.2.2.2.2.2.2.2.2)⟩
  · exact Cach_fr3 hW hK (fun q => ⟨by rw [← u 0 7 (by omega)]; exact q, fun q i h => u q i (by omega)⟩) (fun q => ⟨by rw [← u 0 8 (by omega)]; exact q, by rw [u 0 7 (by omega)]; exact (hK.2.1 (by rw [← u 0 8 (by omega)]; exact q)).1, fun q i h => u q i (by omega)⟩) (fun q => absurd f3 q) (fun q => absurd f4 q) (fun q => absurd f5 q)

theorem Inv_tape (hC : Core I sp ns nstr nc d cs fr to sc kd nr tl nm cn) (hK : Cach I sp pl ns d cs nr) (tl2 : Nat) (h60 : tl2 ≤ 60) (u : ∀ q i, ¬ (q = 76) ∧ ¬ (q = 117) ∧ ¬ (q = 75 ∧ i = 0) ∧ ¬ (q = 101 ∧ i = 5) → J q i = I q i) (f1 : J 117 = J 76) (f2 : J 75 0 = nI tl2) (f3 : J 101 5 = nI tl2) : Inv J sp pl := by
  have hW := hC.1
  have hMo := hC.2.1
  have h8 := hW.2.1.2
  have hs4 := hW.1.2
  have h10 := hW.2.2.2.2.2.2.1.2
  have hsp := hW.2.2.2.2.2.2.2.1
  have hstr := hW.2.2.1.2
  refine ⟨ns, nstr, nc, d, cs, fr, to, sc, kd, nr, tl2, nm, cn, ?_, ?_⟩
  · exact ⟨CW_fr2 hW (fun q i h => u q i (by omega)) (fun hm a b ha hb => by rw [u 2 8 (by omega)] at hm; rw [u _ _ (by omega)]; exact hW.2.2.2.2.2.2.2.2.2.2.2 hm a b ha hb),
      ⟨((u 101 0 (by omega)).trans hMo.1), ((u 101 1 (by omega)).trans hMo.2.1), ((u 101 2 (by omega)).trans hMo.2.2.1), ((u 101 3 (by omega)).trans hMo.2.2.2.1), ((u 101 4 (by omega)).trans hMo.2.2.2.2.1), f3, (by rw [u 101 6 (by omega), u 0 10 (by omega)]; exact hMo.2.2.2.2.2.2.1), ((u 101 7 (by omega)).trans hMo.2.2.2.2.2.2.2.1), (by rw [u 101 8 (by omega), u 1 7 (by omega)]; exact hMo.2.2.2.2.2.2.2.2.1), (by rw [u 101 9 (by omega), u 1 8 (by omega)]; exact hMo.2.2.2.2.2.2.2.2.2)⟩,
      ⟨by rw [u 75 1 (by omega)]; exact hC.2.2.1.1, hC.2.2.1.2.1, f2, h60⟩,
      (by rw [(show J (102) = I (102) from funext fun i => u (102) i (by omega)), (show J (103) = I (103) from funext fun i => u (103) i (by omega)), (show J (104) = I (104) from funext fun i => u (104) i (by omega)), (show J (105) = I (105) from funext fun i => u (105) i (by omega)), (show J (5) = I (5) from funext fun i => u (5) i (by omega)), (show J (6) = I (6) from funext fun i => u (6) i (by omega))]; exact hC.2.2.2.1),
      (fun s hs => by rw [u 106 s (by omega), u 107 s (by omega), u 108 s (by omega), u 109 s (by omega), u 26 s (by omega), u (28 + 4 * s) 0 (by omega), u (28 + 4 * s) 1 (by omega), u (28 + 4 * s) 2 (by omega)]; exact hC.2.2.2.2.1 s hs),
      (fun s hs => by rw [u 26 s (by omega), u (28 + 4 * s) 0 (by omega), u (28 + 4 * s) 2 (by omega)]; exact hC.2.2.2.2.2.1 s hs),
      (fun x hx => by have hspx := hsp x (by omega); rw [u 110 x (by omega), u 111 x (by omega), u 112 x (by omega), u 113 x (by omega), u (sp x) 0 (by omega), u (sp x) 1 (by omega), u (sp x) 2 (by omega), u (sp x) 3 (by omega)]; exact hC.2.2.2.2.2.2.1 x hx),
      hC.2.2.2.2.2.2.2.1,
      (by have := hC.2.2.2.2.2.2.2.2.1; rw [(show J (114) = I (114) from funext fun i => u (114) i (by omega)), (show J (115) = I (115) from funext fun i => u (115) i (by omega)), (show J (116) = I (116) from funext fun i => u (116) i (by omega)), (show J (77) = I (77) from funext fun i => u (77) i (by omega)), (show J (78) = I (78) from funext fun i => u (78) i (by omega)), (show J (79) = I (79) from funext fun i => u (79) i (by omega))]; exact ⟨this.1, this.2.1, this.2.2.1, f1, this.2.2.2.2⟩),
      (fun j hj => by obtain ⟨p1, p2, p3, p4, p5⟩ := hC.2.2.2.2.2.2.2.2.2.1 j hj; exact ⟨p1, (u _ _ (by omega)).trans p2, by rw [u 118 j (by omega), u (93 + 2 * j) 0 (by omega)]; exact p3, (u _ _ (by omega)).trans p4, fun i hi => by rw [u 120 _ (by omega), u (94 + 2 * j) i (by omega)]; exact p5 i hi⟩),
      (by obtain ⟨p1, p2, p3, p4⟩ := hC.2.2.2.2.2.2.2.2.2.2.1; exact ⟨(u _ _ (by omega)).trans p1, p2, (u _ _ (by omega)).trans p3, fun r hr => by rw [u 144 r (by omega), u 91 r (by omega)]; exact p4 r hr⟩),
      (by rw [u 1 8 (by omega)]; exact hC.2.2.2.2.2.2.2.2.2.2.2.1),
      (by rw [u 1 7 (by omega)]; exact hC.2.2.2.2.2.2.2.2.2.2.2.2)⟩
  · exact Cach_fr3 hW hK (fun q => ⟨by rw [← u 0 7 (by omega)]; exact q, fun q i h => u q i (by omega)⟩) (fun q => ⟨by rw [← u 0 8 (by omega)]; exact q, by rw [u 0 7 (by omega)]; exact (hK.2.1 (by rw [← u 0 8 (by omega)]; exact q)).1, fun q i h => u q i (by omega)⟩) (fun q => ⟨by rw [← u 0 9 (by omega)]; exact q, by rw [u 0 7 (by omega)]; exact (hK.2.2.1 (by rw [← u 0 9 (by omega)]; exact q)).1, fun q i h => u q i (by omega)⟩) (fun q => ⟨by rw [← u 101 29 (by omega)]; exact q, fun q i h => u q i (by omega)⟩) (fun q => ⟨by rw [← u 101 30 (by omega)]; exact q, fun q i h => u q i (by omega)⟩)

theorem Inv_rule (hC : Core I sp ns nstr nc d cs fr to sc kd nr tl nm cn) (hK : Cach I sp pl ns d cs nr) (nr2 : Nat) (h8r : nr2 ≤ 8) (u : ∀ q i, ¬ (77 ≤ q ∧ q ≤ 79) ∧ ¬ (114 ≤ q ∧ q ≤ 116) ∧ ¬ (q = 75) ∧ ¬ (q = 101 ∧ (i = 4 ∨ i = 5 ∨ i = 29 ∨ i = 30)) ∧ ¬ (q = 0 ∧ i = 9) → J q i = I q i) (f1 : J 114 = J 77) (f2 : J 115 = J 78) (f3 : J 116 = J 79) (f4 : J 75 1 = nI nr2) (f5 : J 101 4 = nI nr2) (f6 : J 75 0 = 0) (f7 : J 101 5 = 0) (f8 : ∀ r, r < nr2 → ¬ J 77 r < 0) (f9 : J 0 9 = 0) (f10 : J 101 29 = 0) (f11 : J 101 30 = 0) : Inv J sp pl := by
  have hW := hC.1
  have hMo := hC.2.1
  have h8 := hW.2.1.2
  have hs4 := hW.1.2
  have h10 := hW.2.2.2.2.2.2.1.2
  have hsp := hW.2.2.2.2.2.2.2.1
  have hstr := hW.2.2.1.2
  refine ⟨ns, nstr, nc, d, cs, fr, to, sc, kd, nr2, 0, nm, cn, ?_, ?_⟩
  · exact ⟨CW_fr2 hW (fun q i h => u q i (by omega)) (fun hm a b ha hb => by rw [u 2 8 (by omega)] at hm; rw [u _ _ (by omega)]; exact hW.2.2.2.2.2.2.2.2.2.2.2 hm a b ha hb),
      ⟨((u 101 0 (by omega)).trans hMo.1), ((u 101 1 (by omega)).trans hMo.2.1), ((u 101 2 (by omega)).trans hMo.2.2.1), ((u 101 3 (by omega)).trans hMo.2.2.2.1), f5, f7, (by rw [u 101 6 (by omega), u 0 10 (by omega)]; exact hMo.2.2.2.2.2.2.1), ((u 101 7 (by omega)).trans hMo.2.2.2.2.2.2.2.1), (by rw [u 101 8 (by omega), u 1 7 (by omega)]; exact hMo.2.2.2.2.2.2.2.2.1), (by rw [u 101 9 (by omega), u 1 8 (by omega)]; exact hMo.2.2.2.2.2.2.2.2.2)⟩,
      ⟨f4, h8r, f6, by omega⟩,
      (by rw [(show J (102) = I (102) from funext fun i => u (102) i (by omega)), (show J (103) = I (103) from funext fun i => u (103) i (by omega)), (show J (104) = I (104) from funext fun i => u (104) i (by omega)), (show J (105) = I (105) from funext fun i => u (105) i (by omega)), (show J (5) = I (5) from funext fun i => u (5) i (by omega)), (show J (6) = I (6) from funext fun i => u (6) i (by omega))]; exact hC.2.2.2.1),
      (fun s hs => by rw [u 106 s (by omega), u 107 s (by omega), u 108 s (by omega), u 109 s (by omega), u 26 s (by omega), u (28 + 4 * s) 0 (by omega), u (28 + 4 * s) 1 (by omega), u (28 + 4 * s) 2 (by omega)]; exact hC.2.2.2.2.1 s hs),
      (fun s hs => by rw [u 26 s (by omega), u (28 + 4 * s) 0 (by omega), u (28 + 4 * s) 2 (by omega)]; exact hC.2.2.2.2.2.1 s hs),
      (fun x hx => by have hspx := hsp x (by omega); rw [u 110 x (by omega), u 111 x (by omega), u 112 x (by omega), u 113 x (by omega), u (sp x) 0 (by omega), u (sp x) 1 (by omega), u (sp x) 2 (by omega), u (sp x) 3 (by omega)]; exact hC.2.2.2.2.2.2.1 x hx),
      hC.2.2.2.2.2.2.2.1,
      ⟨f1, f2, f3, by rw [(show J (117) = I (117) from funext fun i => u (117) i (by omega)), (show J (76) = I (76) from funext fun i => u (76) i (by omega))]; exact hC.2.2.2.2.2.2.2.2.1.2.2.2.1, f8⟩,
      (fun j hj => by obtain ⟨p1, p2, p3, p4, p5⟩ := hC.2.2.2.2.2.2.2.2.2.1 j hj; exact ⟨p1, (u _ _ (by omega)).trans p2, by rw [u 118 j (by omega), u (93 + 2 * j) 0 (by omega)]; exact p3, (u _ _ (by omega)).trans p4, fun i hi => by rw [u 120 _ (by omega), u (94 + 2 * j) i (by omega)]; exact p5 i hi⟩),
      (by obtain ⟨p1, p2, p3, p4⟩ := hC.2.2.2.2.2.2.2.2.2.2.1; exact ⟨(u _ _ (by omega)).trans p1, p2, (u _ _ (by omega)).trans p3, fun r hr => by rw [u 144 r (by omega), u 91 r (by omega)]; exact p4 r hr⟩),
      (by rw [u 1 8 (by omega)]; exact hC.2.2.2.2.2.2.2.2.2.2.2.1),
      (by rw [u 1 7 (by omega)]; exact hC.2.2.2.2.2.2.2.2.2.2.2.2)⟩
  · obtain ⟨a1, a2, -, -, -⟩ := (Cach_fr3 (J := J) hW hK (fun q => ⟨by rw [← u 0 7 (by omega)]; exact q, fun q i h => u q i (by omega)⟩) (fun q => ⟨by rw [← u 0 8 (by omega)]; exact q, by rw [u 0 7 (by omega)]; exact (hK.2.1 (by rw [← u 0 8 (by omega)]; exact q)).1, fun q i h => u q i (by omega)⟩) (fun q => absurd f9 q) (fun q => absurd f10 q) (fun q => absurd f11 q) : Cach J sp pl ns d cs nr)
    exact ⟨a1, a2, fun q => absurd f9 q, fun q => absurd f10 q, fun q => absurd f11 q⟩

theorem Inv_sheet (hC : Core I sp ns nstr nc d cs fr to sc kd nr tl nm cn) (hK : Cach I sp pl ns d cs nr) (cn2 : Nat → Nat) (u : ∀ q i, ¬ (93 ≤ q ∧ q < 101) ∧ ¬ (118 ≤ q ∧ q ≤ 120) → J q i = I q i) (f1 : ∀ j, j < 4 → cn2 j ≤ 10 ∧ J (93 + 2 * j) 1 = nI (cn2 j) ∧ J 118 j = J (93 + 2 * j) 0 ∧ J 119 j = nI (cn2 j) ∧ ∀ i, i < 10 → J 120 (10 * j + i) = J (94 + 2 * j) i) : Inv J sp pl := by
  have hW := hC.1
  have hMo := hC.2.1
  have h8 := hW.2.1.2
  have hs4 := hW.1.2
  have h10 := hW.2.2.2.2.2.2.1.2
  have hsp := hW.2.2.2.2.2.2.2.1
  have hstr := hW.2.2.1.2
  refine ⟨ns, nstr, nc, d, cs, fr, to, sc, kd, nr, tl, nm, cn2, ?_, ?_⟩
  · exact ⟨CW_fr2 hW (fun q i h => u q i (by omega)) (fun hm a b ha hb => by rw [u 2 8 (by omega)] at hm; rw [u _ _ (by omega)]; exact hW.2.2.2.2.2.2.2.2.2.2.2 hm a b ha hb),
      ⟨((u 101 0 (by omega)).trans hMo.1), ((u 101 1 (by omega)).trans hMo.2.1), ((u 101 2 (by omega)).trans hMo.2.2.1), ((u 101 3 (by omega)).trans hMo.2.2.2.1), ((u 101 4 (by omega)).trans hMo.2.2.2.2.1), ((u 101 5 (by omega)).trans hMo.2.2.2.2.2.1), (by rw [u 101 6 (by omega), u 0 10 (by omega)]; exact hMo.2.2.2.2.2.2.1), ((u 101 7 (by omega)).trans hMo.2.2.2.2.2.2.2.1), (by rw [u 101 8 (by omega), u 1 7 (by omega)]; exact hMo.2.2.2.2.2.2.2.2.1), (by rw [u 101 9 (by omega), u 1 8 (by omega)]; exact hMo.2.2.2.2.2.2.2.2.2)⟩,
      (by rw [u 75 0 (by omega), u 75 1 (by omega)]; exact hC.2.2.1),
      (by rw [(show J (102) = I (102) from funext fun i => u (102) i (by omega)), (show J (103) = I (103) from funext fun i => u (103) i (by omega)), (show J (104) = I (104) from funext fun i => u (104) i (by omega)), (show J (105) = I (105) from funext fun i => u (105) i (by omega)), (show J (5) = I (5) from funext fun i => u (5) i (by omega)), (show J (6) = I (6) from funext fun i => u (6) i (by omega))]; exact hC.2.2.2.1),
      (fun s hs => by rw [u 106 s (by omega), u 107 s (by omega), u 108 s (by omega), u 109 s (by omega), u 26 s (by omega), u (28 + 4 * s) 0 (by omega), u (28 + 4 * s) 1 (by omega), u (28 + 4 * s) 2 (by omega)]; exact hC.2.2.2.2.1 s hs),
      (fun s hs => by rw [u 26 s (by omega), u (28 + 4 * s) 0 (by omega), u (28 + 4 * s) 2 (by omega)]; exact hC.2.2.2.2.2.1 s hs),
      (fun x hx => by have hspx := hsp x (by omega); rw [u 110 x (by omega), u 111 x (by omega), u 112 x (by omega), u 113 x (by omega), u (sp x) 0 (by omega), u (sp x) 1 (by omega), u (sp x) 2 (by omega), u (sp x) 3 (by omega)]; exact hC.2.2.2.2.2.2.1 x hx),
      hC.2.2.2.2.2.2.2.1,
      (by rw [(show J (114) = I (114) from funext fun i => u (114) i (by omega)), (show J (115) = I (115) from funext fun i => u (115) i (by omega)), (show J (116) = I (116) from funext fun i => u (116) i (by omega)), (show J (117) = I (117) from funext fun i => u (117) i (by omega)), (show J (76) = I (76) from funext fun i => u (76) i (by omega)), (show J (77) = I (77) from funext fun i => u (77) i (by omega)), (show J (78) = I (78) from funext fun i => u (78) i (by omega)), (show J (79) = I (79) from funext fun i => u (79) i (by omega))]; exact hC.2.2.2.2.2.2.2.2.1),
      f1,
      (by obtain ⟨p1, p2, p3, p4⟩ := hC.2.2.2.2.2.2.2.2.2.2.1; exact ⟨(u _ _ (by omega)).trans p1, p2, (u _ _ (by omega)).trans p3, fun r hr => by rw [u 144 r (by omega), u 91 r (by omega)]; exact p4 r hr⟩),
      (by rw [u 1 8 (by omega)]; exact hC.2.2.2.2.2.2.2.2.2.2.2.1),
      (by rw [u 1 7 (by omega)]; exact hC.2.2.2.2.2.2.2.2.2.2.2.2)⟩
  · exact Cach_fr3 hW hK (fun q => ⟨by rw [← u 0 7 (by omega)]; exact q, fun q i h => u q i (by omega)⟩) (fun q => ⟨by rw [← u 0 8 (by omega)]; exact q, by rw [u 0 7 (by omega)]; exact (hK.2.1 (by rw [← u 0 8 (by omega)]; exact q)).1, fun q i h => u q i (by omega)⟩) (fun q => ⟨by rw [← u 0 9 (by omega)]; exact q, by rw [u 0 7 (by omega)]; exact (hK.2.2.1 (by rw [← u 0 9 (by omega)]; exact q)).1, fun q i h => u q i (by omega)⟩) (fun q => ⟨by rw [← u 101 29 (by omega)]; exact q, fun q i h => u q i (by omega)⟩) (fun q => ⟨by rw [← u 101 30 (by omega)]; exact q, fun q i h => u q i (by omega)⟩)

end K3
