section K4
variable {I : Nat → Nat → Int32} {sp : Nat → Nat} {pl : Bool} {J : Nat → Nat → Int32} {ns nstr nc : Nat} {d : pD} {cs : Nat → pC} {fr to sc kd : Nat → Nat} {nr tl nm : Nat} {cn : Nat → Nat}
theorem Inv_pups (hC : Core I sp ns nstr nc d cs fr to sc kd nr tl nm cn) (hK : Cach I sp pl ns d cs nr) (pu2 : Nat → Int32) (u : ∀ q i, ¬ (44 ≤ q ∧ q < 54 ∧ i = 2) ∧ q ≠ 112 ∧ ¬ (q = 0 ∧ 7 ≤ i ∧ i ≤ 9) ∧ ¬ (q = 101 ∧ (i = 29 ∨ i = 30)) → J q i = I q i) (f1 : ∀ k, k < d.1 → J (sp k) 2 = pu2 k ∧ J 112 k = pu2 k ∧ 0 ≤ (pu2 k).toInt ∧ (pu2 k).toInt ≤ 30) (z1 : J 0 7 = 0) (z2 : J 0 8 = 0) (z3 : J 0 9 = 0) (z4 : J 101 29 = 0) (z5 : J 101 30 = 0) : Inv J sp pl := by
  have hW := hC.1
  have hMo := hC.2.1
  have h8 := hW.2.1.2
  have hs4 := hW.1.2
  have h10 := hW.2.2.2.2.2.2.1.2
  have hsp := hW.2.2.2.2.2.2.2.1
  have hstr := hW.2.2.1.2
  refine ⟨ns, nstr, nc, (d.1, d.2.1, d.2.2.1, pu2, d.2.2.2.2), cs, fr, to, sc, kd, nr, tl, nm, cn, ?_, ?_⟩
  · exact ⟨(by
      obtain ⟨w1, w2, w3, w4, w5, w6, w7, w8, w9, w10, w11, w12⟩ := hW
      exact ⟨by rw [u 1 4 (by omega)]; exact w1,
        by rw [u 2 0 (by omega)]; exact w2,
        by rw [u 2 1 (by omega)]; exact w3,
        fun x hx => by rw [u 3 x (by omega), u 4 x (by omega)]; exact w4 x hx,
        fun x hx => by rw [u 5 x (by omega)]; exact w5 x hx,
        by rw [show J 5 = I 5 from funext fun i => u 5 i (by omega), show J 6 = I 6 from funext fun i => u 6 i (by omega)]; exact w6,
        by rw [u 1 5 (by omega)]; exact w7,
        w8,
        fun x hx => by have h44 := w8 x (by have : x < d.1 := hx; omega); have hx2 : x < d.1 := hx; rw [u (sp x) 1 (by omega)]; exact ⟨(w9 x hx2).1, (w9 x hx2).2.1, (f1 x hx2).1, (f1 x hx2).2.2⟩,
        by rw [u 1 6 (by omega)]; exact w10,
        fun x hx => by rw [u (28 + 4 * x) 0 (by omega), u (28 + 4 * x) 1 (by omega), u 1 7 (by omega)]; exact w11 x hx,
        fun hm a c ha hc => by rw [u 2 8 (by omega)] at hm; rw [u _ _ (by omega)]; exact w12 hm a c ha hc⟩),
      ⟨((u 101 0 (by omega)).trans hMo.1), ((u 101 1 (by omega)).trans hMo.2.1), ((u 101 2 (by omega)).trans hMo.2.2.1), ((u 101 3 (by omega)).trans hMo.2.2.2.1), ((u 101 4 (by omega)).trans hMo.2.2.2.2.1), ((u 101 5 (by omega)).trans hMo.2.2.2.2.2.1), (by rw [u 101 6 (by omega), u 0 10 (by omega)]; exact hMo.2.2.2.2.2.2.1), ((u 101 7 (by omega)).trans hMo.2.2.2.2.2.2.2.1), (by rw [u 101 8 (by omega), u 1 7 (by omega)]; exact hMo.2.2.2.2.2.2.2.2.1), (by rw [u 101 9 (by omega), u 1 8 (by omega)]; exact hMo.2.2.2.2.2.2.2.2.2)⟩,
      (by rw [u 75 0 (by omega), u 75 1 (by omega)]; exact hC.2.2.1),
      (by rw [(show J (102) = I (102) from funext fun i => u (102) i (by omega)), (show J (103) = I (103) from funext fun i => u (103) i (by omega)), (show J (104) = I (104) from funext fun i => u (104) i (by omega)), (show J (105) = I (105) from funext fun i => u (105) i (by omega)), (show J (5) = I (5) from funext fun i => u (5) i (by omega)), (show J (6) = I (6) from funext fun i => u (6) i (by omega))]; exact hC.2.2.2.1),
      (fun s hs => by rw [u 106 s (by omega), u 107 s (by omega), u 108 s (by omega), u 109 s (by omega), u 26 s (by omega), u (28 + 4 * s) 0 (by omega), u (28 + 4 * s) 1 (by omega), u (28 + 4 * s) 2 (by omega)]; exact hC.2.2.2.2.1 s hs),
      (fun s hs => by rw [u 26 s (by omega), u (28 + 4 * s) 0 (by omega), u (28 + 4 * s) 2 (by omega)]; exact hC.2.2.2.2.2.1 s hs),
      (fun x hx => by have hx2 : x < d.1 := hx; have hspx := hsp x (by omega); have := hC.2.2.2.2.2.2.1 x hx2; rw [u 110 x (by omega), u 111 x (by omega), u 113 x (by omega), u (sp x) 0 (by omega), u (sp x) 1 (by omega), u (sp x) 3 (by omega), (f1 x hx2).1, (f1 x hx2).2.1]; exact ⟨this.1, this.2.1, this.2.2.1, this.2.2.2.1, rfl, this.2.2.2.2.2⟩),
      hC.2.2.2.2.2.2.2.1,
      (by rw [(show J (114) = I (114) from funext fun i => u (114) i (by omega)), (show J (115) = I (115) from funext fun i => u (115) i (by omega)), (show J (116) = I (116) from funext fun i => u (116) i (by omega)), (show J (117) = I (117) from funext fun i => u (117) i (by omega)), (show J (76) = I (76) from funext fun i => u (76) i (by omega)), (show J (77) = I (77) from funext fun i => u (77) i (by omega)), (show J (78) = I (78) from funext fun i => u (78) i (by omega)), (show J (79) = I (79) from funext fun i => u (79) i (by omega))]; exact hC.2.2.2.2.2.2.2.2.1),
      (fun j hj => by obtain ⟨p1, p2, p3, p4, p5⟩ := hC.2.2.2.2.2.2.2.2.2.1 j hj; exact ⟨p1, (u _ _ (by omega)).trans p2, by rw [u 118 j (by omega), u (93 + 2 * j) 0 (by omega)]; exact p3, (u _ _ (by omega)).trans p4, fun i hi => by rw [u 120 _ (by omega), u (94 + 2 * j) i (by omega)]; exact p5 i hi⟩),
      (by obtain ⟨p1, p2, p3, p4⟩ := hC.2.2.2.2.2.2.2.2.2.2.1; exact ⟨(u _ _ (by omega)).trans p1, p2, (u _ _ (by omega)).trans p3, fun r hr => by rw [u 144 r (by omega), u 91 r (by omega)]; exact p4 r hr⟩),
      (by rw [u 1 8 (by omega)]; exact hC.2.2.2.2.2.2.2.2.2.2.2.1),
      (by rw [u 1 7 (by omega)]; exact hC.2.2.2.2.2.2.2.2.2.2.2.2)⟩
  · exact Cach_0 z1 z2 z3 z4 z5

theorem half_b {b : Int32} (h : 0 ≤ b.toInt ∧ b.toInt ≤ 90) : (b / 2).toInt ≤ 90 := by
  obtain ⟨k, hk, rfl⟩ := nI_of (x := b) (by rw [Int32.lt_iff_toInt_lt, i32_0]; omega)
  have key : ∀ k, k < 91 → (nI k / 2).toInt ≤ 90 := by decide +kernel
  refine key k ?_
  have h2 : nI k ≤ nI 90 := by rw [Int32.le_iff_toInt_le]; exact h.2
  have := (nI_leI hk (by decide)).mp h2
  omega
theorem Inv_terms (hC : Core I sp ns nstr nc d cs fr to sc kd nr tl nm cn) (hK : Cach I sp pl ns d cs nr) (a b c : Int32) (hb : 0 ≤ b.toInt ∧ b.toInt ≤ 90) (hc : 0 ≤ c.toInt ∧ c.toInt ≤ 30) (u : ∀ q i, ¬ (q = 1 ∧ 6 ≤ i ∧ i ≤ 8) ∧ ¬ (q = 101 ∧ 7 ≤ i ∧ i ≤ 9) ∧ ¬ (q = 0 ∧ 7 ≤ i ∧ i ≤ 9) ∧ ¬ (q = 101 ∧ (i = 29 ∨ i = 30)) → J q i = I q i) (f1 : J 1 6 = a) (f2 : J 1 7 = b) (f3 : J 1 8 = c) (f4 : J 101 7 = a) (f5 : J 101 8 = b) (f6 : J 101 9 = c) (z1 : J 0 7 = 0) (z2 : J 0 8 = 0) (z3 : J 0 9 = 0) (z4 : J 101 29 = 0) (z5 : J 101 30 = 0) : Inv J sp pl := by
  have hW := hC.1
  have hMo := hC.2.1
  have h8 := hW.2.1.2
  have hs4 := hW.1.2
  have h10 := hW.2.2.2.2.2.2.1.2
  have hsp := hW.2.2.2.2.2.2.2.1
  have hstr := hW.2.2.1.2
  refine ⟨ns, nstr, nc, (d.1, d.2.1, d.2.2.1, d.2.2.2.1, a), (fun s => ((cs s).1, if I (28 + 4 * s) 0 = 3 then b / 2 else b)), fr, to, sc, kd, nr, tl, nm, cn, ?_, ?_⟩
  · exact ⟨(by
      obtain ⟨w1, w2, w3, w4, w5, w6, w7, w8, w9, w10, w11, w12⟩ := hW
      exact ⟨by rw [u 1 4 (by omega)]; exact w1,
        by rw [u 2 0 (by omega)]; exact w2,
        by rw [u 2 1 (by omega)]; exact w3,
        fun x hx => by rw [u 3 x (by omega), u 4 x (by omega)]; exact w4 x hx,
        fun x hx => by rw [u 5 x (by omega)]; exact w5 x hx,
        by rw [show J 5 = I 5 from funext fun i => u 5 i (by omega), show J 6 = I 6 from funext fun i => u 6 i (by omega)]; exact w6,
        by rw [u 1 5 (by omega)]; exact w7,
        w8,
        fun x hx => by have := w8 x (by omega); rw [u (sp x) 1 (by omega), u (sp x) 2 (by omega)]; exact w9 x hx,
        f1,
        fun x hx => by rw [u (28 + 4 * x) 0 (by omega), u (28 + 4 * x) 1 (by omega), f2]; exact ⟨(w11 x hx).1, (w11 x hx).2.1, rfl, by show (if I (28 + 4 * x) 0 = 3 then b / 2 else b).toInt ≤ 90; split; exact half_b hb; exact hb.2⟩,
        fun hm a c ha hc => by rw [u 2 8 (by omega)] at hm; rw [u _ _ (by omega)]; exact w12 hm a c ha hc⟩),
      ⟨((u 101 0 (by omega)).trans hMo.1), ((u 101 1 (by omega)).trans hMo.2.1), ((u 101 2 (by omega)).trans hMo.2.2.1), ((u 101 3 (by omega)).trans hMo.2.2.2.1), ((u 101 4 (by omega)).trans hMo.2.2.2.2.1), ((u 101 5 (by omega)).trans hMo.2.2.2.2.2.1), (by rw [u 101 6 (by omega), u 0 10 (by omega)]; exact hMo.2.2.2.2.2.2.1), f4, (f5.trans f2.symm), (f6.trans f3.symm)⟩,
      (by rw [u 75 0 (by omega), u 75 1 (by omega)]; exact hC.2.2.1),
      (by rw [(show J (102) = I (102) from funext fun i => u (102) i (by omega)), (show J (103) = I (103) from funext fun i => u (103) i (by omega)), (show J (104) = I (104) from funext fun i => u (104) i (by omega)), (show J (105) = I (105) from funext fun i => u (105) i (by omega)), (show J (5) = I (5) from funext fun i => u (5) i (by omega)), (show J (6) = I (6) from funext fun i => u (6) i (by omega))]; exact hC.2.2.2.1),
      (fun s hs => by rw [u 106 s (by omega), u 107 s (by omega), u 108 s (by omega), u 109 s (by omega), u 26 s (by omega), u (28 + 4 * s) 0 (by omega), u (28 + 4 * s) 1 (by omega), u (28 + 4 * s) 2 (by omega)]; exact hC.2.2.2.2.1 s hs),
      (fun s hs => by rw [u 26 s (by omega), u (28 + 4 * s) 0 (by omega), u (28 + 4 * s) 2 (by omega)]; exact hC.2.2.2.2.2.1 s hs),
      (fun x hx => by have hspx := hsp x (by omega); rw [u 110 x (by omega), u 111 x (by omega), u 112 x (by omega), u 113 x (by omega), u (sp x) 0 (by omega), u (sp x) 1 (by omega), u (sp x) 2 (by omega), u (sp x) 3 (by omega)]; exact hC.2.2.2.2.2.2.1 x hx),
      hC.2.2.2.2.2.2.2.1,
      (by rw [(show J (114) = I (114) from funext fun i => u (114) i (by omega)), (show J (115) = I (115) from funext fun i => u (115) i (by omega)), (show J (116) = I (116) from funext fun i => u (116) i (by omega)), (show J (117) = I (117) from funext fun i => u (117) i (by omega)), (show J (76) = I (76) from funext fun i => u (76) i (by omega)), (show J (77) = I (77) from funext fun i => u (77) i (by omega)), (show J (78) = I (78) from funext fun i => u (78) i (by omega)), (show J (79) = I (79) from funext fun i => u (79) i (by omega))]; exact hC.2.2.2.2.2.2.2.2.1),
      (fun j hj => by obtain ⟨p1, p2, p3, p4, p5⟩ := hC.2.2.2.2.2.2.2.2.2.1 j hj; exact ⟨p1, (u _ _ (by omega)).trans p2, by rw [u 118 j (by omega), u (93 + 2 * j) 0 (by omega)]; exact p3, (u _ _ (by omega)).trans p4, fun i hi => by rw [u 120 _ (by omega), u (94 + 2 * j) i (by omega)]; exact p5 i hi⟩),
      (by obtain ⟨p1, p2, p3, p4⟩ := hC.2.2.2.2.2.2.2.2.2.2.1; exact ⟨(u _ _ (by omega)).trans p1, p2, (u _ _ (by omega)).trans p3, fun r hr => by rw [u 144 r (by omega), u 91 r (by omega)]; exact p4 r hr⟩),
      (by rw [f3]; exact hc),
      (by rw [f2]; exact hb)⟩
  · exact Cach_0 z1 z2 z3 z4 z5

theorem Inv_street (hC : Core I sp ns nstr nc d cs fr to sc kd nr tl nm cn) (hK : Cach I sp pl ns d cs nr) (x y : Nat) (hx : x < nc) (hy : y < nc) (hxy : x ≠ y) (c : Int32) (hc : 1 ≤ c.toInt ∧ c.toInt ≤ 20) (hn : nstr < 14) (u : ∀ q i, ¬ (3 ≤ q ∧ q ≤ 6 ∧ i = nstr) ∧ ¬ (102 ≤ q ∧ q ≤ 105 ∧ i = nstr) ∧ ¬ (q = 2 ∧ (i = 1 ∨ i = 8)) ∧ ¬ (q = 101 ∧ i = 1) ∧ ¬ (q = 0 ∧ 7 ≤ i ∧ i ≤ 9) ∧ ¬ (q = 101 ∧ (i = 29 ∨ i = 30)) → J q i = I q i) (f1 : J 3 nstr = nI x ∧ J 4 nstr = nI y ∧ J 5 nstr = c ∧ J 6 nstr = 0) (f2 : J 102 nstr = nI x ∧ J 103 nstr = nI y ∧ J 104 nstr = c ∧ J 105 nstr = 0) (f3 : J 2 1 = nI (nstr + 1)) (f4 : J 101 1 = nI (nstr + 1)) (f5 : J 2 8 = 0) (z1 : J 0 7 = 0) (z2 : J 0 8 = 0) (z3 : J 0 9 = 0) (z4 : J 101 29 = 0) (z5 : J 101 30 = 0) : Inv J sp pl := by
  have hW := hC.1
  have hMo := hC.2.1
  have h8 := hW.2.1.2
  have hs4 := hW.1.2
  have h10 := hW.2.2.2.2.2.2.1.2
  have hsp := hW.2.2.2.2.2.2.2.1
  have hstr := hW.2.2.1.2
  refine ⟨ns, nstr + 1, nc, (d.1, d.2.1, dTab (fup fr nstr x) (fup to nstr y) (J 5) (J 6) 0 (nstr + 1), d.2.2.2.1, d.2.2.2.2), cs, fup fr nstr x, fup to nstr y, sc, kd, nr, tl, nm, cn, ?_, ?_⟩
  · exact ⟨(by
      obtain ⟨w1, w2, w3, w4, w5, w6, w7, w8, w9, w10, w11, w12⟩ := hW
      exact ⟨by rw [u 1 4 (by omega)]; exact w1,
        by rw [u 2 0 (by omega)]; exact w2,
        ⟨f3, by omega⟩,
        fun s hs => by
          by_cases e : s = nstr
          · rw [e, fup_eq, fup_eq]; exact ⟨hx, hy, f1.1, f1.2.1⟩
          · rw [fup_ne e, fup_ne e, u 3 s (by omega), u 4 s (by omega)]; exact w4 s (by omega),
        fun s hs => by
          by_cases e : s = nstr
          · rw [e, fup_eq, fup_eq, f1.2.2.1, Int32.add_zero]; exact ⟨hxy, by omega, hx, hy⟩
          · rw [fup_ne e, fup_ne e, u 5 s (by omega)]; exact w5 s (by omega),
        rfl,
        by rw [u 1 5 (by omega)]; exact w7,
        w8,
        fun x hx => by have := w8 x (by omega); rw [u (sp x) 1 (by omega), u (sp x) 2 (by omega)]; exact w9 x hx,
        by rw [u 1 6 (by omega)]; exact w10,
        fun x hx => by rw [u (28 + 4 * x) 0 (by omega), u (28 + 4 * x) 1 (by omega), u 1 7 (by omega)]; exact w11 x hx,
        fun hm => absurd f5 hm⟩),
      ⟨((u 101 0 (by omega)).trans hMo.1), f4, ((u 101 2 (by omega)).trans hMo.2.2.1), ((u 101 3 (by omega)).trans hMo.2.2.2.1), ((u 101 4 (by omega)).trans hMo.2.2.2.2.1), ((u 101 5 (by omega)).trans hMo.2.2.2.2.2.1), (by rw [u 101 6 (by omega), u 0 10 (by omega)]; exact hMo.2.2.2.2.2.2.1), ((u 101 7 (by omega)).trans hMo.2.2.2.2.2.2.2.1), (by rw [u 101 8 (by omega), u 1 7 (by omega)]; exact hMo.2.2.2.2.2.2.2.2.1), (by rw [u 101 9 (by omega), u 1 8 (by omega)]; exact hMo.2.2.2.2.2.2.2.2.2)⟩,
      (by rw [u 75 0 (by omega), u 75 1 (by omega)]; exact hC.2.2.1),
      ⟨fun s hs => by
          by_cases e : s = nstr
          · rw [e, fup_eq, fup_eq]; exact ⟨f2.1, f2.2.1⟩
          · rw [fup_ne e, fup_ne e, u 102 s (by omega), u 103 s (by omega)]; exact hC.2.2.2.1.1 s (by omega), funext fun s => by
          by_cases e : s = nstr
          · rw [e, f2.2.2.1, f1.2.2.1]
          · rw [u 104 s (by omega), u 5 s (by omega)]; exact congrFun hC.2.2.2.1.2.1 s, funext fun s => by
          by_cases e : s = nstr
          · rw [e, f2.2.2.2, f1.2.2.2]
          · rw [u 105 s (by omega), u 6 s (by omega)]; exact congrFun hC.2.2.2.1.2.2.1 s, fun s hs => by
          by_cases e : s = nstr
          · rw [e, f1.2.2.1, f1.2.2.2]; exact ⟨by omega, hc.2, Or.inl rfl⟩
          · rw [u 5 s (by omega), u 6 s (by omega)]; exact hC.2.2.2.1.2.2.2 s (by omega)⟩,
      (fun s hs => by rw [u 106 s (by omega), u 107 s (by omega), u 108 s (by omega), u 109 s (by omega), u 26 s (by omega), u (28 + 4 * s) 0 (by omega), u (28 + 4 * s) 1 (by omega), u (28 + 4 * s) 2 (by omega)]; exact hC.2.2.2.2.1 s hs),
      (fun s hs => by rw [u 26 s (by omega), u (28 + 4 * s) 0 (by omega), u (28 + 4 * s) 2 (by omega)]; exact hC.2.2.2.2.2.1 s hs),
      (fun x hx => by have hspx := hsp x (by omega); rw [u 110 x (by omega), u 111 x (by omega), u 112 x (by omega), u 113 x (by omega), u (sp x) 0 (by omega), u (sp x) 1 (by omega), u (sp x) 2 (by omega), u (sp x) 3 (by omega)]; exact hC.2.2.2.2.2.2.1 x hx),
      hC.2.2.2.2.2.2.2.1,
      (by rw [(show J (114) = I (114) from funext fun i => u (114) i (by omega)), (show J (115) = I (115) from funext fun i => u (115) i (by omega)), (show J (116) = I (116) from funext fun i => u (116) i (by omega)), (show J (117) = I (117) from funext fun i => u (117) i (by omega)), (show J (76) = I (76) from funext fun i => u (76) i (by omega)), (show J (77) = I (77) from funext fun i => u (77) i (by omega)), (show J (78) = I (78) from funext fun i => u (78) i (by omega)), (show J (79) = I (79) from funext fun i => u (79) i (by omega))]; exact hC.2.2.2.2.2.2.2.2.1),
      (fun j hj => by obtain ⟨p1, p2, p3, p4, p5⟩ := hC.2.2.2.2.2.2.2.2.2.1 j hj; exact ⟨p1, (u _ _ (by omega)).trans p2, by rw [u 118 j (by omega), u (93 + 2 * j) 0 (by omega)]; exact p3, (u _ _ (by omega)).trans p4, fun i hi => by rw [u 120 _ (by omega), u (94 + 2 * j) i (by omega)]; exact p5 i hi⟩),
      (by obtain ⟨p1, p2, p3, p4⟩ := hC.2.2.2.2.2.2.2.2.2.2.1; exact ⟨(u _ _ (by omega)).trans p1, p2, (u _ _ (by omega)).trans p3, fun r hr => by rw [u 144 r (by omega), u 91 r (by omega)]; exact p4 r hr⟩),
      (by rw [u 1 8 (by omega)]; exact hC.2.2.2.2.2.2.2.2.2.2.2.1),
      (by rw [u 1 7 (by omega)]; exact hC.2.2.2.2.2.2.2.2.2.2.2.2)⟩
  · exact Cach_0 z1 z2 z3 z4 z5

theorem Inv_shut (hC : Core I sp ns nstr nc d cs fr to sc kd nr tl nm cn) (hK : Cach I sp pl ns d cs nr) (st : Nat) (hst : st < nstr) (b : Int32) (hb : b = 0 ∨ b = 1) (u : ∀ q i, ¬ (q = 6 ∧ i = st) ∧ ¬ (q = 105 ∧ i = st) ∧ ¬ (q = 2 ∧ i = 8) ∧ ¬ (q = 0 ∧ 7 ≤ i ∧ i ≤ 9) ∧ ¬ (q = 101 ∧ (i = 29 ∨ i = 30)) → J q i = I q i) (f1 : J 6 st = b) (f2 : J 105 st = b) (f5 : J 2 8 = 0) (z1 : J 0 7 = 0) (z2 : J 0 8 = 0) (z3 : J 0 9 = 0) (z4 : J 101 29 = 0) (z5 : J 101 30 = 0) : Inv J sp pl := by
  have hW := hC.1
  have hMo := hC.2.1
  have h8 := hW.2.1.2
  have hs4 := hW.1.2
  have h10 := hW.2.2.2.2.2.2.1.2
  have hsp := hW.2.2.2.2.2.2.2.1
  have hstr := hW.2.2.1.2
  refine ⟨ns, nstr, nc, (d.1, d.2.1, dTab fr to (J 5) (J 6) 0 nstr, d.2.2.2.1, d.2.2.2.2), cs, fr, to, sc, kd, nr, tl, nm, cn, ?_, ?_⟩
  · exact ⟨(by
      obtain ⟨w1, w2, w3, w4, w5, w6, w7, w8, w9, w10, w11, w12⟩ := hW
      exact ⟨by rw [u 1 4 (by omega)]; exact w1,
        by rw [u 2 0 (by omega)]; exact w2,
        by rw [u 2 1 (by omega)]; exact w3,
        fun x hx => by rw [u 3 x (by omega), u 4 x (by omega)]; exact w4 x hx,
        fun x hx => by rw [u 5 x (by omega)]; exact w5 x hx,
        rfl,
        by rw [u 1 5 (by omega)]; exact w7,
        w8,
        fun x hx => by have := w8 x (by omega); rw [u (sp x) 1 (by omega), u (sp x) 2 (by omega)]; exact w9 x hx,
        by rw [u 1 6 (by omega)]; exact w10,
        fun x hx => by rw [u (28 + 4 * x) 0 (by omega), u (28 + 4 * x) 1 (by omega), u 1 7 (by omega)]; exact w11 x hx,
        fun hm => absurd f5 hm⟩),
      ⟨((u 101 0 (by omega)).trans hMo.1), ((u 101 1 (by omega)).trans hMo.2.1), ((u 101 2 (by omega)).trans hMo.2.2.1), ((u 101 3 (by omega)).trans hMo.2.2.2.1), ((u 101 4 (by omega)).trans hMo.2.2.2.2.1), ((u 101 5 (by omega)).trans hMo.2.2.2.2.2.1), (by rw [u 101 6 (by omega), u 0 10 (by omega)]; exact hMo.2.2.2.2.2.2.1), ((u 101 7 (by omega)).trans hMo.2.2.2.2.2.2.2.1), (by rw [u 101 8 (by omega), u 1 7 (by omega)]; exact hMo.2.2.2.2.2.2.2.2.1), (by rw [u 101 9 (by omega), u 1 8 (by omega)]; exact hMo.2.2.2.2.2.2.2.2.2)⟩,
      (by rw [u 75 0 (by omega), u 75 1 (by omega)]; exact hC.2.2.1),
      (by
        rw [(show J (102) = I (102) from funext fun i => u (102) i (by omega)), (show J (103) = I (103) from funext fun i => u (103) i (by omega)), (show J (104) = I (104) from funext fun i => u (104) i (by omega)), (show J (5) = I (5) from funext fun i => u (5) i (by omega))]
        refine ⟨hC.2.2.2.1.1, hC.2.2.2.1.2.1, funext fun s => ?_, fun s hs => ⟨(hC.2.2.2.1.2.2.2 s hs).1, (hC.2.2.2.1.2.2.2 s hs).2.1, ?_⟩⟩
        · by_cases e : s = st
          · rw [e, f1, f2]
          · rw [u 105 s (by omega), u 6 s (by omega)]; exact congrFun hC.2.2.2.1.2.2.1 s
        · by_cases e : s = st
          · rw [e, f1]; exact hb
          · rw [u 6 s (by omega)]; exact (hC.2.2.2.1.2.2.2 s hs).2.2),
      (fun s hs => by rw [u 106 s (by omega), u 107 s (by omega), u 108 s (by omega), u 109 s (by omega), u 26 s (by omega), u (28 + 4 * s) 0 (by omega), u (28 + 4 * s) 1 (by omega), u (28 + 4 * s) 2 (by omega)]; exact hC.2.2.2.2.1 s hs),
      (fun s hs => by rw [u 26 s (by omega), u (28 + 4 * s) 0 (by omega), u (28 + 4 * s) 2 (by omega)]; exact hC.2.2.2.2.2.1 s hs),
      (fun x hx => by have hspx := hsp x (by omega); rw [u 110 x (by omega), u 111 x (by omega), u 112 x (by omega), u 113 x (by omega), u (sp x) 0 (by omega), u (sp x) 1 (by omega), u (sp x) 2 (by omega), u (sp x) 3 (by omega)]; exact hC.2.2.2.2.2.2.1 x hx),
      hC.2.2.2.2.2.2.2.1,
      (by rw [(show J (114) = I (114) from funext fun i => u (114) i (by omega)), (show J (115) = I (115) from funext fun i => u (115) i (by omega)), (show J (116) = I (116) from funext fun i => u (116) i (by omega)), (show J (117) = I (117) from funext fun i => u (117) i (by omega)), (show J (76) = I (76) from funext fun i => u (76) i (by omega)), (show J (77) = I (77) from funext fun i => u (77) i (by omega)), (show J (78) = I (78) from funext fun i => u (78) i (by omega)), (show J (79) = I (79) from funext fun i => u (79) i (by omega))]; exact hC.2.2.2.2.2.2.2.2.1),
      (fun j hj => by obtain ⟨p1, p2, p3, p4, p5⟩ := hC.2.2.2.2.2.2.2.2.2.1 j hj; exact ⟨p1, (u _ _ (by omega)).trans p2, by rw [u 118 j (by omega), u (93 + 2 * j) 0 (by omega)]; exact p3, (u _ _ (by omega)).trans p4, fun i hi => by rw [u 120 _ (by omega), u (94 + 2 * j) i (by omega)]; exact p5 i hi⟩),
      (by obtain ⟨p1, p2, p3, p4⟩ := hC.2.2.2.2.2.2.2.2.2.2.1; exact ⟨(u _ _ (by omega)).trans p1, p2, (u _ _ (by omega)).trans p3, fun r hr => by rw [u 144 r (by omega), u 91 r (by omega)]; exact p4 r hr⟩),
      (by rw [u 1 8 (by omega)]; exact hC.2.2.2.2.2.2.2.2.2.2.2.1),
      (by rw [u 1 7 (by omega)]; exact hC.2.2.2.2.2.2.2.2.2.2.2.2)⟩
  · exact Cach_0 z1 z2 z3 z4 z5

theorem Inv_school (hC : Core I sp ns nstr nc d cs fr to sc kd nr tl nm cn) (hK : Cach I sp pl ns d cs nr) (k x : Nat) (hk : k < 4) (hx : x < nc) (hn : ns < 4) (u : ∀ q i, ¬ (q = 28 + 4 * ns ∧ i < 3) ∧ ¬ (q = 26 ∧ i = ns) ∧ ¬ (106 ≤ q ∧ q ≤ 109 ∧ i = ns) ∧ ¬ (q = 1 ∧ i = 4) ∧ ¬ (q = 101 ∧ i = 2) ∧ ¬ (q = 0 ∧ 7 ≤ i ∧ i ≤ 9) ∧ ¬ (q = 101 ∧ (i = 29 ∨ i = 30)) → J q i = I q i) (f1 : J (28 + 4 * ns) 0 = nI k ∧ J (28 + 4 * ns) 1 = nI x ∧ J (28 + 4 * ns) 2 = 3 ∧ J 26 ns = 0) (f2 : J 106 ns = nI k ∧ J 107 ns = nI x ∧ J 108 ns = 0 ∧ J 109 ns = 3) (f3 : J 1 4 = nI (ns + 1)) (f4 : J 101 2 = nI (ns + 1)) (z1 : J 0 7 = 0) (z2 : J 0 8 = 0) (z3 : J 0 9 = 0) (z4 : J 101 29 = 0) (z5 : J 101 30 = 0) : Inv J sp pl := by
  have hW := hC.1
  have hMo := hC.2.1
  have h8 := hW.2.1.2
  have hs4 := hW.1.2
  have h10 := hW.2.2.2.2.2.2.1.2
  have hsp := hW.2.2.2.2.2.2.2.1
  have hstr := hW.2.2.1.2
  refine ⟨ns + 1, nstr, nc, d, fup cs ns (x, if nI k = 3 then I 1 7 / 2 else I 1 7), fr, to, sc, fup kd ns k, nr, tl, nm, cn, ?_, ?_⟩
  · exact ⟨(by
      obtain ⟨w1, w2, w3, w4, w5, w6, w7, w8, w9, w10, w11, w12⟩ := hW
      exact ⟨⟨f3, by omega⟩,
        by rw [u 2 0 (by omega)]; exact w2,
        by rw [u 2 1 (by omega)]; exact w3,
        fun x hx => by rw [u 3 x (by omega), u 4 x (by omega)]; exact w4 x hx,
        fun x hx => by rw [u 5 x (by omega)]; exact w5 x hx,
        by rw [show J 5 = I 5 from funext fun i => u 5 i (by omega), show J 6 = I 6 from funext fun i => u 6 i (by omega)]; exact w6,
        by rw [u 1 5 (by omega)]; exact w7,
        w8,
        fun x hx => by have := w8 x (by omega); rw [u (sp x) 1 (by omega), u (sp x) 2 (by omega)]; exact w9 x hx,
        by rw [u 1 6 (by omega)]; exact w10,
        fun s hs => by
          by_cases e : s = ns
          · rw [e, fup_eq, f1.1, f1.2.1, u 1 7 (by omega)]
            have hP := hC.2.2.2.2.2.2.2.2.2.2.2.2
            exact ⟨hx, rfl, rfl, by show (if nI k = 3 then I 1 7 / 2 else I 1 7).toInt ≤ 90; split; exact half_b hP; exact hP.2⟩
          · rw [fup_ne e, u (28 + 4 * s) 0 (by omega), u (28 + 4 * s) 1 (by omega), u 1 7 (by omega)]; exact w11 s (by omega),
        fun hm a c ha hc => by rw [u 2 8 (by omega)] at hm; rw [u _ _ (by omega)]; exact w12 hm a c ha hc⟩),
      ⟨((u 101 0 (by omega)).trans hMo.1), ((u 101 1 (by omega)).trans hMo.2.1), f4, ((u 101 3 (by omega)).trans hMo.2.2.2.1), ((u 101 4 (by omega)).trans hMo.2.2.2.2.1), ((u 101 5 (by omega)).trans hMo.2.2.2.2.2.1), (by rw [u 101 6 (by omega), u 0 10 (by omega)]; exact hMo.2.2.2.2.2.2.1), ((u 101 7 (by omega)).trans hMo.2.2.2.2.2.2.2.1), (by rw [u 101 8 (by omega), u 1 7 (by omega)]; exact hMo.2.2.2.2.2.2.2.2.1), (by rw [u 101 9 (by omega), u 1 8 (by omega)]; exact hMo.2.2.2.2.2.2.2.2.2)⟩,
      (by rw [u 75 0 (by omega), u 75 1 (by omega)]; exact hC.2.2.1),
      (by rw [(show J (102) = I (102) from funext fun i => u (102) i (by omega)), (show J (103) = I (103) from funext fun i => u (103) i (by omega)), (show J (104) = I (104) from funext fun i => u (104) i (by omega)), (show J (105) = I (105) from funext fun i => u (105) i (by omega)), (show J (5) = I (5) from funext fun i => u (5) i (by omega)), (show J (6) = I (6) from funext fun i => u (6) i (by omega))]; exact hC.2.2.2.1),
      (fun s hs => by
        by_cases e : s = ns
        · rw [e, f1.1, f1.2.1, f1.2.2.1, f1.2.2.2, f2.1, f2.2.1, f2.2.2.1, f2.2.2.2]; exact ⟨rfl, rfl, rfl, rfl⟩
        · rw [u 106 s (by omega), u 107 s (by omega), u 108 s (by omega), u 109 s (by omega), u 26 s (by omega), u (28 + 4 * s) 0 (by omega), u (28 + 4 * s) 1 (by omega), u (28 + 4 * s) 2 (by omega)]; exact hC.2.2.2.2.1 s hs),
      (fun s hs => by
        by_cases e : s = ns
        · rw [e, fup_eq, f1.1, f1.2.2.1, f1.2.2.2]; exact ⟨hk, rfl, by decide, by decide⟩
        · rw [fup_ne e, u 26 s (by omega), u (28 + 4 * s) 0 (by omega), u (28 + 4 * s) 2 (by omega)]; exact hC.2.2.2.2.2.1 s (by omega)),
      (fun x hx => by have hspx := hsp x (by omega); rw [u 110 x (by omega), u 111 x (by omega), u 112 x (by omega), u 113 x (by omega), u (sp x) 0 (by omega), u (sp x) 1 (by omega), u (sp x) 2 (by omega), u (sp x) 3 (by omega)]; have := hC.2.2.2.2.2.2.1 x hx; exact ⟨by omega, this.2⟩),
      hC.2.2.2.2.2.2.2.1,
      (by rw [(show J (114) = I (114) from funext fun i => u (114) i (by omega)), (show J (115) = I (115) from funext fun i => u (115) i (by omega)), (show J (116) = I (116) from funext fun i => u (116) i (by omega)), (show J (117) = I (117) from funext fun i => u (117) i (by omega)), (show J (76) = I (76) from funext fun i => u (76) i (by omega)), (show J (77) = I (77) from funext fun i => u (77) i (by omega)), (show J (78) = I (78) from funext fun i => u (78) i (by omega)), (show J (79) = I (79) from funext fun i => u (79) i (by omega))]; exact hC.2.2.2.2.2.2.2.2.1),
      (fun j hj => by obtain ⟨p1, p2, p3, p4, p5⟩ := hC.2.2.2.2.2.2.2.2.2.1 j hj; exact ⟨p1, (u _ _ (by omega)).trans p2, by rw [u 118 j (by omega), u (93 + 2 * j) 0 (by omega)]; exact p3, (u _ _ (by omega)).trans p4, fun i hi => by rw [u 120 _ (by omega), u (94 + 2 * j) i (by omega)]; exact p5 i hi⟩),
      (by obtain ⟨p1, p2, p3, p4⟩ := hC.2.2.2.2.2.2.2.2.2.2.1; exact ⟨(u _ _ (by omega)).trans p1, p2, (u _ _ (by omega)).trans p3, fun r hr => by rw [u 144 r (by omega), u 91 r (by omega)]; exact p4 r hr⟩),
      (by rw [u 1 8 (by omega)]; exact hC.2.2.2.2.2.2.2.2.2.2.2.1),
      (by rw [u 1 7 (by omega)]; exact hC.2.2.2.2.2.2.2.2.2.2.2.2)⟩
  · exact Cach_0 z1 z2 z3 z4 z5

theorem Inv_stop (hC : Core I sp ns nstr nc d cs fr to sc kd nr tl nm cn) (hK : Cach I sp pl ns d cs nr) (s x : Nat) (hs : s < ns) (hx : x < nc) (c qu : Int32) (hc : 0 ≤ c.toInt ∧ c.toInt ≤ 30) (hn : d.1 < 10) (u : ∀ q i, ¬ (q = sp d.1) ∧ ¬ (110 ≤ q ∧ q ≤ 113 ∧ i = d.1) ∧ ¬ (q = 1 ∧ i = 5) ∧ ¬ (q = 101 ∧ i = 3) ∧ ¬ (q = 0 ∧ 7 ≤ i ∧ i ≤ 9) ∧ ¬ (q = 101 ∧ (i = 29 ∨ i = 30)) → J q i = I q i) (f1 : J (sp d.1) 0 = nI s ∧ J (sp d.1) 1 = nI x ∧ J (sp d.1) 2 = c ∧ J (sp d.1) 3 = qu) (f2 : J 110 d.1 = nI s ∧ J 111 d.1 = nI x ∧ J 112 d.1 = c ∧ J 113 d.1 = qu) (f3 : J 1 5 = nI (d.1 + 1)) (f4 : J 101 3 = nI (d.1 + 1)) (z1 : J 0 7 = 0) (z2 : J 0 8 = 0) (z3 : J 0 9 = 0) (z4 : J 101 29 = 0) (z5 : J 101 30 = 0) : Inv J sp pl := by
  have hW := hC.1
  have hMo := hC.2.1
  have h8 := hW.2.1.2
  have hs4 := hW.1.2
  have h10 := hW.2.2.2.2.2.2.1.2
  have hsp := hW.2.2.2.2.2.2.2.1
  have hstr := hW.2.2.1.2
  have hspt := hsp d.1 hn
  refine ⟨ns, nstr, nc, (d.1 + 1, fup d.2.1 d.1 x, d.2.2.1, fup d.2.2.2.1 d.1 c, d.2.2.2.2), cs, fr, to, fup sc d.1 s, kd, nr, tl, nm, cn, ?_, ?_⟩
  · exact ⟨(by
      obtain ⟨w1, w2, w3, w4, w5, w6, w7, w8, w9, w10, w11, w12⟩ := hW
      exact ⟨by rw [u 1 4 (by have := hsp d.1 hn; omega)]; exact w1,
        by rw [u 2 0 (by have := hsp d.1 hn; omega)]; exact w2,
        by rw [u 2 1 (by have := hsp d.1 hn; omega)]; exact w3,
        fun x hx => by have := hsp d.1 hn; rw [u 3 x (by omega), u 4 x (by omega)]; exact w4 x hx,
        fun x hx => by have := hsp d.1 hn; rw [u 5 x (by omega)]; exact w5 x hx,
        by have := hsp d.1 hn; rw [show J 5 = I 5 from funext fun i => u 5 i (by omega), show J 6 = I 6 from funext fun i => u 6 i (by omega)]; exact w6,
        ⟨f3, by show d.1 + 1 ≤ 10; omega⟩,
        w8,
        fun y hy => by
          have hy2 : y < d.1 + 1 := hy
          show fup d.2.1 d.1 x y < nc ∧ J (sp y) 1 = nI (fup d.2.1 d.1 x y) ∧ J (sp y) 2 = fup d.2.2.2.1 d.1 c y ∧ _ ∧ _
          show fup d.2.1 d.1 x y < nc ∧ J (sp y) 1 = nI (fup d.2.1 d.1 x y) ∧ J (sp y) 2 = fup d.2.2.2.1 d.1 c y ∧ 0 ≤ (fup d.2.2.2.1 d.1 c y).toInt ∧ (fup d.2.2.2.1 d.1 c y).toInt ≤ 30
          by_cases e : y = d.1
          · rw [e, fup_eq, fup_eq]; exact ⟨hx, f1.2.1, f1.2.2.1, hc⟩
          · have h44 := w8 y (by omega)
            have hne : sp y ≠ sp d.1 := fun w => e (hC.2.2.2.2.2.2.2.1 y d.1 (by omega) (by omega) w)
            rw [fup_ne e, fup_ne e, u (sp y) 1 (by omega), u (sp y) 2 (by omega)]; exact w9 y (by omega),
        by rw [u 1 6 (by have := hsp d.1 hn; omega)]; exact w10,
        fun x hx => by have := hsp d.1 hn; rw [u (28 + 4 * x) 0 (by omega), u (28 + 4 * x) 1 (by omega), u 1 7 (by omega)]; exact w11 x hx,
        fun hm a c ha hc => by have := hsp d.1 hn; rw [u 2 8 (by omega)] at hm; rw [u _ _ (by omega)]; exact w12 hm a c ha hc⟩),
      ⟨((u 101 0 (by omega)).trans hMo.1), ((u 101 1 (by omega)).trans hMo.2.1), ((u 101 2 (by omega)).trans hMo.2.2.1), f4, ((u 101 4 (by omega)).trans hMo.2.2.2.2.1), ((u 101 5 (by omega)).trans hMo.2.2.2.2.2.1), (by rw [u 101 6 (by omega), u 0 10 (by omega)]; exact hMo.2.2.2.2.2.2.1), ((u 101 7 (by omega)).trans hMo.2.2.2.2.2.2.2.1), (by rw [u 101 8 (by omega), u 1 7 (by omega)]; exact hMo.2.2.2.2.2.2.2.2.1), (by rw [u 101 9 (by omega), u 1 8 (by omega)]; exact hMo.2.2.2.2.2.2.2.2.2)⟩,
      (by rw [u 75 0 (by omega), u 75 1 (by omega)]; exact hC.2.2.1),
      (by rw [(show J (102) = I (102) from funext fun i => u (102) i (by omega)), (show J (103) = I (103) from funext fun i => u (103) i (by omega)), (show J (104) = I (104) from funext fun i => u (104) i (by omega)), (show J (105) = I (105) from funext fun i => u (105) i (by omega)), (show J (5) = I (5) from funext fun i => u (5) i (by omega)), (show J (6) = I (6) from funext fun i => u (6) i (by omega))]; exact hC.2.2.2.1),
      (fun s hs => by rw [u 106 s (by omega), u 107 s (by omega), u 108 s (by omega), u 109 s (by omega), u 26 s (by omega), u (28 + 4 * s) 0 (by omega), u (28 + 4 * s) 1 (by omega), u (28 + 4 * s) 2 (by omega)]; exact hC.2.2.2.2.1 s hs),
      (fun s hs => by rw [u 26 s (by omega), u (28 + 4 * s) 0 (by omega), u (28 + 4 * s) 2 (by omega)]; exact hC.2.2.2.2.2.1 s hs),
      (fun y hy => by
        have hy2 : y < d.1 + 1 := hy
        by_cases e : y = d.1
        · rw [e, fup_eq, f1.1, f1.2.1, f1.2.2.1, f1.2.2.2, f2.1, f2.2.1, f2.2.2.1, f2.2.2.2]; exact ⟨hs, rfl, rfl, rfl, rfl, rfl⟩
        · have h44 := hsp y (by omega)
          have hne : sp y ≠ sp d.1 := fun w => e (hC.2.2.2.2.2.2.2.1 y d.1 (by omega) (by omega) w)
          rw [fup_ne e, u 110 y (by omega), u 111 y (by omega), u 112 y (by omega), u 113 y (by omega), u (sp y) 0 (by omega), u (sp y) 1 (by omega), u (sp y) 2 (by omega), u (sp y) 3 (by omega)]; exact hC.2.2.2.2.2.2.1 y (by omega)),
      hC.2.2.2.2.2.2.2.1,
      (by rw [(show J (114) = I (114) from funext fun i => u (114) i (by omega)), (show J (115) = I (115) from funext fun i => u (115) i (by omega)), (show J (116) = I (116) from funext fun i => u (116) i (by omega)), (show J (117) = I (117) from funext fun i => u (117) i (by omega)), (show J (76) = I (76) from funext fun i => u (76) i (by omega)), (show J (77) = I (77) from funext fun i => u (77) i (by omega)), (show J (78) = I (78) from funext fun i => u (78) i (by omega)), (show J (79) = I (79) from funext fun i => u (79) i (by omega))]; exact hC.2.2.2.2.2.2.2.2.1),
      (fun j hj => by obtain ⟨p1, p2, p3, p4, p5⟩ := hC.2.2.2.2.2.2.2.2.2.1 j hj; exact ⟨p1, (u _ _ (by omega)).trans p2, by rw [u 118 j (by omega), u (93 + 2 * j) 0 (by omega)]; exact p3, (u _ _ (by omega)).trans p4, fun i hi => by rw [u 120 _ (by omega), u (94 + 2 * j) i (by omega)]; exact p5 i hi⟩),
      (by obtain ⟨p1, p2, p3, p4⟩ := hC.2.2.2.2.2.2.2.2.2.2.1; exact ⟨(u _ _ (by omega)).trans p1, p2, (u _ _ (by omega)).trans p3, fun r hr => by rw [u 144 r (by omega), u 91 r (by omega)]; exact p4 r hr⟩),
      (by rw [u 1 8 (by omega)]; exact hC.2.2.2.2.2.2.2.2.2.2.2.1),
      (by rw [u 1 7 (by omega)]; exact hC.2.2.2.2.2.2.2.2.2.2.2.2)⟩
  · exact Cach_0 z1 z2 z3 z4 z5

theorem Inv_morn (hC : Core I sp ns nstr nc d cs fr to sc kd nr tl nm cn) (hK : Cach I sp pl ns d cs nr) (nm2 : Nat) (hnm : nm2 ≤ 10) (u : ∀ q i, ¬ (q = 90 ∧ i = 0) ∧ q ≠ 91 ∧ ¬ (q = 101 ∧ i = 57) ∧ q ≠ 144 → J q i = I q i) (f1 : J 90 0 = nI nm2) (f2 : J 101 57 = nI nm2) (f3 : ∀ r, r < nm2 → J 144 r = J 91 r) : Inv J sp pl := by
  have hW := hC.1
  have hMo := hC.2.1
  have h8 := hW.2.1.2
  have hs4 := hW.1.2
  have h10 := hW.2.2.2.2.2.2.1.2
  have hsp := hW.2.2.2.2.2.2.2.1
  have hstr := hW.2.2.1.2
  refine ⟨ns, nstr, nc, d, cs, fr, to, sc, kd, nr, tl, nm2, cn, ?_, ?_⟩
  · exact ⟨CW_fr2 hW (fun q i h => u q i (by omega)) (fun hm a b ha hb => by rw [u 2 8 (by omega)] at hm; rw [u _ _ (by omega)]; exact hW.2.2.2.2.2.2.2.2.2.2.2 hm a b ha hb),
      ⟨((u 101 0 (by omega)).trans hMo.1), ((u 101 1 (by omega)).trans hMo.2.1), ((u 101 2 (by omega)).trans hMo.2.2.1), ((u 101 3 (by omega)).trans hMo.2.2.2.1), ((u 101 4 (by omega)).trans hMo.2.2.2.2.1), ((u 101 5 (by omega)).trans hMo.2.2.2.2.2.1), (by rw [u 101 6 (by omega), u 0 10 (by omega)]; exact hMo.2.2.2.2.2.2.1), ((u 101 7 (by omega)).trans hMo.2.2.2.2.2.2.2.1), (by rw [u 101 8 (by omega), u 1 7 (by omega)]; exact hMo.2.2.2.2.2.2.2.2.1), (by rw [u 101 9 (by omega), u 1 8 (by omega)]; exact hMo.2.2.2.2.2.2.2.2.2)⟩,
      (by rw [u 75 0 (by omega), u 75 1 (by omega)]; exact hC.2.2.1),
      (by rw [(show J (102) = I (102) from funext fun i => u (102) i (by omega)), (show J (103) = I (103) from funext fun i => u (103) i (by omega)), (show J (104) = I (104) from funext fun i => u (104) i (by omega)), (show J (105) = I (105) from funext fun i => u (105) i (by omega)), (show J (5) = I (5) from funext fun i => u (5) i (by omega)), (show J (6) = I (6) from funext fun i => u (6) i (by omega))]; exact hC.2.2.2.1),
      (fun s hs => by rw [u 106 s (by omega), u 107 s (by omega), u 108 s (by omega), u 109 s (by omega), u 26 s (by omega), u (28 + 4 * s) 0 (by omega), u (28 + 4 * s) 1 (by omega), u (28 + 4 * s) 2 (by omega)]; exact hC.2.2.2.2.1 s hs),
      (fun s hs => by rw [u 26 s (by omega), u (28 + 4 * s) 0 (by omega), u (28 + 4 * s) 2 (by omega)]; exact hC.2.2.2.2.2.1 s hs),
      (fun x hx => by have hspx := hsp x (by omega); rw [u 110 x (by omega), u 111 x (by omega), u 112 x (by omega), u 113 x (by omega), u (sp x) 0 (by omega), u (sp x) 1 (by omega), u (sp x) 2 (by omega), u (sp x) 3 (by omega)]; exact hC.2.2.2.2.2.2.1 x hx),
      hC.2.2.2.2.2.2.2.1,
      (by rw [(show J (114) = I (114) from funext fun i => u (114) i (by omega)), (show J (115) = I (115) from funext fun i => u (115) i (by omega)), (show J (116) = I (116) from funext fun i => u (116) i (by omega)), (show J (117) = I (117) from funext fun i => u (117) i (by omega)), (show J (76) = I (76) from funext fun i => u (76) i (by omega)), (show J (77) = I (77) from funext fun i => u (77) i (by omega)), (show J (78) = I (78) from funext fun i => u (78) i (by omega)), (show J (79) = I (79) from funext fun i => u (79) i (by omega))]; exact hC.2.2.2.2.2.2.2.2.1),
      (fun j hj => by obtain ⟨p1, p2, p3, p4, p5⟩ := hC.2.2.2.2.2.2.2.2.2.1 j hj; exact ⟨p1, (u _ _ (by omega)).trans p2, by rw [u 118 j (by omega), u (93 + 2 * j) 0 (by omega)]; exact p3, (u _ _ (by omega)).trans p4, fun i hi => by rw [u 120 _ (by omega), u (94 + 2 * j) i (by omega)]; exact p5 i hi⟩),
      ⟨f1, hnm, f2, f3⟩,
      (by rw [u 1 8 (by omega)]; exact hC.2.2.2.2.2.2.2.2.2.2.2.1),
      (by rw [u 1 7 (by omega)]; exact hC.2.2.2.2.2.2.2.2.2.2.2.2)⟩
  · exact Cach_fr3 hW hK (fun q => ⟨by rw [← u 0 7 (by omega)]; exact q, fun q i h => u q i (by omega)⟩) (fun q => ⟨by rw [← u 0 8 (by omega)]; exact q, by rw [u 0 7 (by omega)]; exact (hK.2.1 (by rw [← u 0 8 (by omega)]; exact q)).1, fun q i h => u q i (by omega)⟩) (fun q => ⟨by rw [← u 0 9 (by omega)]; exact q, by rw [u 0 7 (by omega)]; exact (hK.2.2.1 (by rw [← u 0 9 (by omega)]; exact q)).1, fun q i h => u q i (by omega)⟩) (fun q => ⟨by rw [← u 101 29 (by omega)]; exact q, fun q i h => u q i (by omega)⟩) (fun q => ⟨by rw [← u 101 30 (by omega)]; exact q, fun q i h => u q i (by omega)⟩)

end K4
