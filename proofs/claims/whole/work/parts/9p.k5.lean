def shf (t k : Nat) : Nat := if t ≤ k then k + 1 else k
def prm (t t' k : Nat) : Nat := if k = t' then t else if t ≤ k ∧ k < t' then k + 1 else k
theorem spu_prm (sp : Nat → Nat) {t t' : Nat} (h : t ≤ t') : spu (rs sp t t') t' (sp t) = fun k => sp (prm t t' k) := by
  funext k
  unfold spu rs prm
  by_cases e : k = t'
  · rw [if_pos e, if_pos e]
  · rw [if_neg e, if_neg e]
    by_cases e2 : t ≤ k ∧ k < t'
    · rw [if_pos e2, if_pos e2]
    · rw [if_neg e2, if_neg e2]
theorem prm_lt {t t' k : Nat} (h : t ≤ t') (ht : t' < 10) (hk : k < 10) : prm t t' k < 10 := by
  unfold prm; split
  · omega
  · split <;> omega
theorem prm_sh {t t' k : Nat} (hk : k < t') : prm t t' k = shf t k := by
  unfold prm shf
  rw [if_neg (by omega)]
  by_cases e : t ≤ k
  · rw [if_pos ⟨e, hk⟩, if_pos e]
  · rw [if_neg (fun q => e q.1), if_neg e]
theorem prm_inj {t t' i j : Nat} (h : t ≤ t') (e : prm t t' i = prm t t' j) : i = j := by
  unfold prm at e
  by_cases a : i = t' <;> by_cases b : j = t'
  · omega
  · rw [if_pos a, if_neg b] at e
    split at e <;> omega
  · rw [if_neg a, if_pos b] at e
    split at e <;> omega
  · rw [if_neg a, if_neg b] at e
    split at e <;> split at e <;> omega
section K5
variable {I : Nat → Nat → Int32} {sp : Nat → Nat} {pl : Bool} {J : Nat → Nat → Int32} {ns nstr nc : Nat} {d : pD} {cs : Nat → pC} {fr to sc kd : Nat → Nat} {nr tl nm : Nat} {cn : Nat → Nat}
theorem Inv_gone (hC : Core I sp ns nstr nc d cs fr to sc kd nr tl nm cn) (hK : Cach I sp pl ns d cs nr) (t t' : Nat) (ht : t < d.1) (hd : d.1 = t' + 1) (u : ∀ q i, ¬ (110 ≤ q ∧ q ≤ 113) ∧ ¬ (q = 1 ∧ i = 5) ∧ ¬ (q = 101 ∧ i = 3) ∧ ¬ (q = 0 ∧ 7 ≤ i ∧ i ≤ 9) ∧ ¬ (q = 101 ∧ (i = 29 ∨ i = 30)) → J q i = I q i) (f1 : ∀ q k, 110 ≤ q ∧ q ≤ 113 → k < t' → J q k = I q (shf t k)) (f3 : J 1 5 = nI t') (f4 : J 101 3 = nI t') (z1 : J 0 7 = 0) (z2 : J 0 8 = 0) (z3 : J 0 9 = 0) (z4 : J 101 29 = 0) (z5 : J 101 30 = 0) : Inv J (spu (rs sp t t') t' (sp t)) pl := by
  have hW := hC.1
  have hMo := hC.2.1
  have h8 := hW.2.1.2
  have hs4 := hW.1.2
  have h10 := hW.2.2.2.2.2.2.1.2
  have hsp := hW.2.2.2.2.2.2.2.1
  have hstr := hW.2.2.1.2
  rw [spu_prm sp (show t ≤ t' by omega)]
  have hsh : ∀ k, k < t' → shf t k < d.1 := fun k hk => by unfold shf; split <;> omega
  have hpe : ∀ k, k < t' → prm t t' k = shf t k := fun k hk => prm_sh hk
  refine ⟨ns, nstr, nc, (t', (fun k => d.2.1 (shf t k)), d.2.2.1, (fun k => d.2.2.2.1 (shf t k)), d.2.2.2.2), cs, fr, to, (fun k => sc (shf t k)), kd, nr, tl, nm, cn, ?_, ?_⟩
  · exact ⟨(by
      obtain ⟨w1, w2, w3, w4, w5, w6, w7, w8, w9, w10, w11, w12⟩ := hW
      exact ⟨by rw [u 1 4 (by omega)]; exact w1,
        by rw [u 2 0 (by omega)]; exact w2,
        by rw [u 2 1 (by omega)]; exact w3,
        fun x hx => by rw [u 3 x (by omega), u 4 x (by omega)]; exact w4 x hx,
        fun x hx => by rw [u 5 x (by omega)]; exact w5 x hx,
        by rw [show J 5 = I 5 from funext fun i => u 5 i (by omega), show J 6 = I 6 from funext fun i => u 6 i (by omega)]; exact w6,
        ⟨f3, by show t' ≤ 10; omega⟩,
        fun k hk => w8 _ (prm_lt (by omega) (by omega) hk),
        fun y hy => by
          have hy2 : y < t' := hy
          have hs := hsh y hy2
          have h44 := w8 (shf t y) (by omega)
          show d.2.1 (shf t y) < nc ∧ J (sp (prm t t' y)) 1 = nI (d.2.1 (shf t y)) ∧ J (sp (prm t t' y)) 2 = d.2.2.2.1 (shf t y) ∧ 0 ≤ (d.2.2.2.1 (shf t y)).toInt ∧ (d.2.2.2.1 (shf t y)).toInt ≤ 30
          rw [hpe y hy2, u (sp (shf t y)) 1 (by omega), u (sp (shf t y)) 2 (by omega)]; exact w9 _ hs,
        by rw [u 1 6 (by omega)]; exact w10,
        fun x hx => by rw [u (28 + 4 * x) 0 (by omega), u (28 + 4 * x) 1 (by omega), u 1 7 (by omega)]; exact w11 x hx,
        fun hm a c ha hc => by rw [u 2 8 (by omega)] at hm; rw [u _ _ (by omega)]; exact w12 hm a c ha hc⟩),
      ⟨((u 101 0 (by omega)).trans hMo.1), ((u 101 1 (by omega)).trans hMo.2.1), ((u 101 2 (by omega)).trans hMo.2.2.1), f4, ((u 101 4 (by omega)).trans hMo.2.2.2.2.1), ((u 101 5 (by omega)).trans hMo.2.2.2.2.2.1), (by rw [u 101 6 (by omega), u 0 10 (by omega)]; exact hMo.2.2.2.2.2.2.1), ((u 101 7 (by omega)).trans hMo.2.2.2.2.2.2.2.1), (by rw [u 101 8 (by omega), u 1 7 (by omega)]; exact hMo.2.2.2.2.2.2.2.2.1), (by rw [u 101 9 (by omega), u 1 8 (by omega)]; exact hMo.2.2.2.2.2.2.2.2.2)⟩,
      (by rw [u 75 0 (by omega), u 75 1 (by omega)]; exact hC.2.2.1),
      (by rw [(show J (102) = I (102) from funext fun i => u (102) i (by omega)), (show J (103) = I (103) from funext fun i => u (103) i (by omega)), (show J (104) = I (104) from funext fun i => u (104) i (by omega)), (show J (105) = I (105) from funext fun i => u (105) i (by omega)), (show J (5) = I (5) from funext fun i => u (5) i (by omega)), (show J (6) = I (6) from funext fun i => u (6) i (by omega))]; exact hC.2.2.2.1),
      (fun s hs => by rw [u 106 s (by omega), u 107 s (by omega), u 108 s (by omega), u 109 s (by omega), u 26 s (by omega), u (28 + 4 * s) 0 (by omega), u (28 + 4 * s) 1 (by omega), u (28 + 4 * s) 2 (by omega)]; exact hC.2.2.2.2.1 s hs),
      (fun s hs => by rw [u 26 s (by omega), u (28 + 4 * s) 0 (by omega), u (28 + 4 * s) 2 (by omega)]; exact hC.2.2.2.2.2.1 s hs),
      (fun y hy => by
        have hy2 : y < t' := hy
        have hs := hsh y hy2
        have h44 := hsp (shf t y) (by omega)
        show sc (shf t y) < ns ∧ J (sp (prm t t' y)) 0 = nI (sc (shf t y)) ∧ J 110 y = J (sp (prm t t' y)) 0 ∧ J 111 y = J (sp (prm t t' y)) 1 ∧ J 112 y = J (sp (prm t t' y)) 2 ∧ J 113 y = J (sp (prm t t' y)) 3
        rw [hpe y hy2, f1 110 y (by omega) hy2, f1 111 y (by omega) hy2, f1 112 y (by omega) hy2, f1 113 y (by omega) hy2, u (sp (shf t y)) 0 (by omega), u (sp (shf t y)) 1 (by omega), u (sp (shf t y)) 2 (by omega), u (sp (shf t y)) 3 (by omega)]; exact hC.2.2.2.2.2.2.1 _ hs),
      (fun i j hi hj e => prm_inj (show t ≤ t' by omega) (hC.2.2.2.2.2.2.2.1 _ _ (prm_lt (by omega) (by omega) hi) (prm_lt (by omega) (by omega) hj) e)),
      (by rw [(show J (114) = I (114) from funext fun i => u (114) i (by omega)), (show J (115) = I (115) from funext fun i => u (115) i (by omega)), (show J (116) = I (116) from funext fun i => u (116) i (by omega)), (show J (117) = I (117) from funext fun i => u (117) i (by omega)), (show J (76) = I (76) from funext fun i => u (76) i (by omega)), (show J (77) = I (77) from funext fun i => u (77) i (by omega)), (show J (78) = I (78) from funext fun i => u (78) i (by omega)), (show J (79) = I (79) from funext fun i => u (79) i (by omega))]; exact hC.2.2.2.2.2.2.2.2.1),
      (fun j hj => by obtain ⟨p1, p2, p3, p4, p5⟩ := hC.2.2.2.2.2.2.2.2.2.1 j hj; exact ⟨p1, (u _ _ (by omega)).trans p2, by rw [u 118 j (by omega), u (93 + 2 * j) 0 (by omega)]; exact p3, (u _ _ (by omega)).trans p4, fun i hi => by rw [u 120 _ (by omega), u (94 + 2 * j) i (by omega)]; exact p5 i hi⟩),
      (by obtain ⟨p1, p2, p3, p4⟩ := hC.2.2.2.2.2.2.2.2.2.2.1; exact ⟨(u _ _ (by omega)).trans p1, p2, (u _ _ (by omega)).trans p3, fun r hr => by rw [u 144 r (by omega), u 91 r (by omega)]; exact p4 r hr⟩),
      (by rw [u 1 8 (by omega)]; exact hC.2.2.2.2.2.2.2.2.2.2.2.1),
      (by rw [u 1 7 (by omega)]; exact hC.2.2.2.2.2.2.2.2.2.2.2.2)⟩
  · exact Cach_0 z1 z2 z3 z4 z5
end K5
