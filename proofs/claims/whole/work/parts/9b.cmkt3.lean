section CMKT3
variable {z : Nat × (Nat → Int32)} {n : Nat} {mem : aM} {I : Nat → Nat → Int32} {sp : Nat → Nat} {pl : Bool} {Q : Option Value → Nat → aM → Prop} {R : Room}variable {ns nstr nc : Nat} {d : pD} {cs : Nat → pC} {fr to : Nat → Nat}

theorem c_weighTrades_t (hW : CW I sp ns nstr nc d cs fr to) (nr : Nat) (kd : Nat → Nat) (hr : I 75 1 = nI nr) (hr8 : nr ≤ 8) (hrk : ∀ r, r < nr → ¬ I 77 r < 0) (hkd : ∀ s, s < ns → kd s < 4 ∧ I (28 + 4 * s) 0 = nI (kd s)) (hwi : ∀ s, s < ns → 0 ≤ (I (28 + 4 * s) 2).toInt ∧ (I (28 + 4 * s) 2).toInt ≤ 6) (hsl : 0 ≤ (I 1 8).toInt ∧ (I 1 8).toInt ≤ 30) (K7 : Nat) (hK7 : 7 ^ ns = K7) (l : List Nat) (ts : tU) (hts : tS (alN I nr ns) (coN I sp d ns) (nbN d cs (alC I sp d) (I 1 8) ns) K7 = ts) (hl : (lsT ts.1 2000000000 11).2 = l) (htr : ¬ I 0 9 = 0 → ¬ I 0 7 = 0 ∧ MkT I l ts ns) (hst : ¬ I 0 7 = 0 → PCs I ns d cs (alC I sp d) ∧ FlC I ns d cs (alC I sp d) (I 1 8)) (hN : ∀ J, DP I J sp ns nstr nc d cs fr to → allH d cs (alC I sp d) ns = false → qi Q 0 J sp true) (hE : ∀ K, WT I K sp ns nstr nc d cs fr to l ts → allH d cs (alC I sp d) ns = true → l = [] → qi Q 0 K sp true) (hO : ∀ K, WT I K sp ns nstr nc d cs fr to l ts → allH d cs (alC I sp d) ns = true → l ≠ [] → qi Q 1 K sp true) : aRuns mX11_weighTrades (rK 6) [.ref 0] (nn true) (MM I sp true) Q := by
  refine aRuns_of pn_X11_weighTrades (Nat.le_of_ble_eq_true rfl) (fun z => aE_loc (ls' := [_]) rfl ?_)
  refine aE_aload_n dX11_weighTrades_0 rfl rfl ?_
  refine aE_cVq dX11_weighTrades_1 lk_X11_181 mv_X11_drawPlans (c_drawPlans_t (Q := (fun (r : Option Value) (n' : Nat) (m' : aM) => r = none ∧ n' = nn true ∧ ∃ J, m' = MM J sp true ∧ DP I J sp ns nstr nc d cs fr to)) hW hst (fun J a b c e f g => ⟨rfl, rfl, J, rfl, a, b, c, e, f, g⟩)) rfl (lt_nn (by decide)) rfl rfl ⟨by decide, by decide⟩ (Nat.le_of_ble_eq_true rfl) ⟨rfl, rfl⟩ ⟨by decide, by decide⟩ ?_
  rintro r n' m' ⟨rfl, rfl, J, rfl, hJ⟩
  have hWJ := hJ.2.2.1
  have hP := hJ.2.2.2.2.1
  have hF := hJ.2.2.2.2.2
  have hA := CW_al hW
  have fJ : ∀ q i, ¬ (147 ≤ q) → ¬ (28 ≤ q ∧ q < 44 ∧ ¬ (q % 4 = 0 ∧ i < 3)) → ¬ (54 ≤ q ∧ q < 69) → ¬ (8 ≤ q ∧ q < 16) → ¬ (q = 2 ∧ i = 8) → ¬ (q = 0 ∧ i = 7) → J q i = I q i := fun q i a b c e f g => hJ.1 q i a b (by omega) (by omega) (by omega) (by omega) e f g
  have hd := CW_d01 hW
  have hc : ∀ s, s < ns → (cs s).2.toInt ≤ 90 := fun s hs => (hW.2.2.2.2.2.2.2.2.2.2.1 s hs).2.2.2
  have hs4 := hW.1.2
  have hcl := clN_fr (nr := nr) (d := d) (J := J) (I := I) hW.2.2.2.2.2.2.1.2 hs4 hW.2.2.2.2.2.2.2.1 (fun q i h => fJ q i (by omega) (by omega) (by omega) (by omega) (by omega) (by omega))
  have hlz : ∀ X : Int32, X = nI l.length → l.length ≤ 11 → (0 < X ↔ l ≠ []) := fun X hX h11 => by
    rw [hX]
    constructor
    · intro q e
      rw [e] at q
      exact absurd q (by decide)
    · intro q
      have : 0 < l.length := List.length_pos_iff.mpr q
      exact nI_lt (a := 0) this (by omega)
  refine aE_aload_n dX11_weighTrades_4 rfl rfl ?_
  refine aE_getf (v := .ref 54) dX11_weighTrades_5 fw_X11_19 (lt_nn (by decide)) rfl rfl ?_
  refine aE_geti dX11_weighTrades_8 fw_X11_208 (lt_nn (by decide)) rfl (by decide) rfl ?_
  refine aE_if_ne (tgt := 16) dX11_weighTrades_11 (by decide) (fun h11 => ?_) (fun h11 => ?_)
  · skip
    have ha : allH d cs (alC I sp d) ns = true := by
      cases q : allH d cs (alC I sp d) ns with
      | true => rfl
      | false => have := hF.1; rw [q] at this; exact absurd this h11
    refine aE_aload_n dX11_weighTrades_16 rfl rfl ?_
    refine aE_geti dX11_weighTrades_17 fw_X11_146 (lt_nn (by decide)) rfl (by decide) rfl ?_
    refine aE_if_ne (tgt := 47) dX11_weighTrades_20 (by decide) (fun h20 => ?_) (fun h20 => ?_)
    · skip
      have hJI : ¬ I 0 7 = 0 ∧ MkT I l ts ns := htr (by rw [← fJ 0 9 (by omega) (by omega) (by omega) (by omega) (by omega) (by omega)]; exact h20)
      have e := hJ.2.1 hJI.1
      have hM : MkT J l ts ns := by rw [e]; exact hJI.2
      have hWT : WT I J sp ns nstr nc d cs fr to l ts := ⟨⟨J, hJ, fun _ _ _ _ _ => rfl⟩, h20, hM, hWJ, hP, hF, hJ.2.2.2.1⟩
      refine aE_aload_n dX11_weighTrades_47 rfl rfl ?_
      refine aE_getf (v := .ref 80) dX11_weighTrades_48 fw_X11_33 (lt_nn (by decide)) rfl rfl ?_
      refine aE_geti dX11_weighTrades_51 fw_X11_263 (lt_nn (by decide)) rfl (by decide) rfl ?_
      refine aE_if_le (tgt := 61) dX11_weighTrades_54 (by decide) (fun h54 => ?_) (fun h54 => ?_)
      · skip
        refine aE_iconst (v := 0) dX11_weighTrades_61 rfl ?_
        refine aE_zret dX11_weighTrades_62 rfl (by first | exact Or.inl rfl | exact Or.inr rfl | exact wi_or _ _ _ | assumption) ⟨by decide, by decide⟩ ?_
        first
          | exact hE J hWT ha (Classical.byContradiction fun q => absurd ((hlz _ hM.2.1 hM.2.2.1).mpr q) (Int32.not_lt.mpr h54))
          | exact hO J hWT ha ((hlz _ hM.2.1 hM.2.2.1).mp (Int32.not_le.mp h54))
      · skip
        refine aE_iconst (v := 1) dX11_weighTrades_57 rfl ?_
        refine aE_goto (tgt := 62) dX11_weighTrades_58 (by decide) ?_
        refine aE_zret dX11_weighTrades_62 rfl (by first | exact Or.inl rfl | exact Or.inr rfl | exact wi_or _ _ _ | assumption) ⟨by decide, by decide⟩ ?_
        first
          | exact hE J hWT ha (Classical.byContradiction fun q => absurd ((hlz _ hM.2.1 hM.2.2.1).mpr q) (Int32.not_lt.mpr h54))
          | exact hO J hWT ha ((hlz _ hM.2.1 hM.2.2.1).mp (Int32.not_le.mp h54))
    · skip
      refine aE_aload_n dX11_weighTrades_23 rfl rfl ?_
      refine aE_getf (v := .ref 80) dX11_weighTrades_24 fw_X11_33 (lt_nn (by decide)) rfl rfl ?_
      refine aE_aload_n dX11_weighTrades_27 rfl rfl ?_
      refine aE_getf (v := .ref 1) dX11_weighTrades_28 fw_X11_10 (lt_nn (by decide)) rfl rfl ?_
      refine aE_aload_n dX11_weighTrades_31 rfl rfl ?_
      refine aE_getf (v := .ref 54) dX11_weighTrades_32 fw_X11_19 (lt_nn (by decide)) rfl rfl ?_
      refine aE_aload_n dX11_weighTrades_35 rfl rfl ?_
      refine aE_getf (v := .ref 75) dX11_weighTrades_36 fw_X11_26 (lt_nn (by decide)) rfl rfl ?_
      refine aE_cVq dX11_weighTrades_39 lk_X11_349 mv_X2_weigh (c_weigh (Q := (fun (r : Option Value) (n' : Nat) (m' : aM) => r = none ∧ n' = nn true ∧ ∃ K, m' = MM K sp true ∧ (∀ q i, ¬ (69 ≤ q ∧ q ≤ 74) → ¬ (80 ≤ q ∧ q ≤ 89) → K q i = J q i) ∧ MkT K l ts ns)) (sl := I 1 8) hA hd hc hsl ha nr kd hWJ ((fJ 75 1 (by omega) (by omega) (by omega) (by omega) (by omega) (by omega)).trans hr) hr8 (fun r h => by rw [fJ 77 r (by omega) (by omega) (by omega) (by omega) (by omega) (by omega)]; exact hrk r h) (fun s hs => ⟨(hkd s hs).1, (fJ _ _ (by omega) (by omega) (by omega) (by omega) (by omega) (by omega)).trans (hkd s hs).2⟩) (fun s hs => by rw [fJ (28 + 4 * s) 2 (by omega) (by omega) (by omega) (by omega) (by omega) (by omega)]; exact hwi s hs) hF K7 hK7 l ts (by rw [hcl.1, hcl.2]; exact hts) hl (fun K a b => ⟨rfl, rfl, K, rfl, a, b⟩)) rfl (lt_nn (by decide)) rfl rfl ⟨by decide, by decide⟩ (Nat.le_of_ble_eq_true rfl) ⟨rfl, rfl⟩ ⟨by decide, by decide⟩ ?_
      rintro r n' m' ⟨rfl, rfl, K, rfl, k1, k2⟩
      refine aE_aload_n dX11_weighTrades_42 rfl rfl ?_
      refine aE_iconst (v := 1) dX11_weighTrades_43 rfl ?_
      refine aE_puti dX11_weighTrades_44 fp_X11_146 (Or.inl rfl) (lt_nn (by decide)) rfl (fun _ => a_narZ (by first | exact Or.inl rfl | exact Or.inr rfl | assumption)) (by decide) rfl ?_
      have h8 := hW.2.1.2
      have kf : ∀ q i, ¬ (69 ≤ q ∧ q ≤ 74) → ¬ (80 ≤ q ∧ q ≤ 89) → ¬ (q = 0 ∧ i = 9) → iu K 0 9 1 q i = J q i := fun q i x1 x2 x3 => (iu_ne (by omega)).trans (k1 q i x1 x2)
      have hM : MkT (iu K 0 9 1) l ts ns := MkT_fr k2 (fun q i h => iu_ne (by omega))
      have hWT : WT I (iu K 0 9 1) sp ns nstr nc d cs fr to l ts := ⟨⟨J, hJ, kf⟩, by rw [iu_eq]; decide, hM, CW_fr2 hWJ (fun q i hq => kf q i (by omega) (by omega) (by omega)) (fun hm a b ha hb => by
          rw [kf 2 8 (by omega) (by omega) (by omega)] at hm
          rw [kf _ _ (by omega) (by omega) (by omega)]
          exact hWJ.2.2.2.2.2.2.2.2.2.2.2 hm a b ha hb), PCs_fr hs4 hP (fun q i hq => kf q i (by omega) (by omega) (by omega)), FlC_fr hA hF (fun q i hq => kf q i (by omega) (by omega) (by omega)), by rw [kf 0 7 (by omega) (by omega) (by omega)]; exact hJ.2.2.2.1⟩
      refine aE_aload_n dX11_weighTrades_47 rfl rfl ?_
      refine aE_getf (v := .ref 80) dX11_weighTrades_48 fw_X11_33 (lt_nn (by decide)) rfl rfl ?_
      refine aE_geti dX11_weighTrades_51 fw_X11_263 (lt_nn (by decide)) rfl (by decide) rfl ?_
      refine aE_if_le (tgt := 61) dX11_weighTrades_54 (by decide) (fun h54 => ?_) (fun h54 => ?_)
      · skip
        refine aE_iconst (v := 0) dX11_weighTrades_61 rfl ?_
        refine aE_zret dX11_weighTrades_62 rfl (by first | exact Or.inl rfl | exact Or.inr rfl | exact wi_or _ _ _ | assumption) ⟨by decide, by decide⟩ ?_
        first
          | exact hE _ hWT ha (Classical.byContradiction fun q => absurd ((hlz _ hM.2.1 hM.2.2.1).mpr q) (Int32.not_lt.mpr h54))
          | exact hO _ hWT ha ((hlz _ hM.2.1 hM.2.2.1).mp (Int32.not_le.mp h54))
      · skip
        refine aE_iconst (v := 1) dX11_weighTrades_57 rfl ?_
        refine aE_goto (tgt := 62) dX11_weighTrades_58 (by decide) ?_
        refine aE_zret dX11_weighTrades_62 rfl (by first | exact Or.inl rfl | exact Or.inr rfl | exact wi_or _ _ _ | assumption) ⟨by decide, by decide⟩ ?_
        first
          | exact hE _ hWT ha (Classical.byContradiction fun q => absurd ((hlz _ hM.2.1 hM.2.2.1).mpr q) (Int32.not_lt.mpr h54))
          | exact hO _ hWT ha ((hlz _ hM.2.1 hM.2.2.1).mp (Int32.not_le.mp h54))
  · skip
    have ha : allH d cs (alC I sp d) ns = false := by
      cases q : allH d cs (alC I sp d) ns with
      | false => rfl
      | true => have := hF.1; rw [q, show J 54 0 = 0 by first | exact h11 | exact Classical.not_not.mp h11] at this; exact absurd this (by decide)
    refine aE_iconst (v := 0) dX11_weighTrades_14 rfl ?_
    refine aE_zret dX11_weighTrades_15 rfl (by first | exact Or.inl rfl | exact Or.inr rfl | exact wi_or _ _ _ | assumption) ⟨by decide, by decide⟩ ?_
    exact hN J hJ ha

theorem c_weighTrades_f (hW : CW I sp ns nstr nc d cs fr to) (nr : Nat) (kd : Nat → Nat) (hr : I 75 1 = nI nr) (hr8 : nr ≤ 8) (hrk : ∀ r, r < nr → ¬ I 77 r < 0) (hkd : ∀ s, s < ns → kd s < 4 ∧ I (28 + 4 * s) 0 = nI (kd s)) (hwi : ∀ s, s < ns → 0 ≤ (I (28 + 4 * s) 2).toInt ∧ (I (28 + 4 * s) 2).toInt ≤ 6) (hsl : 0 ≤ (I 1 8).toInt ∧ (I 1 8).toInt ≤ 30) (K7 : Nat) (hK7 : 7 ^ ns = K7) (l : List Nat) (ts : tU) (hts : tS (alN I nr ns) (coN I sp d ns) (nbN d cs (alC I sp d) (I 1 8) ns) K7 = ts) (hl : (lsT ts.1 2000000000 11).2 = l) (htr : ¬ I 0 9 = 0 → ¬ I 0 7 = 0 ∧ MkT I l ts ns) (h07 : I 0 7 = 0) (hN : ∀ J, DP I J sp ns nstr nc d cs fr to → allH d cs (alC I sp d) ns = false → qi Q 0 J sp true) (hE : ∀ K, WT I K sp ns nstr nc d cs fr to l ts → allH d cs (alC I sp d) ns = true → l = [] → qi Q 0 K sp true) (hO : ∀ K, WT I K sp ns nstr nc d cs fr to l ts → allH d cs (alC I sp d) ns = true → l ≠ [] → qi Q 1 K sp true) : aRuns mX11_weighTrades (rP 6) [.ref 0] (nn false) (MM I sp false) Q := by
  refine aRuns_of pn_X11_weighTrades (Nat.le_of_ble_eq_true rfl) (fun z => aE_loc (ls' := [_]) rfl ?_)
  refine aE_aload_n dX11_weighTrades_0 rfl rfl ?_
  refine aE_callV dX11_weighTrades_1 lk_X11_181 mv_X11_drawPlans (c_drawPlans_f (Q := (fun (r : Option Value) (n' : Nat) (m' : aM) => r = none ∧ n' = nn true ∧ ∃ J, m' = MM J sp true ∧ DP I J sp ns nstr nc d cs fr to)) hW h07 (fun J a b c e f g => ⟨rfl, rfl, J, rfl, a, b, c, e, f, g⟩)) rfl (lt_nn (by decide)) rfl rfl ⟨by decide, by decide⟩ (Nat.le_of_ble_eq_true rfl) ⟨by decide, by decide⟩ ?_
  rintro r n' m' ⟨rfl, rfl, J, rfl, hJ⟩
  have hWJ := hJ.2.2.1
  have hP := hJ.2.2.2.2.1
  have hF := hJ.2.2.2.2.2
  have hA := CW_al hW
  have fJ : ∀ q i, ¬ (147 ≤ q) → ¬ (28 ≤ q ∧ q < 44 ∧ ¬ (q % 4 = 0 ∧ i < 3)) → ¬ (54 ≤ q ∧ q < 69) → ¬ (8 ≤ q ∧ q < 16) → ¬ (q = 2 ∧ i = 8) → ¬ (q = 0 ∧ i = 7) → J q i = I q i := fun q i a b c e f g => hJ.1 q i a b (by omega) (by omega) (by omega) (by omega) e f g
  have hd := CW_d01 hW
  have hc : ∀ s, s < ns → (cs s).2.toInt ≤ 90 := fun s hs => (hW.2.2.2.2.2.2.2.2.2.2.1 s hs).2.2.2
  have hs4 := hW.1.2
  have hcl := clN_fr (nr := nr) (d := d) (J := J) (I := I) hW.2.2.2.2.2.2.1.2 hs4 hW.2.2.2.2.2.2.2.1 (fun q i h => fJ q i (by omega) (by omega) (by omega) (by omega) (by omega) (by omega))
  have hlz : ∀ X : Int32, X = nI l.length → l.length ≤ 11 → (0 < X ↔ l ≠ []) := fun X hX h11 => by
    rw [hX]
    constructor
    · intro q e
      rw [e] at q
      exact absurd q (by decide)
    · intro q
      have : 0 < l.length := List.length_pos_iff.mpr q
      exact nI_lt (a := 0) this (by omega)
  refine aE_aload_n dX11_weighTrades_4 rfl rfl ?_
  refine aE_getf (v := .ref 54) dX11_weighTrades_5 fw_X11_19 (lt_nn (by decide)) rfl rfl ?_
  refine aE_geti dX11_weighTrades_8 fw_X11_208 (lt_nn (by decide)) rfl (by decide) rfl ?_
  refine aE_if_ne (tgt := 16) dX11_weighTrades_11 (by decide) (fun h11 => ?_) (fun h11 => ?_)
  · skip
    have ha : allH d cs (alC I sp d) ns = true := by
      cases q : allH d cs (alC I sp d) ns with
      | true => rfl
      | false => have := hF.1; rw [q] at this; exact absurd this h11
    refine aE_aload_n dX11_weighTrades_16 rfl rfl ?_
    refine aE_geti dX11_weighTrades_17 fw_X11_146 (lt_nn (by decide)) rfl (by decide) rfl ?_
    refine aE_if_ne (tgt := 47) dX11_weighTrades_20 (by decide) (fun h20 => ?_) (fun h20 => ?_)
    · skip
      have hJI : ¬ I 0 7 = 0 ∧ MkT I l ts ns := htr (by rw [← fJ 0 9 (by omega) (by omega) (by omega) (by omega) (by omega) (by omega)]; exact h20)
      have e := hJ.2.1 hJI.1
      have hM : MkT J l ts ns := by rw [e]; exact hJI.2
      have hWT : WT I J sp ns nstr nc d cs fr to l ts := ⟨⟨J, hJ, fun _ _ _ _ _ => rfl⟩, h20, hM, hWJ, hP, hF, hJ.2.2.2.1⟩
      refine aE_aload_n dX11_weighTrades_47 rfl rfl ?_
      refine aE_getf (v := .ref 80) dX11_weighTrades_48 fw_X11_33 (lt_nn (by decide)) rfl rfl ?_
      refine aE_geti dX11_weighTrades_51 fw_X11_263 (lt_nn (by decide)) rfl (by decide) rfl ?_
      refine aE_if_le (tgt := 61) dX11_weighTrades_54 (by decide) (fun h54 => ?_) (fun h54 => ?_)
      · skip
        refine aE_iconst (v := 0) dX11_weighTrades_61 rfl ?_
        refine aE_zret dX11_weighTrades_62 rfl (by first | exact Or.inl rfl | exact Or.inr rfl | exact wi_or _ _ _ | assumption) ⟨by decide, by decide⟩ ?_
        first
          | exact hE J hWT ha (Classical.byContradiction fun q => absurd ((hlz _ hM.2.1 hM.2.2.1).mpr q) (Int32.not_lt.mpr h54))
          | exact hO J hWT ha ((hlz _ hM.2.1 hM.2.2.1).mp (Int32.not_le.mp h54))
      · skip
        refine aE_iconst (v := 1) dX11_weighTrades_57 rfl ?_
        refine aE_goto (tgt := 62) dX11_weighTrades_58 (by decide) ?_
        refine aE_zret dX11_weighTrades_62 rfl (by first | exact Or.inl rfl | exact Or.inr rfl | exact wi_or _ _ _ | assumption) ⟨by decide, by decide⟩ ?_
        first
          | exact hE J hWT ha (Classical.byContradiction fun q => absurd ((hlz _ hM.2.1 hM.2.2.1).mpr q) (Int32.not_lt.mpr h54))
          | exact hO J hWT ha ((hlz _ hM.2.1 hM.2.2.1).mp (Int32.not_le.mp h54))
    · skip
      refine aE_aload_n dX11_weighTrades_23 rfl rfl ?_
      refine aE_getf (v := .ref 80) dX11_weighTrades_24 fw_X11_33 (lt_nn (by decide)) rfl rfl ?_
      refine aE_aload_n dX11_weighTrades_27 rfl rfl ?_
      refine aE_getf (v := .ref 1) dX11_weighTrades_28 fw_X11_10 (lt_nn (by decide)) rfl rfl ?_
      refine aE_aload_n dX11_weighTrades_31 rfl rfl ?_
      refine aE_getf (v := .ref 54) dX11_weighTrades_32 fw_X11_19 (lt_nn (by decide)) rfl rfl ?_
      refine aE_aload_n dX11_weighTrades_35 rfl rfl ?_
      refine aE_getf (v := .ref 75) dX11_weighTrades_36 fw_X11_26 (lt_nn (by decide)) rfl rfl ?_
      refine aE_cVq dX11_weighTrades_39 lk_X11_349 mv_X2_weigh (c_weigh (Q := (fun (r : Option Value) (n' : Nat) (m' : aM) => r = none ∧ n' = nn true ∧ ∃ K, m' = MM K sp true ∧ (∀ q i, ¬ (69 ≤ q ∧ q ≤ 74) → ¬ (80 ≤ q ∧ q ≤ 89) → K q i = J q i) ∧ MkT K l ts ns)) (sl := I 1 8) hA hd hc hsl ha nr kd hWJ ((fJ 75 1 (by omega) (by omega) (by omega) (by omega) (by omega) (by omega)).trans hr) hr8 (fun r h => by rw [fJ 77 r (by omega) (by omega) (by omega) (by omega) (by omega) (by omega)]; exact hrk r h) (fun s hs => ⟨(hkd s hs).1, (fJ _ _ (by omega) (by omega) (by omega) (by omega) (by omega) (by omega)).trans (hkd s hs).2⟩) (fun s hs => by rw [fJ (28 + 4 * s) 2 (by omega) (by omega) (by omega) (by omega) (by omega) (by omega)]; exact hwi s hs) hF K7 hK7 l ts (by rw [hcl.1, hcl.2]; exact hts) hl (fun K a b => ⟨rfl, rfl, K, rfl, a, b⟩)) rfl (lt_nn (by decide)) rfl rfl ⟨by decide, by decide⟩ (Nat.le_of_ble_eq_true rfl) ⟨rfl, rfl⟩ ⟨by decide, by decide⟩ ?_
      rintro r n' m' ⟨rfl, rfl, K, rfl, k1, k2⟩
      refine aE_aload_n dX11_weighTrades_42 rfl rfl ?_
      refine aE_iconst (v := 1) dX11_weighTrades_43 rfl ?_
      refine aE_puti dX11_weighTrades_44 fp_X11_146 (Or.inl rfl) (lt_nn (by decide)) rfl (fun _ => a_narZ (by first | exact Or.inl rfl | exact Or.inr rfl | assumption)) (by decide) rfl ?_
      have h8 := hW.2.1.2
      have kf : ∀ q i, ¬ (69 ≤ q ∧ q ≤ 74) → ¬ (80 ≤ q ∧ q ≤ 89) → ¬ (q = 0 ∧ i = 9) → iu K 0 9 1 q i = J q i := fun q i x1 x2 x3 => (iu_ne (by omega)).trans (k1 q i x1 x2)
      have hM : MkT (iu K 0 9 1) l ts ns := MkT_fr k2 (fun q i h => iu_ne (by omega))
      have hWT : WT I (iu K 0 9 1) sp ns nstr nc d cs fr to l ts := ⟨⟨J, hJ, kf⟩, by rw [iu_eq]; decide, hM, CW_fr2 hWJ (fun q i hq => kf q i (by omega) (by omega) (by omega)) (fun hm a b ha hb => by
          rw [kf 2 8 (by omega) (by omega) (by omega)] at hm
          rw [kf _ _ (by omega) (by omega) (by omega)]
          exact hWJ.2.2.2.2.2.2.2.2.2.2.2 hm a b ha hb), PCs_fr hs4 hP (fun q i hq => kf q i (by omega) (by omega) (by omega)), FlC_fr hA hF (fun q i hq => kf q i (by omega) (by omega) (by omega)), by rw [kf 0 7 (by omega) (by omega) (by omega)]; exact hJ.2.2.2.1⟩
      refine aE_aload_n dX11_weighTrades_47 rfl rfl ?_
      refine aE_getf (v := .ref 80) dX11_weighTrades_48 fw_X11_33 (lt_nn (by decide)) rfl rfl ?_
      refine aE_geti dX11_weighTrades_51 fw_X11_263 (lt_nn (by decide)) rfl (by decide) rfl ?_
      refine aE_if_le (tgt := 61) dX11_weighTrades_54 (by decide) (fun h54 => ?_) (fun h54 => ?_)
      · skip
        refine aE_iconst (v := 0) dX11_weighTrades_61 rfl ?_
        refine aE_zret dX11_weighTrades_62 rfl (by first | exact Or.inl rfl | exact Or.inr rfl | exact wi_or _ _ _ | assumption) ⟨by decide, by decide⟩ ?_
        first
          | exact hE _ hWT ha (Classical.byContradiction fun q => absurd ((hlz _ hM.2.1 hM.2.2.1).mpr q) (Int32.not_lt.mpr h54))
          | exact hO _ hWT ha ((hlz _ hM.2.1 hM.2.2.1).mp (Int32.not_le.mp h54))
      · skip
        refine aE_iconst (v := 1) dX11_weighTrades_57 rfl ?_
        refine aE_goto (tgt := 62) dX11_weighTrades_58 (by decide) ?_
        refine aE_zret dX11_weighTrades_62 rfl (by first | exact Or.inl rfl | exact Or.inr rfl | exact wi_or _ _ _ | assumption) ⟨by decide, by decide⟩ ?_
        first
          | exact hE _ hWT ha (Classical.byContradiction fun q => absurd ((hlz _ hM.2.1 hM.2.2.1).mpr q) (Int32.not_lt.mpr h54))
          | exact hO _ hWT ha ((hlz _ hM.2.1 hM.2.2.1).mp (Int32.not_le.mp h54))
  · skip
    have ha : allH d cs (alC I sp d) ns = false := by
      cases q : allH d cs (alC I sp d) ns with
      | false => rfl
      | true => have := hF.1; rw [q, show J 54 0 = 0 by first | exact h11 | exact Classical.not_not.mp h11] at this; exact absurd this (by decide)
    refine aE_iconst (v := 0) dX11_weighTrades_14 rfl ?_
    refine aE_zret dX11_weighTrades_15 rfl (by first | exact Or.inl rfl | exact Or.inr rfl | exact wi_or _ _ _ | assumption) ⟨by decide, by decide⟩ ?_
    exact hN J hJ ha

end CMKT3
