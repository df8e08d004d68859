section CMKT2
variable {z : Nat × (Nat → Int32)} {n : Nat} {mem : aM} {I : Nat → Nat → Int32} {sp : Nat → Nat} {pl : Bool} {Q : Option Value → Nat → aM → Prop} {R : Room}variable {ns nstr nc : Nat} {d : pD} {cs : Nat → pC} {fr to : Nat → Nat} {al : Nat → Nat} {sl : Int32}

theorem l_wg3 (hA : AlOK d cs al ns) (hd : d01 d) (hc : ∀ s, s < ns → (cs s).2.toInt ≤ 90) (hsl : 0 ≤ sl.toInt ∧ sl.toInt ≤ 30) (hah : allH d cs al ns = true) (fl K nr : Nat) (hfl : fl < 11) (hs4 : ns ≤ 4) (hK : K ≤ 2401) (g : Nat → Nat → Bool) (pc : Nat → Nat → Int32) (aF : Nat → Bool) (cF : Nat → Int32) (haF : ∀ c, aF c = alF (fun s => g s (dg ns c s)) ns ns) (hcF : ∀ c, cF c = cSum (fun s => pc s (dg ns c s)) ns) (hcp : ∀ c, 0 ≤ (cF c).toInt) (hpc : ∀ s b, s < ns → b < 7 → 0 ≤ (pc s b).toInt) (I0 : Nat → Nat → Int32) (hs : I0 80 1 = nI ns) (hpr : ∀ s b, s < ns → b < 7 → I0 (85 + s) b = if g s b then pc s b else -1) (hF : FlC I0 ns d cs al sl) (hflo : I0 54 2 = nI fl) (k0 : ∀ J, (∀ q i, ¬ (69 ≤ q ∧ q ≤ 74) → q ≠ 82 → q ≠ 83 → q ≠ 89 → J q i = I0 q i) → (∀ k, k < 11 → J 82 k = (cS aF cF (nbN d cs al sl ns) fl K).1 k) → (∀ k, k < 11 → ∀ x, (cS aF cF (nbN d cs al sl ns) fl K).2 k = some x → J 83 k = nI x) → ∀ l5 l6 l7, aE z mX2_weigh (rK 4) Q 170 [some (.ref 80), some (.ref 1), some (.ref 54), some (.ref 75), some (.int (nI K)), l5, l6, l7] [] (nn pl) (MM J sp pl) 0 0) : ∀ (e c : Nat), c + e = K → ∀ (I : Nat → Nat → Int32) (l6 l7 : Option Value), (∀ q i, ¬ (69 ≤ q ∧ q ≤ 74) → q ≠ 82 → q ≠ 83 → q ≠ 89 → I q i = I0 q i) → (∀ k, k < 11 → I 82 k = (cS aF cF (nbN d cs al sl ns) fl c).1 k) → (∀ k, k < 11 → ∀ x, (cS aF cF (nbN d cs al sl ns) fl c).2 k = some x → I 83 k = nI x) → aE z mX2_weigh (rK 4) Q 109 [some (.ref 80), some (.ref 1), some (.ref 54), some (.ref 75), some (.int (nI K)), some (.int (nI c)), l6, l7] [] (nn pl) (MM I sp pl) 0 0 := by
  have hA10 := hA.2.1
  intro e
  induction e with
  | zero =>
    intro c hc2 I l6 l7 hfr hr1 hr2
    have hc2 : c = K := by omega
    rw [hc2] at hr1 hr2
    rw [hc2]
    refine aE_iload dX2_weigh_109 rfl ?_
    refine aE_iload dX2_weigh_111 rfl ?_
    refine aE_icmp_ge (tgt := 170) dX2_weigh_113 (by decide) (fun h113 => ?_) (fun h113 => absurd (Int32.le_refl _) h113)
    exact k0 I hfr hr1 hr2 _ _ _
  | succ e ih =>
    intro c hc2 I l6 l7 hfr hr1 hr2
    have hcs := cS_s aF cF (nbN d cs al sl ns) fl c
    have skip0 : (cS aF cF (nbN d cs al sl ns) fl (c + 1)) = (cS aF cF (nbN d cs al sl ns) fl c) → ∀ (J : Nat → Nat → Int32) l6 l7, (∀ q i, ¬ (69 ≤ q ∧ q ≤ 74) → q ≠ 89 → J q i = I q i) → aE z mX2_weigh (rK 4) Q 164 [some (.ref 80), some (.ref 1), some (.ref 54), some (.ref 75), some (.int (nI K)), some (.int (nI c)), l6, l7] [] (nn pl) (MM J sp pl) 0 0 := by
      intro he J l6 l7 hJ
      have ih2 := ih (c + 1) (by omega) J l6 l7 (fun q i a b c e => (hJ q i a e).trans (hfr q i a b c e)) (fun k hk => by rw [he, hJ 82 k (by omega) (by omega)]; exact hr1 k hk) (fun k hk x hx => by rw [he] at hx; rw [hJ 83 k (by omega) (by omega)]; exact hr2 k hk x hx)
      refine aE_iinc dX2_weigh_164 rfl (a_inc _) (by decide) rfl (aE_loc (ls' := [_, _, _, _, _, _, _, _]) rfl ?_)
      refine aE_goto (tgt := 109) dX2_weigh_167 (by decide) ?_
      exact ih2
    have hc4 : c < 10000 := by omega
    cases hal : aF c with
    | false =>
      rw [hal, Bool.false_and, Bool.false_and, if_neg (by decide)] at hcs
      rw [haF] at hal
      refine aE_iload dX2_weigh_109 rfl ?_
      refine aE_iload dX2_weigh_111 rfl ?_
      refine aE_icmp_ge (tgt := 170) dX2_weigh_113 (by decide) (fun h113 => absurd h113 (nI_ge (by omega) (by omega))) (fun h113 => ?_)
      refine aE_aload_n dX2_weigh_116 rfl rfl ?_
      refine aE_iload dX2_weigh_117 rfl ?_
      refine aE_cVq dX2_weigh_119 lk_X2_63 mv_X2_decode (c_decode (Q := (fun (r : Option Value) (n' : Nat) (m' : aM) => r = none ∧ n' = nn pl ∧ ∃ J, m' = MM J sp pl ∧ (∀ q i, q ≠ 89 → J q i = I q i) ∧ (∀ s, s < ns → J 89 s = nI (dg ns c s)))) ns c hs4 hc4 ((hfr 80 1 (by omega) (by omega) (by omega) (by omega)).trans hs) (fun J a b => ⟨rfl, rfl, J, rfl, a, b⟩)) rfl (lt_nn (by decide)) rfl rfl ⟨by decide, by decide⟩ (Nat.le_of_ble_eq_true rfl) ⟨rfl, rfl⟩ ⟨by decide, by decide⟩ ?_
      rintro r n' m' ⟨rfl, rfl, J, rfl, j1, j2⟩
      refine aE_aload_n dX2_weigh_122 rfl rfl ?_
      refine aE_cVi dX2_weigh_123 lk_X2_67 mv_X2_priceOfBells (c_price ns c hs4 g pc ((j1 80 1 (by omega)).trans ((hfr 80 1 (by omega) (by omega) (by omega) (by omega)).trans hs)) j2 (fun s b h1 h2 => (j1 _ _ (by omega)).trans ((hfr _ _ (by omega) (by omega) (by omega) (by omega)).trans (hpr s b h1 h2))) hpc) rfl (lt_nn (by decide)) rfl rfl ⟨by decide, by decide⟩ (Nat.le_of_ble_eq_true rfl) ⟨rfl, rfl⟩ ⟨by decide, by decide⟩ ?_
      rw [hal]
      refine aE_istore dX2_weigh_126 (by decide) rfl (aE_loc (ls' := [_, _, _, _, _, _, _, _]) rfl ?_)
      refine aE_iload dX2_weigh_128 rfl ?_
      refine aE_iconst (v := -1) dX2_weigh_130 rfl ?_
      refine aE_icmp_eq (tgt := 164) dX2_weigh_131 (by decide) (fun h131 => ?_) (fun h131 => absurd (rfl) h131)
      exact skip0 hcs J _ _ (fun q i a b => j1 q i b)
    | true =>
      have hal2 := hal
      rw [haF] at hal2
      have hco := hcp c
      have hne : ¬ cF c = -1 := fun q => by rw [q] at hco; exact absurd hco (by decide)
      have hnb : nbN d cs al sl ns c < 11 := by unfold nbN; omega
      rw [hal, Bool.true_and] at hcs
      refine aE_iload dX2_weigh_109 rfl ?_
      refine aE_iload dX2_weigh_111 rfl ?_
      refine aE_icmp_ge (tgt := 170) dX2_weigh_113 (by decide) (fun h113 => absurd h113 (nI_ge (by omega) (by omega))) (fun h113 => ?_)
      refine aE_aload_n dX2_weigh_116 rfl rfl ?_
      refine aE_iload dX2_weigh_117 rfl ?_
      refine aE_cVq dX2_weigh_119 lk_X2_63 mv_X2_decode (c_decode (Q := (fun (r : Option Value) (n' : Nat) (m' : aM) => r = none ∧ n' = nn pl ∧ ∃ J, m' = MM J sp pl ∧ (∀ q i, q ≠ 89 → J q i = I q i) ∧ (∀ s, s < ns → J 89 s = nI (dg ns c s)))) ns c hs4 hc4 ((hfr 80 1 (by omega) (by omega) (by omega) (by omega)).trans hs) (fun J a b => ⟨rfl, rfl, J, rfl, a, b⟩)) rfl (lt_nn (by decide)) rfl rfl ⟨by decide, by decide⟩ (Nat.le_of_ble_eq_true rfl) ⟨rfl, rfl⟩ ⟨by decide, by decide⟩ ?_
      rintro r n' m' ⟨rfl, rfl, J, rfl, j1, j2⟩
      refine aE_aload_n dX2_weigh_122 rfl rfl ?_
      refine aE_cVi dX2_weigh_123 lk_X2_67 mv_X2_priceOfBells (c_price ns c hs4 g pc ((j1 80 1 (by omega)).trans ((hfr 80 1 (by omega) (by omega) (by omega) (by omega)).trans hs)) j2 (fun s b h1 h2 => (j1 _ _ (by omega)).trans ((hfr _ _ (by omega) (by omega) (by omega) (by omega)).trans (hpr s b h1 h2))) hpc) rfl (lt_nn (by decide)) rfl rfl ⟨by decide, by decide⟩ (Nat.le_of_ble_eq_true rfl) ⟨rfl, rfl⟩ ⟨by decide, by decide⟩ ?_
      rw [hal2]
      refine aE_top (x' := cF c) (by rw [hcF]; rfl) ?_
      have jf : ∀ q i, ¬ (69 ≤ q ∧ q ≤ 74) → q ≠ 82 → q ≠ 83 → q ≠ 89 → J q i = I0 q i := fun q i a b c e => (j1 q i e).trans (hfr q i a b c e)
      have hFJ : FlC J ns d cs al sl := FlC_fr hA hF (fun q i h => jf q i (by omega) (by omega) (by omega) (by omega))
      refine aE_istore dX2_weigh_126 (by decide) rfl (aE_loc (ls' := [_, _, _, _, _, _, _, _]) rfl ?_)
      refine aE_iload dX2_weigh_128 rfl ?_
      refine aE_iconst (v := -1) dX2_weigh_130 rfl ?_
      refine aE_icmp_eq (tgt := 164) dX2_weigh_131 (by decide) (fun h131 => absurd h131 (hne)) (fun h131 => ?_)
      refine aE_iload dX2_weigh_134 rfl ?_
      refine aE_aload_n dX2_weigh_136 rfl rfl ?_
      refine aE_getf (v := .ref 82) dX2_weigh_137 fw_X2_15 (lt_nn (by decide)) rfl rfl ?_
      refine aE_aload_n dX2_weigh_140 rfl rfl ?_
      refine aE_geti dX2_weigh_141 fw_X2_71 (lt_nn (by decide)) rfl (by decide) rfl ?_
      refine aE_top ((jf 54 2 (by omega) (by omega) (by omega) (by omega)).trans hflo) ?_
      refine aE_ildM dX2_weigh_144 (lt_nn (by decide)) rfl (by decide) rfl hfl ?_
      refine aE_top ((j1 82 fl (by omega)).trans (hr1 fl hfl)) ?_
      refine aE_icmp_ge (tgt := 164) dX2_weigh_145 (by decide) (fun h145 => ?_) (fun h145 => ?_)
      · skip
        rw [decide_eq_false (Int32.not_lt.mpr h145), Bool.false_and, if_neg (by decide)] at hcs
        exact skip0 hcs J _ _ (fun q i a b => j1 q i b)
      · skip
        have h145b := Int32.not_le.mp h145
        rw [decide_eq_true h145b, Bool.true_and] at hcs
        refine aE_aload_n dX2_weigh_148 rfl rfl ?_
        refine aE_iload dX2_weigh_149 rfl ?_
        refine aE_iload dX2_weigh_151 rfl ?_
        refine aE_aload_n dX2_weigh_153 rfl rfl ?_
        refine aE_aload_n dX2_weigh_154 rfl rfl ?_
        refine aE_getf (v := .ref 89) dX2_weigh_155 fw_X2_26 (lt_nn (by decide)) rfl rfl ?_
        refine aE_cVq dX2_weigh_158 lk_X2_76 mv_X1_fewestBuses (c_fewestBuses (Q := (fun (r : Option Value) (n' : Nat) (m' : aM) => n' = nn pl ∧ ∃ K2, m' = MM K2 sp pl ∧ r = some (.int (nI ((RR d cs al ns).length - mxF (mayF d cs (fun s => J 89 s) sl (RR d cs al ns)) (RR d cs al ns).length (RR d cs al ns).length 0))) ∧ (∀ q i, ¬ (69 ≤ q ∧ q ≤ 74) → K2 q i = J q i))) hA hs4 hd hc hsl hah 89 (Or.inr rfl) hFJ (fun s hs => by rw [j2 s hs]; exact nI_sm (dg7 ns c s)) (fun K2 a => ⟨rfl, K2, rfl, rfl, a⟩)) rfl (lt_nn (by decide)) rfl rfl ⟨by decide, by decide⟩ (Nat.le_of_ble_eq_true rfl) ⟨rfl, rfl⟩ ⟨by decide, by decide⟩ ?_
        rintro r n' m' ⟨rfl, K2, rfl, rfl, k1⟩
        have hnbe : (RR d cs al ns).length - mxF (mayF d cs (fun s => J 89 s) sl (RR d cs al ns)) (RR d cs al ns).length (RR d cs al ns).length 0 = nbN d cs al sl ns c := by
          unfold nbN
          rw [mxF_congr (mayF_tr (ns := ns) (fun s S hm => (RR_mem hA.1 ns s S hm).1) (fun s hs => j2 s hs)) (RR d cs al ns).length 0 (Nat.le_refl _)]
        rw [hnbe]
        refine aE_cVq dX2_weigh_161 lk_X2_80 mv_X2_note (c_note (Q := (fun (r : Option Value) (n' : Nat) (m' : aM) => r = none ∧ n' = nn pl ∧ ((¬ cF c < K2 82 (nbN d cs al sl ns c) ∧ m' = MM K2 sp pl) ∨ (cF c < K2 82 (nbN d cs al sl ns c) ∧ m' = MM (iu (iu K2 82 (nbN d cs al sl ns c) (cF c)) 83 (nbN d cs al sl ns c) (nI c)) sp pl)))) c (nbN d cs al sl ns c) (cF c) hnb (fun q => ⟨rfl, rfl, Or.inl ⟨q, rfl⟩⟩) (fun q => ⟨rfl, rfl, Or.inr ⟨q, rfl⟩⟩)) rfl (lt_nn (by decide)) rfl rfl ⟨by decide, by decide⟩ (Nat.le_of_ble_eq_true rfl) ⟨rfl, rfl⟩ ⟨by decide, by decide⟩ ?_
        have h82 : K2 82 (nbN d cs al sl ns c) = (cS aF cF (nbN d cs al sl ns) fl c).1 (nbN d cs al sl ns c) := (k1 82 _ (by omega)).trans ((j1 82 _ (by omega)).trans (hr1 _ hnb))
        rintro r n' m' ⟨rfl, rfl, ⟨q, rfl⟩ | ⟨q, rfl⟩⟩
        · rw [h82] at q
          rw [decide_eq_false q, if_neg (by decide)] at hcs
          exact skip0 hcs K2 _ _ (fun q i a b => (k1 q i a).trans (j1 q i b))
        · rw [h82] at q
          rw [decide_eq_true q, if_pos rfl] at hcs
          have ih2 := fun l6 l7 => ih (c + 1) (by omega) (iu (iu K2 82 (nbN d cs al sl ns c) (cF c)) 83 (nbN d cs al sl ns c) (nI c)) l6 l7 (fun q i a b c e => (iu_ne (by omega)).trans ((iu_ne (by omega)).trans ((k1 q i a).trans (jf q i a b c e)))) (fun k hk => by
            rw [hcs, iu_ne (by omega)]
            by_cases ek : k = nbN d cs al sl ns c
            · rw [ek, iu_eq]; exact fup_eq.symm
            · rw [iu_ne (by omega), k1 82 k (by omega), j1 82 k (by omega), hr1 k hk]; exact (fup_ne ek).symm) (fun k hk x hx => by
            rw [hcs] at hx
            have hx2 : fup (cS aF cF (nbN d cs al sl ns) fl c).2 (nbN d cs al sl ns c) (some c) k = some x := hx
            by_cases ek : k = nbN d cs al sl ns c
            · rw [ek, fup_eq] at hx2
              cases hx2
              rw [ek, iu_eq]
            · rw [fup_ne ek] at hx2
              rw [iu_ne (by omega), iu_ne (by omega), k1 83 k (by omega), j1 83 k (by omega)]
              exact hr2 k hk x hx2)
          refine aE_iinc dX2_weigh_164 rfl (a_inc _) (by decide) rfl (aE_loc (ls' := [_, _, _, _, _, _, _, _]) rfl ?_)
          refine aE_goto (tgt := 109) dX2_weigh_167 (by decide) ?_
          exact ih2 _ _
theorem pCl_b (hW : CW I sp ns nstr nc d cs fr to) (hwi : ∀ s, s < ns → 0 ≤ (I (28 + 4 * s) 2).toInt ∧ (I (28 + 4 * s) 2).toInt ≤ 6) {s b : Nat} (hs : s < ns) (hb : b < 7) : 0 ≤ (pCl I sp d s b).toInt ∧ (pCl I sp d s b).toInt ≤ 36000 := by
  have h10 := hW.2.2.2.2.2.2.1.2
  have hsum := sumS_b (f := fun k => I (sp k) 0) (g := fun k => I (sp k) 2) (x := nI s) d.1 h10 (fun k hk => by
    have := hW.2.2.2.2.2.2.2.2.1 k hk
    rw [this.2.2.1]; exact this.2.2.2)
  exact cOne_b (by omega) (nI_sm hb) (hwi s hs)
theorem coN_b (hW : CW I sp ns nstr nc d cs fr to) (hwi : ∀ s, s < ns → 0 ≤ (I (28 + 4 * s) 2).toInt ∧ (I (28 + 4 * s) 2).toInt ≤ 6) (c : Nat) : 0 ≤ (coN I sp d ns c).toInt ∧ (coN I sp d ns c).toInt < 1000000 := by
  have hs4 := hW.1.2
  have := cSum_b (f := fun s => pCl I sp d s (dg ns c s)) ns hs4 (fun s hs => pCl_b hW hwi hs (dg7 ns c s))
  unfold coN
  omega
theorem nbN_fl (hA : AlOK d cs al ns) (hd : d01 d) (hc : ∀ s, s < ns → (cs s).2.toInt ≤ 90) (hsl : 0 ≤ sl.toInt ∧ sl.toInt ≤ 30) (hah : allH d cs al ns = true) (c : Nat) : mxL d cs al ns ≤ nbN d cs al sl ns c := by
  have hk : ∀ a b, a < (RR d cs al ns).length → b < (RR d cs al ns).length → mayF d cs (fun s => nI (dg ns c s)) sl (RR d cs al ns) a b = true → dg ns c (rt0 (RR d cs al ns) a).1 < dg ns c (rt0 (RR d cs al ns) b).1 := fun a b ha hb h => by
    have := may_key hA hd hc hsl (tr := fun s => nI (dg ns c s)) (fun s _ => nI_sm (dg7 ns c s)) ha hb h
    have key : ∀ x, x < 7 → (nI x).toInt = x := by decide
    have e1 := key _ (dg7 ns c (rt0 (RR d cs al ns) a).1)
    have e2 := key _ (dg7 ns c (rt0 (RR d cs al ns) b).1)
    have this2 : (nI (dg ns c (rt0 (RR d cs al ns) a).1)).toInt < (nI (dg ns c (rt0 (RR d cs al ns) b).1)).toInt := this
    omega
  have hle := mxF_le (mayF d cs (fun s => nI (dg ns c s)) sl (RR d cs al ns)) (RR d cs al ns).length (RR d cs al ns).length 0
  have := mxL_floor (d := d) (cs := cs) (al := al) (n := (RR d cs al ns).length) (M := mxF (mayF d cs (fun s => nI (dg ns c s)) sl (RR d cs al ns)) (RR d cs al ns).length (RR d cs al ns).length 0) ns (fun s hs => mx_floor (key := fun s => dg ns c s) hA.1 hk hs) hle
  unfold nbN
  omega
theorem c_weigh (hA : AlOK d cs al ns) (hd : d01 d) (hc : ∀ s, s < ns → (cs s).2.toInt ≤ 90) (hsl : 0 ≤ sl.toInt ∧ sl.toInt ≤ 30) (hah : allH d cs al ns = true) (nr : Nat) (kd : Nat → Nat) (hW : CW I sp ns nstr nc d cs fr to) (hr : I 75 1 = nI nr) (hr8 : nr ≤ 8) (hrk : ∀ r, r < nr → ¬ I 77 r < 0) (hkd : ∀ s, s < ns → kd s < 4 ∧ I (28 + 4 * s) 0 = nI (kd s)) (hwi : ∀ s, s < ns → 0 ≤ (I (28 + 4 * s) 2).toInt ∧ (I (28 + 4 * s) 2).toInt ≤ 6) (hF : FlC I ns d cs al sl) (K : Nat) (hK : 7 ^ ns = K) (l : List Nat) (ts : tU) (hts : tS (alN I nr ns) (coN I sp d ns) (nbN d cs al sl ns) K = ts) (hl : (lsT ts.1 2000000000 11).2 = l) (hQ : ∀ J, (∀ q i, ¬ (69 ≤ q ∧ q ≤ 74) → ¬ (80 ≤ q ∧ q ≤ 89) → J q i = I q i) → MkT J l ts ns → Q none (nn pl) (MM J sp pl)) : aRuns mX2_weigh (rK 4) [.ref 80, .ref 1, .ref 54, .ref 75] (nn pl) (MM I sp pl) Q := by
  have hs4 := hW.1.2
  have hK2 : K ≤ 2401 := by rw [← hK]; exact pow7 hs4
  have hmx := mxL_le (d := d) (cs := cs) hA.1 ns
  refine aRuns_of pn_X2_weigh (Nat.le_of_ble_eq_true rfl) (fun z => aE_loc (ls' := [_, _, _, _, _, _, _, _]) rfl ?_)
  have hW1 : CW (iu I 80 1 (nI ns)) sp ns nstr nc d cs fr to := CW_fr2 hW (fun q i h => iu_ne (by omega)) (fun hm a b ha hb => by
    have h8 := hW.2.1.2
    rw [iu_ne (by omega)] at hm ⊢
    exact hW.2.2.2.2.2.2.2.2.2.2.2 hm a b ha hb)
  have u : ∀ q i, q ≠ 80 → iu I 80 1 (nI ns) q i = I q i := fun q i h => iu_ne (by omega)
  have hlast := l_wg2 (z := z) (Q := Q) (pl := pl) nr kd (iu I 80 1 (nI ns)) hW1 iu_eq ((u 75 1 (by omega)).trans hr) hr8 (fun r h => by rw [u 77 r (by omega)]; exact hrk r h) (fun s hs => ⟨(hkd s hs).1, (u _ _ (by omega)).trans (hkd s hs).2⟩) (fun J l5 l6 l7 j1 j2 => ?_) ns 0 (by omega) (iu I 80 1 (nI ns))
  · skip
    refine aE_aload_n dX2_weigh_0 rfl rfl ?_
    refine aE_aload_n dX2_weigh_1 rfl rfl ?_
    refine aE_geti dX2_weigh_2 fw_X2_29 (lt_nn (by decide)) rfl (by decide) rfl ?_
    refine aE_top hW.1.1 ?_
    refine aE_puti dX2_weigh_5 fp_X2_35 (Or.inl rfl) (lt_nn (by decide)) rfl (fun _ => ⟨rfl, rfl⟩) (by decide) rfl ?_
    refine aE_iconst (v := 1) dX2_weigh_8 rfl ?_
    refine aE_istore dX2_weigh_9 (by decide) rfl (aE_loc (ls' := [_, _, _, _, _, _, _, _]) rfl ?_)
    refine aE_iconst (v := 0) dX2_weigh_11 rfl ?_
    refine aE_istore dX2_weigh_12 (by decide) rfl (aE_loc (ls' := [_, _, _, _, _, _, _, _]) rfl ?_)
    exact hlast _ _ (fun _ _ _ => rfl) (fun s' b' h => absurd h.1 (by omega))
  · rw [hK]
    have hpr : ∀ s b, s < ns → b < 7 → J (85 + s) b = if gCl I nr s b then pCl I sp d s b else -1 := fun s b h1 h2 => by
      have h := j2 s b ⟨h1, h2⟩
      have e0 : ∀ k, k < 10 → ∀ i, iu I 80 1 (nI ns) (sp k) i = I (sp k) i := fun k hk i => u _ _ (by have := hW.2.2.2.2.2.2.2.1 k hk; omega)
      rw [h]
      unfold gCl pCl
      rw [show iu I 80 1 (nI ns) 77 = I 77 from funext fun i => u 77 i (by omega), show iu I 80 1 (nI ns) 78 = I 78 from funext fun i => u 78 i (by omega), show iu I 80 1 (nI ns) 79 = I 79 from funext fun i => u 79 i (by omega)]
      have h10 := hW.2.2.2.2.2.2.1.2
      have hsum : sumS (fun k => iu I 80 1 (nI ns) (sp k) 0) (fun k => iu I 80 1 (nI ns) (sp k) 2) (nI s) d.1 = sumS (fun k => I (sp k) 0) (fun k => I (sp k) 2) (nI s) d.1 := sumS_cg d.1 (fun k hk => ⟨e0 k (by omega) 0, e0 k (by omega) 2⟩)
      simp only [u (28 + 4 * s) 0 (by omega), u (28 + 4 * s) 2 (by omega), hsum]
    have hJf : ∀ q i, ¬ (80 ≤ q ∧ q ≤ 89) → J q i = I q i := fun q i h => (j1 q i (by omega)).trans (u q i (by omega))
    have hf : ∀ q i, q ≠ 82 → fillI J 82 1000000 11 q i = J q i := fun q i h => by rw [fillI_eq]; dsimp only; rw [if_neg (by omega)]
    have hf82 : ∀ k, k < 11 → fillI J 82 1000000 11 82 k = 1000000 := fun k hk => by rw [fillI_eq]; dsimp only; rw [if_pos ⟨rfl, hk⟩]
    have hFJ : FlC (fillI J 82 1000000 11) ns d cs al sl := FlC_fr hA hF (fun q i h => (hf q i (by omega)).trans (hJf q i (by omega)))
    refine aE_aload_n dX2_weigh_97 rfl rfl ?_
    refine aE_getf (v := .ref 82) dX2_weigh_98 fw_X2_15 (lt_nn (by decide)) rfl rfl ?_
    refine aE_ldc dX2_weigh_101 ct_X2_56 ?_
    refine aE_cSv dX2_weigh_103 lk_X2_57 ms_J7_fill_53178 (c_fill 82 11 _ (lt_nn (by decide)) rfl (by decide)) rfl rfl ⟨by decide, by decide⟩ (Nat.le_of_ble_eq_true rfl) ⟨rfl, rfl⟩ ⟨by decide, by decide⟩ ?_
    refine aE_iconst (v := 0) dX2_weigh_106 rfl ?_
    refine aE_istore dX2_weigh_107 (by decide) rfl (aE_loc (ls' := [_, _, _, _, _, _, _, _]) rfl ?_)
    refine l_wg3 hA hd hc hsl hah (mxL d cs al ns) K nr (by omega) hs4 hK2 (gCl I nr) (pCl I sp d) (alN I nr ns) (coN I sp d ns) (fun _ => rfl) (fun _ => rfl) (fun c => (coN_b hW hwi c).1) (fun s b h1 h2 => (pCl_b hW hwi h1 h2).1) (fillI J 82 1000000 11) ((hf 80 1 (by omega)).trans ((j1 80 1 (by omega)).trans iu_eq)) (fun s b h1 h2 => (hf _ _ (by omega)).trans (hpr s b h1 h2)) hFJ hFJ.2.2.1 (fun X x1 x2 x3 l5 l6 l7 => ?_) K 0 (by omega) _ _ _ (fun _ _ _ _ _ _ => rfl) (fun k hk => hf82 k hk) (fun k hk x hx => by cases hx)
    refine aE_aload_n dX2_weigh_170 rfl rfl ?_
    refine aE_cVq dX2_weigh_171 lk_X2_84 mv_X2_list (c_list (Q := (fun (r : Option Value) (n' : Nat) (m' : aM) => r = none ∧ n' = nn pl ∧ ∃ Y, m' = MM Y sp pl ∧ (∀ q i, ¬ (q = 80 ∧ i = 0) → q ≠ 81 → Y q i = X q i) ∧ Y 80 0 = nI (lsT (fun k => X 82 k) 1000000 11).2.length ∧ (∀ (i n : Nat), (lsT (fun k => X 82 k) 1000000 11).2[i]? = some n → Y 81 i = nI n))) (fun Y a b c => ⟨rfl, rfl, Y, rfl, a, b, c⟩)) rfl (lt_nn (by decide)) rfl rfl ⟨by decide, by decide⟩ (Nat.le_of_ble_eq_true rfl) ⟨rfl, rfl⟩ ⟨by decide, by decide⟩ ?_
    rintro r n' m' ⟨rfl, rfl, Y, rfl, y1, y2, y3⟩
    refine aE_vret dX2_weigh_174 rfl ⟨by decide, by decide⟩ ?_
    refine hQ Y (fun q i a b => ?_) (MkT_of (J := Y) (fl := mxL d cs al ns) (by omega) (fun c _ => nbN_fl hA hd hc hsl hah c) (fun c _ => (coN_b hW hwi c).2) hts hl ?_ (fun k hk => (y1 82 k (by omega) (by omega)).trans (x2 k hk)) (fun k hk c hc2 => (y1 83 k (by omega) (by omega)).trans (x3 k hk c hc2)) ?_ ?_)
    · rw [y1 q i (by omega) (by omega), x1 q i (by omega) (by omega) (by omega) (by omega), hf q i (by omega)]
      exact hJf q i (by omega)
    · rw [y1 80 1 (by omega) (by omega), x1 80 1 (by omega) (by omega) (by omega) (by omega), hf 80 1 (by omega), j1 80 1 (by omega), iu_eq]
    · rw [y2, show (fun k => Y 82 k) = (fun k => X 82 k) from funext fun k => y1 82 k (by omega) (by omega)]
    · rw [show (fun k => Y 82 k) = (fun k => X 82 k) from funext fun k => y1 82 k (by omega) (by omega)]; exact y3
end CMKT2
