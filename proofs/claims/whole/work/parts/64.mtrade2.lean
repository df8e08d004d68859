theorem tsM_congr {I J : Nat → Nat → Int32} {d : pD} {cs : Nat → pC} {ns nr k : Nat} (h : ∀ q i, q < 121 → (q = 101 → i = 9) → J q i = I q i) : tsM J d cs ns nr k = tsM I d cs ns nr k := by
  have e0 : J 110 = I 110 := funext fun i => h 110 i (by omega) (by omega)
  have e1 : alM J d = alM I d := by unfold alM; rw [e0]
  have e2 : alW J nr ns = alW I nr ns := by
    funext c
    unfold alW alG
    rw [show J 106 = I 106 from funext fun i => h 106 i (by omega) (by omega), show J 114 = I 114 from funext fun i => h 114 i (by omega) (by omega), show J 115 = I 115 from funext fun i => h 115 i (by omega) (by omega), show J 116 = I 116 from funext fun i => h 116 i (by omega) (by omega)]
  have e3 : coM J d ns = coM I d ns := by
    funext c
    unfold coM trP
    rw [e0, show J 112 = I 112 from funext fun i => h 112 i (by omega) (by omega), show J 109 = I 109 from funext fun i => h 109 i (by omega) (by omega)]
  have e4 : nbM J d cs ns = nbM I d cs ns := by
    funext c
    unfold nbM
    rw [e1, h 101 9 (by omega) (by omega)]
  unfold tsM
  rw [e2, e3, e4]
theorem TRM_congr {I J K : Nat → Nat → Int32} {d : pD} {cs : Nat → pC} {ns nr k : Nat} (h : ∀ q i, q < 121 → (q = 101 → i = 9) → J q i = I q i) (ht : TRM J K d cs ns nr k) : TRM I K d cs ns nr k := by
  unfold TRM lsM at *
  rw [tsM_congr h] at ht
  exact ht
theorem TRM_fr {I J K : Nat → Nat → Int32} {d : pD} {cs : Nat → pC} {ns nr k : Nat} (ht : TRM I J d cs ns nr k) (h : ∀ q i, (140 ≤ q ∧ q ≤ 142) ∨ (q = 101 ∧ i = 56) → K q i = J q i) : TRM I K d cs ns nr k :=
  ⟨(h 101 56 (by omega)).trans ht.1, fun i n hi => by
    obtain ⟨a, b, c⟩ := ht.2 i n hi
    exact ⟨(h 140 i (by omega)).trans a, (h 141 i (by omega)).trans b, fun c' hc s hs => (h 142 _ (by omega)).trans (c c' hc s hs)⟩⟩
def FrT (I J : Nat → Nat → Int32) : Prop := (∀ q i, ¬ (121 ≤ q ∧ q ≤ 143) → ¬ (q = 101 ∧ (i = 29 ∨ i = 30 ∨ i = 42 ∨ i = 43 ∨ i = 56)) → J q i = I q i) ∧ ¬ J 101 29 = 0
theorem nI_m2 (x : Nat) : nI (x + 2) - 2 = nI x := by
  rw [← nI_add x 2, show nI 2 = 2 from rfl, Int32.add_sub_cancel]
section MTR2
variable {z : Nat × (Nat → Int32)} {n : Nat} {mem : aM} {I : Nat → Nat → Int32} {sp : Nat → Nat} {pl : Bool} {Q : Option Value → Nat → aM → Prop} {R : Room}
theorem l_t6 (k len : Nat) (hk : k < 11) (hl : len < 11) (l1 l2 l5 l6 l7 : Option Value) (I0 : Nat → Nat → Int32) (hlen : I0 101 56 = nI len) (k0 : ∀ J l4, (∀ q i, q ≠ 142 → J q i = I0 q i) → (∀ i, ¬ (4 * len ≤ i ∧ i < 4 * len + 4) → J 142 i = I0 142 i) → (∀ s, s < 4 → J 142 (4 * len + s) = I0 143 (4 * k + s)) → aE z mX12_findTrades (rK 6) Q 340 [some (.ref 101), l1, l2, some (.int (nI k)), l4, l5, l6, l7] [] (nn pl) (MM J sp pl) 0 0) : ∀ (e s : Nat) (I : Nat → Nat → Int32), s + e = 4 → (∀ q i, q ≠ 142 → I q i = I0 q i) → (∀ i, ¬ (4 * len ≤ i ∧ i < 4 * len + 4) → I 142 i = I0 142 i) → (∀ j, j < s → I 142 (4 * len + j) = I0 143 (4 * k + j)) → aE z mX12_findTrades (rK 6) Q 303 [some (.ref 101), l1, l2, some (.int (nI k)), some (.int (nI s)), l5, l6, l7] [] (nn pl) (MM I sp pl) 0 0 := by
  intro e
  induction e with
  | zero =>
    intro s I hs h1 h2 h3
    have hs : s = 4 := by omega
    subst hs
    refine aE_iload dX12_findTrades_303 rfl ?_
    refine aE_iconst (v := 4) dX12_findTrades_305 rfl ?_
    refine aE_icmp_ge (tgt := 340) dX12_findTrades_306 (by decide) (fun h306 => ?_) (fun h306 => absurd (Int32.le_refl _) h306)
    exact k0 I _ h1 h2 h3
  | succ e ih =>
    intro s I hs h1 h2 h3
    refine aE_iload dX12_findTrades_303 rfl ?_
    refine aE_iconst (v := 4) dX12_findTrades_305 rfl ?_
    refine aE_icmp_ge (tgt := 340) dX12_findTrades_306 (by decide) (fun h306 => absurd h306 (nI_ge (b := 4) (by omega) (by omega))) (fun h306 => ?_)
    refine aE_aload_n dX12_findTrades_309 rfl rfl ?_
    refine aE_getf (v := .ref 142) dX12_findTrades_310 fw_X12_138 (lt_nn (by decide)) rfl rfl ?_
    refine aE_iconst (v := 4) dX12_findTrades_313 rfl ?_
    refine aE_aload_n dX12_findTrades_314 rfl rfl ?_
    refine aE_geti dX12_findTrades_315 fw_X12_305 (lt_nn (by decide)) rfl (by decide) rfl ?_
    refine aE_top (x' := nI len) ((h1 101 56 (by decide)).trans hlen) ?_
    refine aE_imul dX12_findTrades_318 ?_
    refine aE_top (x' := nI (4 * len)) (by rw [show (4 : Int32) = nI 4 from rfl, pk_mul]) ?_
    refine aE_iload dX12_findTrades_319 rfl ?_
    refine aE_iadd dX12_findTrades_321 ?_
    refine aE_top (nI_add _ _) ?_
    refine aE_aload_n dX12_findTrades_322 rfl rfl ?_
    refine aE_getf (v := .ref 143) dX12_findTrades_323 fw_X12_141 (lt_nn (by decide)) rfl rfl ?_
    refine aE_iconst (v := 4) dX12_findTrades_326 rfl ?_
    refine aE_iload_n dX12_findTrades_327 rfl rfl ?_
    refine aE_imul dX12_findTrades_328 ?_
    refine aE_top (x' := nI (4 * k)) (by rw [show (4 : Int32) = nI 4 from rfl, pk_mul]) ?_
    refine aE_iload dX12_findTrades_329 rfl ?_
    refine aE_iadd dX12_findTrades_331 ?_
    refine aE_top (nI_add _ _) ?_
    refine aE_ildM dX12_findTrades_332 (lt_nn (by decide)) rfl (by decide) rfl (by omega) ?_
    refine aE_top (h1 143 _ (by decide)) ?_
    refine aE_istM dX12_findTrades_333 (lt_nn (by decide)) rfl (by decide) rfl (by omega) ?_
    refine aE_iinc dX12_findTrades_334 rfl (a_inc _) (by decide) rfl (aE_loc (ls' := [_, _, _, _, _, _, _, _]) rfl ?_)
    refine aE_goto (tgt := 303) dX12_findTrades_337 (by decide) ?_
    refine ih (s + 1) _ (by omega) (fun q i hq => (iu_ne (by omega)).trans (h1 q i hq)) (fun i hi => (iu_ne (by omega)).trans (h2 i hi)) (fun j hj => ?_)
    by_cases e : j = s
    · subst e; exact iu_eq
    · exact (iu_ne (by omega)).trans (h3 j (by omega))
theorem l_t5 (ns nr : Nat) (d : pD) (cs : Nat → pC) (I0 Jc : Nat → Nat → Int32) (hs4 : ns ≤ 4) (hT : TI I0 Jc d cs ns nr (7 ^ ns)) (x1 : Int32) (hQ : ∀ J, (∀ q i, ¬ (140 ≤ q ∧ q ≤ 142) → ¬ (q = 101 ∧ i = 56) → J q i = Jc q i) → TRM I0 J d cs ns nr 11 → qi Q (if (lsM I0 d cs ns nr 11).2.length = 0 then 0 else 1) J sp pl) : ∀ (e k : Nat) (I : Nat → Nat → Int32) (l4 l5 l6 l7 : Option Value), k + e = 11 → (∀ q i, ¬ (140 ≤ q ∧ q ≤ 142) → ¬ (q = 101 ∧ i = 56) → I q i = Jc q i) → TRM I0 I d cs ns nr k → aE z mX12_findTrades (rK 6) Q 254 [some (.ref 101), some (.int x1), some (.int (lsM I0 d cs ns nr k).1), some (.int (nI k)), l4, l5, l6, l7] [] (nn pl) (MM I sp pl) 0 0 := by
  intro e
  induction e with
  | zero =>
    intro k I l4 l5 l6 l7 hk hfr hTR
    have hk : k = 11 := by omega
    subst hk
    have hll : (lsM I0 d cs ns nr 11).2.length ≤ 11 := lsT_len _ _ 11
    refine aE_iload_n dX12_findTrades_254 rfl rfl ?_
    refine aE_bipush (v := 11) dX12_findTrades_255 (by decide) ?_
    refine aE_icmp_ge (tgt := 356) dX12_findTrades_257 (by decide) (fun h257 => ?_) (fun h257 => absurd (Int32.le_refl _) h257)
    refine aE_aload_n dX12_findTrades_356 rfl rfl ?_
    refine aE_geti dX12_findTrades_357 fw_X12_305 (lt_nn (by decide)) rfl (by decide) rfl ?_
    refine aE_top hTR.1 ?_
    refine aE_if_le (tgt := 367) dX12_findTrades_360 (by decide) (fun h360 => ?_) (fun h360 => ?_)
    · skip
      have h0 : (lsM I0 d cs ns nr 11).2.length = 0 := by
        rcases Nat.eq_zero_or_pos (lsM I0 d cs ns nr 11).2.length with q | q
        · exact q
        · exact absurd h360 (nI_nle q (by omega))
      refine aE_iconst (v := 0) dX12_findTrades_367 rfl ?_
      refine aE_zret dX12_findTrades_368 rfl (by first | exact Or.inl rfl | exact Or.inr rfl | exact wi_or _ _ _ | assumption) ⟨by decide, by decide⟩ ?_
      have hq := hQ I hfr hTR
      first | (rw [if_pos h0] at hq; exact hq) | (rw [if_neg h0] at hq; exact hq)
    · skip
      have h0 : ¬ (lsM I0 d cs ns nr 11).2.length = 0 := fun q => h360 (by rw [q]; decide)
      refine aE_iconst (v := 1) dX12_findTrades_363 rfl ?_
      refine aE_goto (tgt := 368) dX12_findTrades_364 (by decide) ?_
      refine aE_zret dX12_findTrades_368 rfl (by first | exact Or.inl rfl | exact Or.inr rfl | exact wi_or _ _ _ | assumption) ⟨by decide, by decide⟩ ?_
      have hq := hQ I hfr hTR
      first | (rw [if_pos h0] at hq; exact hq) | (rw [if_neg h0] at hq; exact hq)
  | succ e ih =>
    intro k I l4 l5 l6 l7 hk hfr hTR
    have hll : (lsM I0 d cs ns nr k).2.length ≤ k := lsT_len _ _ k
    have hb : I 139 k = (tsM I0 d cs ns nr (7 ^ ns)).1 k := (hfr 139 k (by omega) (by omega)).trans (hT.2.1 k (by omega))
    have es : (lsM I0 d cs ns nr (k + 1)) = if (tsM I0 d cs ns nr (7 ^ ns)).1 k < (lsM I0 d cs ns nr k).1 then ((tsM I0 d cs ns nr (7 ^ ns)).1 k, (lsM I0 d cs ns nr k).2 ++ [k]) else (lsM I0 d cs ns nr k) := rfl
    have next : ∀ J (x : Int32) l4 l5 l6 l7, x = (lsM I0 d cs ns nr (k + 1)).1 → (∀ q i, ¬ (140 ≤ q ∧ q ≤ 142) → ¬ (q = 101 ∧ i = 56) → J q i = Jc q i) → TRM I0 J d cs ns nr (k + 1) → aE z mX12_findTrades (rK 6) Q 350 [some (.ref 101), some (.int x1), some (.int x), some (.int (nI k)), l4, l5, l6, l7] [] (nn pl) (MM J sp pl) 0 0 := by
      intro J x l4 l5 l6 l7 hx h1 h2
      subst hx
      refine aE_iinc dX12_findTrades_350 rfl (a_inc _) (by decide) rfl (aE_loc (ls' := [_, _, _, _, _, _, _, _]) rfl ?_)
      refine aE_goto (tgt := 254) dX12_findTrades_353 (by decide) ?_
      exact ih (k + 1) J _ _ _ _ (by omega) h1 h2
    refine aE_iload_n dX12_findTrades_254 rfl rfl ?_
    refine aE_bipush (v := 11) dX12_findTrades_255 (by decide) ?_
    refine aE_icmp_ge (tgt := 356) dX12_findTrades_257 (by decide) (fun h257 => absurd h257 (nI_ge (b := 11) (by omega) (by omega))) (fun h257 => ?_)
    refine aE_aload_n dX12_findTrades_260 rfl rfl ?_
    refine aE_getf (v := .ref 139) dX12_findTrades_261 fw_X12_129 (lt_nn (by decide)) rfl rfl ?_
    refine aE_iload_n dX12_findTrades_264 rfl rfl ?_
    refine aE_ildM dX12_findTrades_265 (lt_nn (by decide)) rfl (by decide) rfl (by omega) ?_
    refine aE_top hb ?_
    refine aE_iload_n dX12_findTrades_266 rfl rfl ?_
    refine aE_icmp_lt (tgt := 273) dX12_findTrades_267 (by decide) (fun h267 => ?_) (fun h267 => ?_)
    · skip
      have es2 : (lsM I0 d cs ns nr (k + 1)) = ((tsM I0 d cs ns nr (7 ^ ns)).1 k, (lsM I0 d cs ns nr k).2 ++ [k]) := es.trans (if_pos h267)
      refine aE_aload_n dX12_findTrades_273 rfl rfl ?_
      refine aE_getf (v := .ref 139) dX12_findTrades_274 fw_X12_129 (lt_nn (by decide)) rfl rfl ?_
      refine aE_iload_n dX12_findTrades_277 rfl rfl ?_
      refine aE_ildM dX12_findTrades_278 (lt_nn (by decide)) rfl (by decide) rfl (by omega) ?_
      refine aE_top hb ?_
      refine aE_istore_n dX12_findTrades_279 rfl (by decide) rfl (aE_loc (ls' := [_, _, _, _, _, _, _, _]) rfl ?_)
      refine aE_aload_n dX12_findTrades_280 rfl rfl ?_
      refine aE_getf (v := .ref 140) dX12_findTrades_281 fw_X12_132 (lt_nn (by decide)) rfl rfl ?_
      refine aE_aload_n dX12_findTrades_284 rfl rfl ?_
      refine aE_geti dX12_findTrades_285 fw_X12_305 (lt_nn (by decide)) rfl (by decide) rfl ?_
      refine aE_top hTR.1 ?_
      refine aE_iload_n dX12_findTrades_288 rfl rfl ?_
      refine aE_istM dX12_findTrades_289 (lt_nn (by decide)) rfl (by decide) rfl (by omega) ?_
      refine aE_aload_n dX12_findTrades_290 rfl rfl ?_
      refine aE_getf (v := .ref 141) dX12_findTrades_291 fw_X12_135 (lt_nn (by decide)) rfl rfl ?_
      refine aE_aload_n dX12_findTrades_294 rfl rfl ?_
      refine aE_geti dX12_findTrades_295 fw_X12_305 (lt_nn (by decide)) rfl (by decide) rfl ?_
      refine aE_top (x' := nI (lsM I0 d cs ns nr k).2.length) ((iu_ne (by omega)).trans hTR.1) ?_
      refine aE_iload_n dX12_findTrades_298 rfl rfl ?_
      refine aE_istM dX12_findTrades_299 (lt_nn (by decide)) rfl (by decide) rfl (by omega) ?_
      refine aE_iconst (v := 0) dX12_findTrades_300 rfl ?_
      refine aE_istore dX12_findTrades_301 (by decide) rfl (aE_loc (ls' := [_, _, _, _, _, _, _, _]) rfl ?_)
      obtain ⟨K0, hK0⟩ : ∃ K0, iu (iu I 140 (lsM I0 d cs ns nr k).2.length (nI k)) 141 (lsM I0 d cs ns nr k).2.length ((tsM I0 d cs ns nr (7 ^ ns)).1 k) = K0 := ⟨_, rfl⟩
      refine aE_I hK0 ?_
      have g0 : ∀ q i, ¬ (140 ≤ q ∧ q ≤ 141) → K0 q i = I q i := fun q i h => by rw [← hK0, iu_ne (by omega), iu_ne (by omega)]
      have g1 : ∀ i, i ≠ (lsM I0 d cs ns nr k).2.length → K0 140 i = I 140 i ∧ K0 141 i = I 141 i := fun i hi => by
        rw [← hK0]; exact ⟨by rw [iu_ne (by omega), iu_ne (by omega)], by rw [iu_ne (by omega), iu_ne (by omega)]⟩
      have g2 : K0 140 (lsM I0 d cs ns nr k).2.length = nI k ∧ K0 141 (lsM I0 d cs ns nr k).2.length = (tsM I0 d cs ns nr (7 ^ ns)).1 k := by
        rw [← hK0]; exact ⟨by rw [iu_ne (by omega), iu_eq], by rw [iu_eq]⟩
      refine l_t6 k (lsM I0 d cs ns nr k).2.length (by omega) (by omega) _ _ _ _ _ K0 ((g0 101 56 (by omega)).trans hTR.1) (fun J l4 j1 j2 j3 => ?_) 4 0 K0 (by omega) (fun _ _ _ => rfl) (fun _ _ => rfl) (fun j hj => absurd hj (by omega))
      have hJ56 : J 101 56 = nI (lsM I0 d cs ns nr k).2.length := (j1 101 56 (by decide)).trans ((g0 101 56 (by omega)).trans hTR.1)
      refine aE_aload_n dX12_findTrades_340 rfl rfl ?_
      refine aE_dup dX12_findTrades_341 rfl ?_
      refine aE_geti dX12_findTrades_342 fw_X12_305 (lt_nn (by decide)) rfl (by decide) rfl ?_
      refine aE_top hJ56 ?_
      refine aE_iconst (v := 1) dX12_findTrades_345 rfl ?_
      refine aE_iadd dX12_findTrades_346 ?_
      refine aE_top (nI_1 _) ?_
      refine aE_puti dX12_findTrades_347 fp_X12_305 (Or.inl rfl) (lt_nn (by decide)) rfl (fun _ => ⟨rfl, rfl⟩) (by decide) rfl ?_
      refine next _ _ _ _ _ _ (by rw [es2]) (fun q i h1 h2 => (iu_ne (by omega)).trans ((j1 q i (by omega)).trans ((g0 q i (by omega)).trans (hfr q i h1 h2)))) ?_
      unfold TRM
      rw [es2]
      refine ⟨by rw [iu_eq]; simp, fun i n hi => ?_⟩
      rcases gE_app hi with w | ⟨w1, w2⟩
      · have hil := (List.getElem?_eq_some_iff.mp w).1
        obtain ⟨a, b, c⟩ := hTR.2 i n w
        obtain ⟨g3, g4⟩ := g1 i (by omega)
        refine ⟨?_, ?_, fun c' hc s hs => ?_⟩
        · rw [iu_ne (by omega), j1 140 i (by decide), g3]; exact a
        · rw [iu_ne (by omega), j1 141 i (by decide), g4]; exact b
        · rw [iu_ne (by omega), j2 _ (by omega), g0 142 _ (by omega)]; exact c c' hc s hs
      · subst w1 w2
        refine ⟨?_, ?_, fun c' hc s hs => ?_⟩
        · rw [iu_ne (by omega), j1 140 _ (by decide)]; exact g2.1
        · rw [iu_ne (by omega), j1 141 _ (by decide)]; exact g2.2
        · rw [iu_ne (by omega), j3 s (by omega), g0 143 _ (by omega), hfr 143 _ (by omega) (by omega)]
          exact hT.2.2 n (by omega) c' hc s hs
    · skip
      refine aE_goto (tgt := 350) dX12_findTrades_270 (by decide) ?_
      have es2 : (lsM I0 d cs ns nr (k + 1)) = (lsM I0 d cs ns nr k) := es.trans (if_neg h267)
      refine next I _ _ _ _ _ (by rw [es2]) hfr ?_
      unfold TRM
      rw [es2]
      exact hTR
theorem l_t1 (I0 : Nat → Nat → Int32) (l2 l3 l4 l5 l6 l7 : Option Value) (k0 : ∀ J, (∀ q i, q ≠ 139 → J q i = I0 q i) → (∀ n, n < 11 → J 139 n = 2000000000) → aE z mX12_findTrades (rK 6) Q 66 [some (.ref 101), some (.int (nI 11)), l2, l3, l4, l5, l6, l7] [] (nn pl) (MM J sp pl) 0 0) : ∀ (e k : Nat) (I : Nat → Nat → Int32), k + e = 11 → (∀ q i, q ≠ 139 → I q i = I0 q i) → (∀ n, n < k → I 139 n = 2000000000) → aE z mX12_findTrades (rK 6) Q 45 [some (.ref 101), some (.int (nI k)), l2, l3, l4, l5, l6, l7] [] (nn pl) (MM I sp pl) 0 0 := by
  intro e
  induction e with
  | zero =>
    intro k I hk h1 h2
    have hk : k = 11 := by omega
    subst hk
    refine aE_iload_n dX12_findTrades_45 rfl rfl ?_
    refine aE_bipush (v := 11) dX12_findTrades_46 (by decide) ?_
    refine aE_icmp_ge (tgt := 66) dX12_findTrades_48 (by decide) (fun h48 => ?_) (fun h48 => absurd (Int32.le_refl _) h48)
    exact k0 I h1 h2
  | succ e ih =>
    intro k I hk h1 h2
    refine aE_iload_n dX12_findTrades_45 rfl rfl ?_
    refine aE_bipush (v := 11) dX12_findTrades_46 (by decide) ?_
    refine aE_icmp_ge (tgt := 66) dX12_findTrades_48 (by decide) (fun h48 => absurd h48 (nI_ge (b := 11) (by omega) (by omega))) (fun h48 => ?_)
    refine aE_aload_n dX12_findTrades_51 rfl rfl ?_
    refine aE_getf (v := .ref 139) dX12_findTrades_52 fw_X12_129 (lt_nn (by decide)) rfl rfl ?_
    refine aE_iload_n dX12_findTrades_55 rfl rfl ?_
    refine aE_ldcw dX12_findTrades_56 ct_X12_308 ?_
    refine aE_istM dX12_findTrades_59 (lt_nn (by decide)) rfl (by decide) rfl (by omega) ?_
    refine aE_iinc dX12_findTrades_60 rfl (a_inc _) (by decide) rfl (aE_loc (ls' := [_, _, _, _, _, _, _, _]) rfl ?_)
    refine aE_goto (tgt := 45) dX12_findTrades_63 (by decide) ?_
    refine ih (k + 1) _ (by omega) (fun q i hq => (iu_ne (by omega)).trans (h1 q i hq)) (fun n hn => ?_)
    by_cases e : n = k
    · subst e; exact iu_eq
    · exact (iu_ne (by omega)).trans (h2 n (by omega))
theorem l_t2 (ns : Nat) (hns : I 101 2 = nI ns) (hs4 : ns ≤ 4) (l3 l4 l5 l6 l7 : Option Value) (k0 : aE z mX12_findTrades (rK 6) Q 89 [some (.ref 101), some (.int (nI (7 ^ ns))), some (.int (nI ns)), l3, l4, l5, l6, l7] [] (nn pl) (MM I sp pl) 0 0) : ∀ (e s : Nat), s + e = ns → aE z mX12_findTrades (rK 6) Q 70 [some (.ref 101), some (.int (nI (7 ^ s))), some (.int (nI s)), l3, l4, l5, l6, l7] [] (nn pl) (MM I sp pl) 0 0 := by
  intro e
  induction e with
  | zero =>
    intro s hs
    have hs : s = ns := by omega
    subst hs
    refine aE_iload_n dX12_findTrades_70 rfl rfl ?_
    refine aE_aload_n dX12_findTrades_71 rfl rfl ?_
    refine aE_geti dX12_findTrades_72 fw_X12_163 (lt_nn (by decide)) rfl (by decide) rfl ?_
    refine aE_icmp_ge (tgt := 89) dX12_findTrades_75 (by decide) (fun h75 => ?_) (fun h75 => absurd (by rw [hns]; exact Int32.le_refl _) h75)
    exact k0
  | succ e ih =>
    intro s hs
    refine aE_iload_n dX12_findTrades_70 rfl rfl ?_
    refine aE_aload_n dX12_findTrades_71 rfl rfl ?_
    refine aE_geti dX12_findTrades_72 fw_X12_163 (lt_nn (by decide)) rfl (by decide) rfl ?_
    refine aE_icmp_ge (tgt := 89) dX12_findTrades_75 (by decide) (fun h75 => absurd h75 (by rw [hns]; exact nI_ge (by omega) (by omega))) (fun h75 => ?_)
    refine aE_iload_n dX12_findTrades_78 rfl rfl ?_
    refine aE_bipush (v := 7) dX12_findTrades_79 (by decide) ?_
    refine aE_imul dX12_findTrades_81 ?_
    refine aE_top (x' := nI (7 ^ (s + 1))) (by rw [show (7 : Int32) = nI 7 from rfl, pk_mul, Nat.pow_succ]) ?_
    refine aE_istore_n dX12_findTrades_82 rfl (by decide) rfl (aE_loc (ls' := [_, _, _, _, _, _, _, _]) rfl ?_)
    refine aE_iinc dX12_findTrades_83 rfl (a_inc _) (by decide) rfl (aE_loc (ls' := [_, _, _, _, _, _, _, _]) rfl ?_)
    refine aE_goto (tgt := 70) dX12_findTrades_86 (by decide) ?_
    exact ih (s + 1) (by omega)
theorem m_findTrades (ns nstr nc : Nat) (d : pD) (cs : Nat → pC) (fr to : Nat → Nat) (hW : MW I ns nstr nc d cs fr to) (hst : ¬ I 101 29 = 0 → PlM I d cs (alM I d) ns) (nr : Nat) (hr : I 101 4 = nI nr) (hr8 : nr ≤ 8) (hstT : ¬ I 101 30 = 0 → TRM I I d cs ns nr 11) (hN : ∀ J, FrT I J → MS J ns d cs (alM I d) → (¬ J 101 30 = 0 → TRM I J d cs ns nr 11) → allH d cs (alM I d) ns = false → qi Q 0 J sp pl) (hO : ∀ J, FrT I J → MS J ns d cs (alM I d) → ¬ J 101 30 = 0 → TRM I J d cs ns nr 11 → allH d cs (alM I d) ns = true → qi Q (if (lsM I d cs ns nr 11).2.length = 0 then 0 else 1) J sp pl) : aRuns mX12_findTrades (rK 6) [.ref 101] (nn pl) (MM I sp pl) Q := by
  refine aRuns_of pn_X12_findTrades (Nat.le_of_ble_eq_true rfl) (fun z => aE_loc (ls' := [_, _, _, _, _, _, _, _]) rfl ?_)
  have hs4 := hW.2.1
  refine aE_aload_n dX12_findTrades_0 rfl rfl ?_
  refine aE_cVq dX12_findTrades_1 lk_X12_243 mv_X12_plan (m_planS (Q := (fun (r : Option Value) (n' : Nat) (m' : aM) => r = none ∧ n' = nn pl ∧ ∃ J, m' = MM J sp pl ∧ FrP I J ∧ MS J ns d cs (alM I d))) ns nstr nc d cs fr to hW hst (fun J h1 h2 => ⟨rfl, rfl, J, rfl, h1, h2⟩)) rfl (lt_nn (by decide)) rfl rfl ⟨by decide, by decide⟩ (Nat.le_of_ble_eq_true rfl) ⟨rfl, rfl⟩ ⟨by decide, by decide⟩ ?_
  rintro r n' m' ⟨rfl, rfl, J, rfl, hJ, hM⟩
  have hha : J 101 43 = if allH d cs (alM I d) ns then 1 else 0 := hM.2.2.2.2.1.2.2.2.2
  have hll : J 101 42 = nI (RR d cs (alM I d) ns).length := hM.2.2.2.2.1.2.2.1.1
  have hl10 := hM.2.2.2.2.2.2.1
  have hJT : FrT I J := ⟨fun q i h1 h2 => hJ.1 q i (by omega) (by omega), hJ.2⟩
  have hJ30 : J 101 30 = I 101 30 := hJ.1 101 30 (by omega) (by omega)
  have hTJ : ¬ J 101 30 = 0 → TRM I J d cs ns nr 11 := fun q => TRM_fr (hstT (hJ30 ▸ q)) (fun q i h => hJ.1 q i (by omega) (by omega))
  refine aE_aload_n dX12_findTrades_4 rfl rfl ?_
  refine aE_geti dX12_findTrades_5 fw_X12_233 (lt_nn (by decide)) rfl (by decide) rfl ?_
  refine aE_top hha ?_
  refine aE_if_ne (tgt := 13) dX12_findTrades_8 (by decide) (fun h8 => ?_) (fun h8 => ?_)
  · skip
    have hah := (Classical.byContradiction (fun q => by rw [if_neg q] at h8; exact h8 rfl))
    refine aE_aload_n dX12_findTrades_13 rfl rfl ?_
    refine aE_geti dX12_findTrades_14 fw_X12_173 (lt_nn (by decide)) rfl (by decide) rfl ?_
    refine aE_if_eq (tgt := 33) dX12_findTrades_17 (by decide) (fun h17 => ?_) (fun h17 => ?_)
    · skip
      refine aE_aload_n dX12_findTrades_33 rfl rfl ?_
      refine aE_iconst (v := 1) dX12_findTrades_34 rfl ?_
      refine aE_puti dX12_findTrades_35 fp_X12_173 (Or.inl rfl) (lt_nn (by decide)) rfl (fun _ => a_narZ (by first | exact Or.inl rfl | exact Or.inr rfl | assumption)) (by decide) rfl ?_
      refine aE_aload_n dX12_findTrades_38 rfl rfl ?_
      refine aE_iconst (v := 0) dX12_findTrades_39 rfl ?_
      refine aE_puti dX12_findTrades_40 fp_X12_305 (Or.inl rfl) (lt_nn (by decide)) rfl (fun _ => ⟨rfl, rfl⟩) (by decide) rfl ?_
      refine aE_iconst (v := 0) dX12_findTrades_43 rfl ?_
      refine aE_istore_n dX12_findTrades_44 rfl (by decide) rfl (aE_loc (ls' := [_, _, _, _, _, _, _, _]) rfl ?_)
      obtain ⟨I0, hI0⟩ : ∃ I0, iu (iu J 101 30 1) 101 56 0 = I0 := ⟨_, rfl⟩
      refine aE_I hI0 ?_
      have g0 : ∀ q i, ¬ (q = 101 ∧ (i = 30 ∨ i = 56)) → I0 q i = J q i := fun q i h => by rw [← hI0, iu_ne (by omega), iu_ne (by omega)]
      have g30 : I0 101 30 = 1 := by rw [← hI0, iu_ne (by omega), iu_eq]
      have g56 : I0 101 56 = 0 := by rw [← hI0, iu_eq]
      have gI : ∀ q i, q < 121 → (q = 101 → i = 9) → I0 q i = I q i := fun q i h1 h2 => (g0 q i (by omega)).trans (hJ.1 q i (by omega) (by omega))
      have hM0 : MS I0 ns d cs (alM I d) := MS_fr hM (fun q i h1 h2 => g0 q i (by omega)) |> fun h => h
      have hal0 : alM I d = alM I0 d := by unfold alM; rw [show I0 110 = I 110 from funext fun i => gI 110 i (by omega) (by omega)]
      refine l_t1 I0 _ _ _ _ _ _ (fun J1 a1 a2 => ?_) 11 0 I0 (by omega) (fun _ _ _ => rfl) (fun n hn => absurd hn (by omega))
      refine aE_iconst (v := 1) dX12_findTrades_66 rfl ?_
      refine aE_istore_n dX12_findTrades_67 rfl (by decide) rfl (aE_loc (ls' := [_, _, _, _, _, _, _, _]) rfl ?_)
      refine aE_iconst (v := 0) dX12_findTrades_68 rfl ?_
      refine aE_istore_n dX12_findTrades_69 rfl (by decide) rfl (aE_loc (ls' := [_, _, _, _, _, _, _, _]) rfl ?_)
      refine l_t2 ns ((a1 101 2 (by decide)).trans hM0.1) hs4 _ _ _ _ _ ?_ ns 0 (by omega)
      refine aE_iconst (v := 0) dX12_findTrades_89 rfl ?_
      refine aE_istore_n dX12_findTrades_90 rfl (by decide) rfl (aE_loc (ls' := [_, _, _, _, _, _, _, _]) rfl ?_)
      refine l_t3 ns nr d cs (alM I d) I0 hM0 hal0 ((g0 101 4 (by omega)).trans ((hJ.1 101 4 (by omega) (by omega)).trans hr)) hr8 (fun J2 l3 l4 l5 l6 l7 hT2 => ?_) (7 ^ ns) 0 J1 _ _ _ _ _ (by omega) ⟨fun q i b1 b2 b3 b4 => a1 q i (by omega), fun n hn => a2 n hn, fun n hn c' hc' => by cases hc'⟩
      refine aE_ldcw dX12_findTrades_248 ct_X12_308 ?_
      refine aE_istore_n dX12_findTrades_251 rfl (by decide) rfl (aE_loc (ls' := [_, _, _, _, _, _, _, _]) rfl ?_)
      refine aE_iconst (v := 0) dX12_findTrades_252 rfl ?_
      refine aE_istore_n dX12_findTrades_253 rfl (by decide) rfl (aE_loc (ls' := [_, _, _, _, _, _, _, _]) rfl ?_)
      refine l_t5 ns nr d cs I0 J2 hs4 hT2 _ (fun K k1 k2 => ?_) 11 0 J2 _ _ _ _ (by omega) (fun _ _ _ _ => rfl) ⟨(hT2.1 101 56 (by omega) (by omega) (by omega) (by omega)).trans g56, fun i n hi => by simp [lsM, lsT] at hi⟩
      have fr : ∀ q i, ¬ (132 ≤ q ∧ q ≤ 143) → ¬ (q = 101 ∧ i = 56) → K q i = I0 q i := fun q i h1 h2 => (k1 q i (by omega) h2).trans (hT2.1 q i (by omega) (by omega) (by omega) (by omega))
      have hq := hO K ⟨fun q i h1 h2 => (fr q i (by omega) (by omega)).trans ((g0 q i (by omega)).trans (hJ.1 q i (by omega) (by omega))), by rw [fr 101 29 (by omega) (by omega), g0 101 29 (by omega)]; exact hJ.2⟩ (MS_fr hM0 (fun q i h1 h2 => fr q i (by omega) (by omega))) (by rw [fr 101 30 (by omega) (by omega), g30]; decide) (TRM_congr gI k2) hah
      rw [show lsM I d cs ns nr 11 = lsM I0 d cs ns nr 11 by unfold lsM; rw [tsM_congr gI]] at hq
      exact hq
    · skip
      refine aE_aload_n dX12_findTrades_20 rfl rfl ?_
      refine aE_geti dX12_findTrades_21 fw_X12_305 (lt_nn (by decide)) rfl (by decide) rfl ?_
      have hTR := hTJ h17
      have hll : (lsM I d cs ns nr 11).2.length ≤ 11 := lsT_len _ _ 11
      refine aE_top hTR.1 ?_
      refine aE_if_le (tgt := 31) dX12_findTrades_24 (by decide) (fun h24 => ?_) (fun h24 => ?_)
      · skip
        refine aE_iconst (v := 0) dX12_findTrades_31 rfl ?_
        refine aE_zret dX12_findTrades_32 rfl (by first | exact Or.inl rfl | exact Or.inr rfl | exact wi_or _ _ _ | assumption) ⟨by decide, by decide⟩ ?_
        have hq := hO J hJT hM h17 hTR hah
        first
          | (rw [if_pos (show (lsM I d cs ns nr 11).2.length = 0 from (by rcases Nat.eq_zero_or_pos (lsM I d cs ns nr 11).2.length with q | q; exact q; exact absurd h24 (nI_nle q (by omega))))] at hq; exact hq)
          | (rw [if_neg (fun q : (lsM I d cs ns nr 11).2.length = 0 => h24 (by rw [q]; decide))] at hq; exact hq)
      · skip
        refine aE_iconst (v := 1) dX12_findTrades_27 rfl ?_
        refine aE_goto (tgt := 32) dX12_findTrades_28 (by decide) ?_
        refine aE_zret dX12_findTrades_32 rfl (by first | exact Or.inl rfl | exact Or.inr rfl | exact wi_or _ _ _ | assumption) ⟨by decide, by decide⟩ ?_
        have hq := hO J hJT hM h17 hTR hah
        first
          | (rw [if_pos (show (lsM I d cs ns nr 11).2.length = 0 from (by rcases Nat.eq_zero_or_pos (lsM I d cs ns nr 11).2.length with q | q; exact q; exact absurd h24 (nI_nle q (by omega))))] at hq; exact hq)
          | (rw [if_neg (fun q : (lsM I d cs ns nr 11).2.length = 0 => h24 (by rw [q]; decide))] at hq; exact hq)
  · skip
    refine aE_iconst (v := 0) dX12_findTrades_11 rfl ?_
    refine aE_zret dX12_findTrades_12 rfl (by first | exact Or.inl rfl | exact Or.inr rfl | exact wi_or _ _ _ | assumption) ⟨by decide, by decide⟩ ?_
    exact hN J hJT hM hTJ (Bool.eq_false_iff.mpr (fun q => by rw [if_pos q] at h8; exact absurd (show (1 : Int32) = 0 by first | exact h8 | exact Classical.not_not.mp h8) (by decide)))
end MTR2
