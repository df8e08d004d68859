section CMKT
variable {z : Nat × (Nat → Int32)} {n : Nat} {mem : aM} {I : Nat → Nat → Int32} {sp : Nat → Nat} {pl : Bool} {Q : Option Value → Nat → aM → Prop} {R : Room}variable {ns nstr nc : Nat} {d : pD} {cs : Nat → pC} {fr to : Nat → Nat} {al : Nat → Nat} {sl : Int32}

theorem l_decode (ns c : Nat) (hs4 : ns ≤ 4) (hc : c < 10000) (I0 : Nat → Nat → Int32) (hQ : ∀ J, (∀ q i, q ≠ 89 → J q i = I0 q i) → (∀ s, s < ns → J 89 s = nI (dg ns c s)) → Q none (nn pl) (MM J sp pl)) : ∀ (m : Nat) (I : Nat → Nat → Int32) (x : Int32), m ≤ ns → x = nI m - 1 → (∀ q i, q ≠ 89 → I q i = I0 q i) → (∀ s, m ≤ s → s < ns → I 89 s = nI (dg ns c s)) → aE z mX2_decode (rK 0) Q 9 [some (.ref 80), some (.int (nI c)), some (.int (nI (c / 7 ^ (ns - m)))), some (.int x)] [] (nn pl) (MM I sp pl) 0 0 := by
  intro m
  induction m with
  | zero =>
    intro I x hm hx hfr hrow
    subst hx
    refine aE_iload_n dX2_decode_9 rfl rfl ?_
    refine aE_if_lt (tgt := 34) dX2_decode_10 (by decide) (fun h10 => ?_) (fun h10 => absurd (by decide) h10)
    refine aE_vret dX2_decode_34 rfl ⟨by decide, by decide⟩ ?_
    exact hQ I hfr (fun s hs => hrow s (Nat.zero_le _) hs)
  | succ m ih =>
    intro I x hm hx hfr hrow
    rw [nI_pred] at hx
    subst hx
    have hle : c / 7 ^ (ns - (m + 1)) ≤ c := Nat.div_le_self _ _
    have hdg : c / 7 ^ (ns - (m + 1)) % 7 = dg ns c m := by unfold dg; rw [show ns - (m + 1) = ns - 1 - m by omega]
    have hdv : c / 7 ^ (ns - (m + 1)) / 7 = c / 7 ^ (ns - m) := by
      rw [Nat.div_div_eq_div_mul, ← Nat.pow_succ, show (ns - (m + 1)).succ = ns - m by omega]
    have ih2 := ih (iu I 89 m (nI (dg ns c m))) (nI m - 1) (by omega) rfl (fun q i hq => (iu_ne (by omega)).trans (hfr q i hq)) (fun s h1 h2 => by
      by_cases e : s = m
      · subst e; exact iu_eq
      · exact (iu_ne (by omega)).trans (hrow s (by omega) h2))
    refine aE_iload_n dX2_decode_9 rfl rfl ?_
    refine aE_if_lt (tgt := 34) dX2_decode_10 (by decide) (fun h10 => absurd h10 (nI_pos (by omega))) (fun h10 => ?_)
    refine aE_aload_n dX2_decode_13 rfl rfl ?_
    refine aE_getf (v := .ref 89) dX2_decode_14 fw_X2_26 (lt_nn (by decide)) rfl rfl ?_
    refine aE_iload_n dX2_decode_17 rfl rfl ?_
    refine aE_iload_n dX2_decode_18 rfl rfl ?_
    refine aE_bipush (v := 7) dX2_decode_19 (by decide) ?_
    refine aE_irem dX2_decode_21 (by decide) ?_
    refine aE_top (x' := nI (dg ns c m)) ((a_rem7 (by omega)).trans (congrArg nI hdg)) ?_
    refine aE_istM dX2_decode_22 (lt_nn (by decide)) rfl (by decide) rfl (by omega) ?_
    refine aE_iload_n dX2_decode_23 rfl rfl ?_
    refine aE_bipush (v := 7) dX2_decode_24 (by decide) ?_
    refine aE_idiv dX2_decode_26 (by decide) ?_
    refine aE_top (x' := nI (c / 7 ^ (ns - m))) ((a_div7 (by omega)).trans (congrArg nI hdv)) ?_
    refine aE_istore_n dX2_decode_27 rfl (by decide) rfl (aE_loc (ls' := [_, _, _, _]) rfl ?_)
    refine aE_iinc dX2_decode_28 rfl (a_dec _) (by decide) rfl (aE_loc (ls' := [_, _, _, _]) rfl ?_)
    refine aE_goto (tgt := 9) dX2_decode_31 (by decide) ?_
    exact ih2
theorem c_decode (ns c : Nat) (hs4 : ns ≤ 4) (hc : c < 10000) (hs : I 80 1 = nI ns) (hQ : ∀ J, (∀ q i, q ≠ 89 → J q i = I q i) → (∀ s, s < ns → J 89 s = nI (dg ns c s)) → Q none (nn pl) (MM J sp pl)) : aRuns mX2_decode (rK 0) [.ref 80, .int (nI c)] (nn pl) (MM I sp pl) Q := by
  refine aRuns_of pn_X2_decode (Nat.le_of_ble_eq_true rfl) (fun z => aE_loc (ls' := [_, _, _, _]) rfl ?_)
  refine aE_iload_n dX2_decode_0 rfl rfl ?_
  refine aE_istore_n dX2_decode_1 rfl (by decide) rfl (aE_loc (ls' := [_, _, _, _]) rfl ?_)
  refine aE_aload_n dX2_decode_2 rfl rfl ?_
  refine aE_geti dX2_decode_3 fw_X2_35 (lt_nn (by decide)) rfl (by decide) rfl ?_
  refine aE_top hs ?_
  refine aE_iconst (v := 1) dX2_decode_6 rfl ?_
  refine aE_isub dX2_decode_7 ?_
  refine aE_istore_n dX2_decode_8 rfl (by decide) rfl (aE_loc (ls' := [_, _, _, _]) rfl ?_)
  have h := l_decode (z := z) (Q := Q) (pl := pl) ns c hs4 hc I hQ ns I (nI ns - 1) (Nat.le_refl _) rfl (fun _ _ _ => rfl) (fun s h1 h2 => absurd h1 (by omega))
  rw [Nat.sub_self, Nat.pow_zero, Nat.div_one] at h
  exact h
theorem dg7 (ns c s : Nat) : dg ns c s < 7 := Nat.mod_lt _ (by decide)
theorem l_price (ns c : Nat) (hs4 : ns ≤ 4) (g : Nat → Nat → Bool) (pc : Nat → Nat → Int32) (hs : I 80 1 = nI ns) (hbe : ∀ s, s < ns → I 89 s = nI (dg ns c s)) (hpr : ∀ s b, s < ns → b < 7 → I (85 + s) b = if g s b then pc s b else -1) (hpc : ∀ s b, s < ns → b < 7 → 0 ≤ (pc s b).toInt) (hQ : qi Q (if (alF (fun s => g s (dg ns c s)) ns ns) then (cSum (fun s => pc s (dg ns c s)) ns) else -1) I sp pl) : ∀ (e s : Nat), s + e = ns → (∀ s', s' < s → g s' (dg ns c s') = true) → aE z mX2_priceOfBells (rK 0) Q 4 [some (.ref 80), some (.int (cSum (fun s => pc s (dg ns c s)) s)), some (.int (nI s))] [] (nn pl) (MM I sp pl) 0 0 := by
  intro e
  induction e with
  | zero =>
    intro s he hall
    have he : s = ns := by omega
    have ha : (alF (fun s => g s (dg ns c s)) ns ns) = true := (alF_iff ns (Nat.le_refl _)).mpr (fun s' _ h => hall s' (by omega))
    rw [if_pos ha] at hQ
    subst he
    refine aE_iload_n dX2_priceOfBells_4 rfl rfl ?_
    refine aE_aload_n dX2_priceOfBells_5 rfl rfl ?_
    refine aE_geti dX2_priceOfBells_6 fw_X2_35 (lt_nn (by decide)) rfl (by decide) rfl ?_
    refine aE_icmp_ge (tgt := 53) dX2_priceOfBells_9 (by decide) (fun h9 => ?_) (fun h9 => absurd (by rw [hs]; exact Int32.le_refl _) h9)
    refine aE_iload_n dX2_priceOfBells_53 rfl rfl ?_
    refine aE_iret dX2_priceOfBells_54 rfl ⟨by decide, by decide⟩ ?_
    exact hQ
  | succ e ih =>
    intro s he hall
    have h7 := dg7 ns c s
    have hp := hpr s (dg ns c s) (by omega) h7
    by_cases hg : g s (dg ns c s) = true
    · rw [if_pos hg] at hp
      have hne : ¬ pc s (dg ns c s) = -1 := fun q => by have := hpc s (dg ns c s) (by omega) h7; rw [q] at this; exact absurd this (by decide)
      have ih2 := ih (s + 1) (by omega) (fun s' hs' => by
        by_cases e : s' = s
        · subst e; exact hg
        · exact hall s' (by omega))
      refine aE_iload_n dX2_priceOfBells_4 rfl rfl ?_
      refine aE_aload_n dX2_priceOfBells_5 rfl rfl ?_
      refine aE_geti dX2_priceOfBells_6 fw_X2_35 (lt_nn (by decide)) rfl (by decide) rfl ?_
      refine aE_icmp_ge (tgt := 53) dX2_priceOfBells_9 (by decide) (fun h9 => absurd h9 (by rw [hs]; exact nI_ge (by omega) (by omega))) (fun h9 => ?_)
      refine aE_aload_n dX2_priceOfBells_12 rfl rfl ?_
      refine aE_getf (v := .ref 84) dX2_priceOfBells_13 fw_X2_23 (lt_nn (by decide)) rfl rfl ?_
      refine aE_iload_n dX2_priceOfBells_16 rfl rfl ?_
      refine aE_aald (t := 105) dX2_priceOfBells_17 (lt_nn (by decide)) ⟨by decide, by decide⟩ rfl (by decide) rfl (show s < 4 by omega) (mm_price (show s < 4 by omega)) ?_
      refine aE_aload_n dX2_priceOfBells_18 rfl rfl ?_
      refine aE_getf (v := .ref 89) dX2_priceOfBells_19 fw_X2_26 (lt_nn (by decide)) rfl rfl ?_
      refine aE_iload_n dX2_priceOfBells_22 rfl rfl ?_
      refine aE_ildM dX2_priceOfBells_23 (lt_nn (by decide)) rfl (by decide) rfl (by omega) ?_
      refine aE_top (hbe s (by omega)) ?_
      refine aE_ildM dX2_priceOfBells_24 (lt_nn (by omega)) (sh_price (show s < 4 by omega)) (by decide) rfl (by omega) ?_
      refine aE_top hp ?_
      refine aE_iconst (v := -1) dX2_priceOfBells_25 rfl ?_
      refine aE_icmp_ne (tgt := 31) dX2_priceOfBells_26 (by decide) (fun h26 => ?_) (fun h26 => absurd h26 (hne))
      refine aE_iload_n dX2_priceOfBells_31 rfl rfl ?_
      refine aE_aload_n dX2_priceOfBells_32 rfl rfl ?_
      refine aE_getf (v := .ref 84) dX2_priceOfBells_33 fw_X2_23 (lt_nn (by decide)) rfl rfl ?_
      refine aE_iload_n dX2_priceOfBells_36 rfl rfl ?_
      refine aE_aald (t := 105) dX2_priceOfBells_37 (lt_nn (by decide)) ⟨by decide, by decide⟩ rfl (by decide) rfl (show s < 4 by omega) (mm_price (show s < 4 by omega)) ?_
      refine aE_aload_n dX2_priceOfBells_38 rfl rfl ?_
      refine aE_getf (v := .ref 89) dX2_priceOfBells_39 fw_X2_26 (lt_nn (by decide)) rfl rfl ?_
      refine aE_iload_n dX2_priceOfBells_42 rfl rfl ?_
      refine aE_ildM dX2_priceOfBells_43 (lt_nn (by decide)) rfl (by decide) rfl (by omega) ?_
      refine aE_top (hbe s (by omega)) ?_
      refine aE_ildM dX2_priceOfBells_44 (lt_nn (by omega)) (sh_price (show s < 4 by omega)) (by decide) rfl (by omega) ?_
      refine aE_top hp ?_
      refine aE_iadd dX2_priceOfBells_45 ?_
      refine aE_istore_n dX2_priceOfBells_46 rfl (by decide) rfl (aE_loc (ls' := [_, _, _]) rfl ?_)
      refine aE_iinc dX2_priceOfBells_47 rfl (a_inc _) (by decide) rfl (aE_loc (ls' := [_, _, _]) rfl ?_)
      refine aE_goto (tgt := 4) dX2_priceOfBells_50 (by decide) ?_
      exact ih2
    · rw [if_neg hg] at hp
      have ha : ¬ (alF (fun s => g s (dg ns c s)) ns ns) = true := fun q => hg ((alF_iff ns (Nat.le_refl _)).mp q s (by omega) (by omega))
      rw [if_neg ha] at hQ
      refine aE_iload_n dX2_priceOfBells_4 rfl rfl ?_
      refine aE_aload_n dX2_priceOfBells_5 rfl rfl ?_
      refine aE_geti dX2_priceOfBells_6 fw_X2_35 (lt_nn (by decide)) rfl (by decide) rfl ?_
      refine aE_icmp_ge (tgt := 53) dX2_priceOfBells_9 (by decide) (fun h9 => absurd h9 (by rw [hs]; exact nI_ge (by omega) (by omega))) (fun h9 => ?_)
      refine aE_aload_n dX2_priceOfBells_12 rfl rfl ?_
      refine aE_getf (v := .ref 84) dX2_priceOfBells_13 fw_X2_23 (lt_nn (by decide)) rfl rfl ?_
      refine aE_iload_n dX2_priceOfBells_16 rfl rfl ?_
      refine aE_aald (t := 105) dX2_priceOfBells_17 (lt_nn (by decide)) ⟨by decide, by decide⟩ rfl (by decide) rfl (show s < 4 by omega) (mm_price (show s < 4 by omega)) ?_
      refine aE_aload_n dX2_priceOfBells_18 rfl rfl ?_
      refine aE_getf (v := .ref 89) dX2_priceOfBells_19 fw_X2_26 (lt_nn (by decide)) rfl rfl ?_
      refine aE_iload_n dX2_priceOfBells_22 rfl rfl ?_
      refine aE_ildM dX2_priceOfBells_23 (lt_nn (by decide)) rfl (by decide) rfl (by omega) ?_
      refine aE_top (hbe s (by omega)) ?_
      refine aE_ildM dX2_priceOfBells_24 (lt_nn (by omega)) (sh_price (show s < 4 by omega)) (by decide) rfl (by omega) ?_
      refine aE_top hp ?_
      refine aE_iconst (v := -1) dX2_priceOfBells_25 rfl ?_
      refine aE_icmp_ne (tgt := 31) dX2_priceOfBells_26 (by decide) (fun h26 => absurd (rfl) h26) (fun h26 => ?_)
      refine aE_iconst (v := -1) dX2_priceOfBells_29 rfl ?_
      refine aE_iret dX2_priceOfBells_30 rfl ⟨by decide, by decide⟩ ?_
      exact hQ
theorem c_price (ns c : Nat) (hs4 : ns ≤ 4) (g : Nat → Nat → Bool) (pc : Nat → Nat → Int32) (hs : I 80 1 = nI ns) (hbe : ∀ s, s < ns → I 89 s = nI (dg ns c s)) (hpr : ∀ s b, s < ns → b < 7 → I (85 + s) b = if g s b then pc s b else -1) (hpc : ∀ s b, s < ns → b < 7 → 0 ≤ (pc s b).toInt) : aRuns mX2_priceOfBells (rK 0) [.ref 80] (nn pl) (MM I sp pl) (a_ri (if (alF (fun s => g s (dg ns c s)) ns ns) then (cSum (fun s => pc s (dg ns c s)) ns) else -1) (nn pl) (MM I sp pl)) := by
  refine aRuns_of pn_X2_priceOfBells (Nat.le_of_ble_eq_true rfl) (fun z => aE_loc (ls' := [_, _, _]) rfl ?_)
  refine aE_iconst (v := 0) dX2_priceOfBells_0 rfl ?_
  refine aE_istore_n dX2_priceOfBells_1 rfl (by decide) rfl (aE_loc (ls' := [_, _, _]) rfl ?_)
  refine aE_iconst (v := 0) dX2_priceOfBells_2 rfl ?_
  refine aE_istore_n dX2_priceOfBells_3 rfl (by decide) rfl (aE_loc (ls' := [_, _, _]) rfl ?_)
  exact l_price ns c hs4 g pc hs hbe hpr hpc ⟨rfl, rfl, rfl⟩ ns 0 (by omega) (fun s' h => absurd h (by omega))
theorem c_note (c n : Nat) (co : Int32) (hn : n < 11) (hN : ¬ co < I 82 n → Q none (nn pl) (MM I sp pl)) (hY : co < I 82 n → Q none (nn pl) (MM (iu (iu I 82 n co) 83 n (nI c)) sp pl)) : aRuns mX2_note (rK 0) [.ref 80, .int (nI c), .int co, .int (nI n)] (nn pl) (MM I sp pl) Q := by
  refine aRuns_of pn_X2_note (Nat.le_of_ble_eq_true rfl) (fun z => aE_loc (ls' := [_, _, _, _]) rfl ?_)
  refine aE_iload_n dX2_note_0 rfl rfl ?_
  refine aE_aload_n dX2_note_1 rfl rfl ?_
  refine aE_getf (v := .ref 82) dX2_note_2 fw_X2_15 (lt_nn (by decide)) rfl rfl ?_
  refine aE_iload_n dX2_note_5 rfl rfl ?_
  refine aE_ildM dX2_note_6 (lt_nn (by decide)) rfl (by decide) rfl hn ?_
  refine aE_icmp_ge (tgt := 24) dX2_note_7 (by decide) (fun h7 => ?_) (fun h7 => ?_)
  · skip
    refine aE_vret dX2_note_24 rfl ⟨by decide, by decide⟩ ?_
    first | exact hN (Int32.not_lt.mpr h7) | exact hY (Int32.not_le.mp h7)
  · skip
    refine aE_aload_n dX2_note_10 rfl rfl ?_
    refine aE_getf (v := .ref 82) dX2_note_11 fw_X2_15 (lt_nn (by decide)) rfl rfl ?_
    refine aE_iload_n dX2_note_14 rfl rfl ?_
    refine aE_iload_n dX2_note_15 rfl rfl ?_
    refine aE_istM dX2_note_16 (lt_nn (by decide)) rfl (by decide) rfl hn ?_
    refine aE_aload_n dX2_note_17 rfl rfl ?_
    refine aE_getf (v := .ref 83) dX2_note_18 fw_X2_18 (lt_nn (by decide)) rfl rfl ?_
    refine aE_iload_n dX2_note_21 rfl rfl ?_
    refine aE_iload_n dX2_note_22 rfl rfl ?_
    refine aE_istM dX2_note_23 (lt_nn (by decide)) rfl (by decide) rfl hn ?_
    refine aE_vret dX2_note_24 rfl ⟨by decide, by decide⟩ ?_
    first | exact hN (Int32.not_lt.mpr h7) | exact hY (Int32.not_le.mp h7)
theorem l_list (I0 : Nat → Nat → Int32) (hQ : ∀ J, (∀ q i, ¬ (q = 80 ∧ i = 0) → q ≠ 81 → J q i = I0 q i) → J 80 0 = nI (lsT (fun k => I0 82 k) 1000000 11).2.length → (∀ (i n : Nat), (lsT (fun k => I0 82 k) 1000000 11).2[i]? = some n → J 81 i = nI n) → Q none (nn pl) (MM J sp pl)) : ∀ (e k : Nat), k + e = 11 → ∀ (I : Nat → Nat → Int32), (∀ q i, ¬ (q = 80 ∧ i = 0) → q ≠ 81 → I q i = I0 q i) → I 80 0 = nI (lsT (fun k => I0 82 k) 1000000 k).2.length → (∀ (i n : Nat), (lsT (fun k => I0 82 k) 1000000 k).2[i]? = some n → I 81 i = nI n) → aE z mX2_list (rK 0) Q 10 [some (.ref 80), some (.int (lsT (fun k => I0 82 k) 1000000 k).1), some (.int (nI k))] [] (nn pl) (MM I sp pl) 0 0 := by
  intro e
  induction e with
  | zero =>
    intro k hk I hfr hc hr
    have hk : k = 11 := by omega
    subst hk
    refine aE_iload_n dX2_list_10 rfl rfl ?_
    refine aE_bipush (v := 10) dX2_list_11 (by decide) ?_
    refine aE_icmp_gt (tgt := 59) dX2_list_13 (by decide) (fun h13 => ?_) (fun h13 => absurd (by decide) h13)
    refine aE_vret dX2_list_59 rfl ⟨by decide, by decide⟩ ?_
    exact hQ I hfr hc hr
  | succ e ih =>
    intro k hk I hfr hc hr
    have hlen := lsT_len (fun k => I0 82 k) 1000000 k
    have e1 := lsT_s (fun k => I0 82 k) 1000000 k
    have h82 : I 82 k = I0 82 k := hfr 82 k (by omega) (by omega)
    by_cases hlt : I0 82 k < (lsT (fun k => I0 82 k) 1000000 k).1
    · rw [if_pos hlt] at e1
      have ih2 := ih (k + 1) (by omega) (iu (iu I 81 (lsT (fun k => I0 82 k) 1000000 k).2.length (nI k)) 80 0 (nI ((lsT (fun k => I0 82 k) 1000000 k).2.length + 1))) (fun q i h1 h2 => (iu_ne (by omega)).trans ((iu_ne (by omega)).trans (hfr q i h1 h2))) (by rw [e1, iu_eq]; simp) (fun i n hi => by
        rw [e1] at hi
        rw [iu_ne (by omega)]
        rcases gE_app hi with w | ⟨w1, w2⟩
        · have := (List.getElem?_eq_some_iff.mp w).1
          rw [iu_ne (by omega)]; exact hr i n w
        · rw [w1, w2, iu_eq])
      rw [e1] at ih2
      dsimp only at ih2
      refine aE_iload_n dX2_list_10 rfl rfl ?_
      refine aE_bipush (v := 10) dX2_list_11 (by decide) ?_
      refine aE_icmp_gt (tgt := 59) dX2_list_13 (by decide) (fun h13 => absurd h13 (fun q => by have := (nI_ltI (a := 10) (b := k) (by omega) (by omega)).mp q; omega)) (fun h13 => ?_)
      refine aE_aload_n dX2_list_16 rfl rfl ?_
      refine aE_getf (v := .ref 82) dX2_list_17 fw_X2_15 (lt_nn (by decide)) rfl rfl ?_
      refine aE_iload_n dX2_list_20 rfl rfl ?_
      refine aE_ildM dX2_list_21 (lt_nn (by decide)) rfl (by decide) rfl (by omega) ?_
      refine aE_top h82 ?_
      refine aE_iload_n dX2_list_22 rfl rfl ?_
      refine aE_icmp_ge (tgt := 53) dX2_list_23 (by decide) (fun h23 => absurd h23 (Int32.not_le.mpr hlt)) (fun h23 => ?_)
      refine aE_aload_n dX2_list_26 rfl rfl ?_
      refine aE_getf (v := .ref 82) dX2_list_27 fw_X2_15 (lt_nn (by decide)) rfl rfl ?_
      refine aE_iload_n dX2_list_30 rfl rfl ?_
      refine aE_ildM dX2_list_31 (lt_nn (by decide)) rfl (by decide) rfl (by omega) ?_
      refine aE_top h82 ?_
      refine aE_istore_n dX2_list_32 rfl (by decide) rfl (aE_loc (ls' := [_, _, _]) rfl ?_)
      refine aE_aload_n dX2_list_33 rfl rfl ?_
      refine aE_getf (v := .ref 81) dX2_list_34 fw_X2_9 (lt_nn (by decide)) rfl rfl ?_
      refine aE_aload_n dX2_list_37 rfl rfl ?_
      refine aE_geti dX2_list_38 fw_X2_87 (lt_nn (by decide)) rfl (by decide) rfl ?_
      refine aE_top hc ?_
      refine aE_iload_n dX2_list_41 rfl rfl ?_
      refine aE_istM dX2_list_42 (lt_nn (by decide)) rfl (by decide) rfl (by omega) ?_
      refine aE_aload_n dX2_list_43 rfl rfl ?_
      refine aE_dup dX2_list_44 rfl ?_
      refine aE_geti dX2_list_45 fw_X2_87 (lt_nn (by decide)) rfl (by decide) rfl ?_
      refine aE_top ((iu_ne (by omega)).trans hc) ?_
      refine aE_iconst (v := 1) dX2_list_48 rfl ?_
      refine aE_iadd dX2_list_49 ?_
      refine aE_top (nI_1 _) ?_
      refine aE_puti dX2_list_50 fp_X2_87 (Or.inl rfl) (lt_nn (by decide)) rfl (fun _ => ⟨rfl, rfl⟩) (by decide) rfl ?_
      refine aE_iinc dX2_list_53 rfl (a_inc _) (by decide) rfl (aE_loc (ls' := [_, _, _]) rfl ?_)
      refine aE_goto (tgt := 10) dX2_list_56 (by decide) ?_
      exact ih2
    · rw [if_neg hlt] at e1
      have ih2 := ih (k + 1) (by omega) I hfr (by rw [e1]; exact hc) (by rw [e1]; exact hr)
      rw [e1] at ih2
      refine aE_iload_n dX2_list_10 rfl rfl ?_
      refine aE_bipush (v := 10) dX2_list_11 (by decide) ?_
      refine aE_icmp_gt (tgt := 59) dX2_list_13 (by decide) (fun h13 => absurd h13 (fun q => by have := (nI_ltI (a := 10) (b := k) (by omega) (by omega)).mp q; omega)) (fun h13 => ?_)
      refine aE_aload_n dX2_list_16 rfl rfl ?_
      refine aE_getf (v := .ref 82) dX2_list_17 fw_X2_15 (lt_nn (by decide)) rfl rfl ?_
      refine aE_iload_n dX2_list_20 rfl rfl ?_
      refine aE_ildM dX2_list_21 (lt_nn (by decide)) rfl (by decide) rfl (by omega) ?_
      refine aE_top h82 ?_
      refine aE_iload_n dX2_list_22 rfl rfl ?_
      refine aE_icmp_ge (tgt := 53) dX2_list_23 (by decide) (fun h23 => ?_) (fun h23 => absurd (Int32.not_lt.mp hlt) h23)
      refine aE_iinc dX2_list_53 rfl (a_inc _) (by decide) rfl (aE_loc (ls' := [_, _, _]) rfl ?_)
      refine aE_goto (tgt := 10) dX2_list_56 (by decide) ?_
      exact ih2
theorem c_list (hQ : ∀ J, (∀ q i, ¬ (q = 80 ∧ i = 0) → q ≠ 81 → J q i = I q i) → J 80 0 = nI (lsT (fun k => I 82 k) 1000000 11).2.length → (∀ (i n : Nat), (lsT (fun k => I 82 k) 1000000 11).2[i]? = some n → J 81 i = nI n) → Q none (nn pl) (MM J sp pl)) : aRuns mX2_list (rK 0) [.ref 80] (nn pl) (MM I sp pl) Q := by
  refine aRuns_of pn_X2_list (Nat.le_of_ble_eq_true rfl) (fun z => aE_loc (ls' := [_, _, _]) rfl ?_)
  refine aE_aload_n dX2_list_0 rfl rfl ?_
  refine aE_iconst (v := 0) dX2_list_1 rfl ?_
  refine aE_puti dX2_list_2 fp_X2_87 (Or.inl rfl) (lt_nn (by decide)) rfl (fun _ => ⟨rfl, rfl⟩) (by decide) rfl ?_
  refine aE_ldc dX2_list_5 ct_X2_56 ?_
  refine aE_istore_n dX2_list_7 rfl (by decide) rfl (aE_loc (ls' := [_, _, _]) rfl ?_)
  refine aE_iconst (v := 0) dX2_list_8 rfl ?_
  refine aE_istore_n dX2_list_9 rfl (by decide) rfl (aE_loc (ls' := [_, _, _]) rfl ?_)
  exact l_list I hQ 11 0 (by omega) _ (fun q i h1 h2 => iu_ne (by omega)) iu_eq (fun i n hi => by simp [lsT] at hi)
theorem c_busesIn (i n : Nat) (hi : i < 11) (h : I 81 i = nI n) : aRuns mX2_busesIn (rK 0) [.ref 80, .int (nI i)] (nn pl) (MM I sp pl) (a_ri (nI n) (nn pl) (MM I sp pl)) := by
  refine aRuns_of pn_X2_busesIn (Nat.le_of_ble_eq_true rfl) (fun z => aE_loc (ls' := [_, _]) rfl ?_)
  refine aE_aload_n dX2_busesIn_0 rfl rfl ?_
  refine aE_getf (v := .ref 81) dX2_busesIn_1 fw_X2_9 (lt_nn (by decide)) rfl rfl ?_
  refine aE_iload_n dX2_busesIn_4 rfl rfl ?_
  refine aE_ildM dX2_busesIn_5 (lt_nn (by decide)) rfl (by decide) rfl hi ?_
  refine aE_top h ?_
  refine aE_iret dX2_busesIn_6 rfl ⟨by decide, by decide⟩ ?_
  exact ⟨rfl, rfl, rfl⟩
theorem c_costIn (i n : Nat) (hi : i < 11) (hn : n < 11) (h : I 81 i = nI n) : aRuns mX2_costIn (rK 0) [.ref 80, .int (nI i)] (nn pl) (MM I sp pl) (a_ri (I 82 n) (nn pl) (MM I sp pl)) := by
  refine aRuns_of pn_X2_costIn (Nat.le_of_ble_eq_true rfl) (fun z => aE_loc (ls' := [_, _]) rfl ?_)
  refine aE_aload_n dX2_costIn_0 rfl rfl ?_
  refine aE_getf (v := .ref 82) dX2_costIn_1 fw_X2_15 (lt_nn (by decide)) rfl rfl ?_
  refine aE_aload_n dX2_costIn_4 rfl rfl ?_
  refine aE_getf (v := .ref 81) dX2_costIn_5 fw_X2_9 (lt_nn (by decide)) rfl rfl ?_
  refine aE_iload_n dX2_costIn_8 rfl rfl ?_
  refine aE_ildM dX2_costIn_9 (lt_nn (by decide)) rfl (by decide) rfl hi ?_
  refine aE_top h ?_
  refine aE_ildM dX2_costIn_10 (lt_nn (by decide)) rfl (by decide) rfl hn ?_
  refine aE_iret dX2_costIn_11 rfl ⟨by decide, by decide⟩ ?_
  exact ⟨rfl, rfl, rfl⟩
theorem c_bellsIn (i n c ns : Nat) (hi : i < 11) (hn : n < 11) (h : I 81 i = nI n) (hcd : I 83 n = nI c) (hs4 : ns ≤ 4) (hc : c < 10000) (hs : I 80 1 = nI ns) (hQ : ∀ J, (∀ q i, q ≠ 89 → J q i = I q i) → (∀ s, s < ns → J 89 s = nI (dg ns c s)) → Q (some (.ref 89)) (nn pl) (MM J sp pl)) : aRuns mX2_bellsIn (rK 1) [.ref 80, .int (nI i)] (nn pl) (MM I sp pl) Q := by
  refine aRuns_of pn_X2_bellsIn (Nat.le_of_ble_eq_true rfl) (fun z => aE_loc (ls' := [_, _]) rfl ?_)
  refine aE_aload_n dX2_bellsIn_0 rfl rfl ?_
  refine aE_aload_n dX2_bellsIn_1 rfl rfl ?_
  refine aE_getf (v := .ref 83) dX2_bellsIn_2 fw_X2_18 (lt_nn (by decide)) rfl rfl ?_
  refine aE_aload_n dX2_bellsIn_5 rfl rfl ?_
  refine aE_getf (v := .ref 81) dX2_bellsIn_6 fw_X2_9 (lt_nn (by decide)) rfl rfl ?_
  refine aE_iload_n dX2_bellsIn_9 rfl rfl ?_
  refine aE_ildM dX2_bellsIn_10 (lt_nn (by decide)) rfl (by decide) rfl hi ?_
  refine aE_top h ?_
  refine aE_ildM dX2_bellsIn_11 (lt_nn (by decide)) rfl (by decide) rfl hn ?_
  refine aE_top hcd ?_
  refine aE_cVq dX2_bellsIn_12 lk_X2_63 mv_X2_decode (c_decode (Q := (fun (r : Option Value) (n' : Nat) (m' : aM) => r = none ∧ n' = nn pl ∧ ∃ J, m' = MM J sp pl ∧ (∀ q i, q ≠ 89 → J q i = I q i) ∧ (∀ s, s < ns → J 89 s = nI (dg ns c s)))) ns c hs4 hc hs (fun J a b => ⟨rfl, rfl, J, rfl, a, b⟩)) rfl (lt_nn (by decide)) rfl rfl ⟨by decide, by decide⟩ (Nat.le_of_ble_eq_true rfl) ⟨rfl, rfl⟩ ⟨by decide, by decide⟩ ?_
  rintro r n' m' ⟨rfl, rfl, J, rfl, j1, j2⟩
  refine aE_aload_n dX2_bellsIn_15 rfl rfl ?_
  refine aE_getf (v := .ref 89) dX2_bellsIn_16 fw_X2_26 (lt_nn (by decide)) rfl rfl ?_
  refine aE_aret dX2_bellsIn_19 rfl (by first | exact Or.inl ⟨_, rfl⟩ | exact Or.inr ⟨_, rfl⟩) ⟨by decide, by decide⟩ ?_
  exact hQ J j1 j2
theorem l_wg1 (nr : Nat) (kd : Nat → Nat) (I0 : Nat → Nat → Int32) (hW : CW I0 sp ns nstr nc d cs fr to) (hs : I0 80 1 = nI ns) (hr : I0 75 1 = nI nr) (hr8 : nr ≤ 8) (hrk : ∀ r, r < nr → ¬ I0 77 r < 0) (hkd : ∀ s, s < ns → kd s < 4 ∧ I0 (28 + 4 * s) 0 = nI (kd s)) (s : Nat) (hsn : s < ns) (x : Int32) (k0 : ∀ (J : Nat → Nat → Int32) (l6 l7 : Option Value), (∀ q i, ¬ (85 ≤ q ∧ q ≤ 88) → J q i = I0 q i) → (∀ s' b', s' < s + 1 ∧ b' < 7 → J (85 + s') b' = if (fun s b => decide (permV (I0 (28 + 4 * s) 0) (nI b) (I0 77) (I0 78) (I0 79) nr ≠ 0)) s' b' then (fun s b => cOne ((fun s => sumS (fun k => I0 (sp k) 0) (fun k => I0 (sp k) 2) (nI s) d.1) s) (nI b) (I0 (28 + 4 * s) 2)) s' b' else -1) → aE z mX2_weigh (rK 4) Q 91 [some (.ref 80), some (.ref 1), some (.ref 54), some (.ref 75), some (.int x), some (.int (nI s)), l6, l7] [] (nn pl) (MM J sp pl) 0 0) : ∀ (e b : Nat), b + e = 7 → ∀ (I : Nat → Nat → Int32) (l7 : Option Value), (∀ q i, ¬ (85 ≤ q ∧ q ≤ 88) → I q i = I0 q i) → (∀ s' b', (s' < s ∧ b' < 7) ∨ (s' = s ∧ b' < b) → I (85 + s') b' = if (fun s b => decide (permV (I0 (28 + 4 * s) 0) (nI b) (I0 77) (I0 78) (I0 79) nr ≠ 0)) s' b' then (fun s b => cOne ((fun s => sumS (fun k => I0 (sp k) 0) (fun k => I0 (sp k) 2) (nI s) d.1) s) (nI b) (I0 (28 + 4 * s) 2)) s' b' else -1) → aE z mX2_weigh (rK 4) Q 33 [some (.ref 80), some (.ref 1), some (.ref 54), some (.ref 75), some (.int x), some (.int (nI s)), some (.int (nI b)), l7] [] (nn pl) (MM I sp pl) 0 0 := by
  obtain ⟨hns, hs4⟩ := hW.1
  obtain ⟨hn, h10⟩ := hW.2.2.2.2.2.2.1
  have hsp := hW.2.2.2.2.2.2.2.1
  have hs44 : s < 4 := by omega
  intro e
  induction e with
  | zero =>
    intro b hb I l7 hfr hrow
    have hb : b = 7 := by omega
    subst hb
    refine aE_iload dX2_weigh_33 rfl ?_
    refine aE_bipush (v := 7) dX2_weigh_35 (by decide) ?_
    refine aE_icmp_ge (tgt := 91) dX2_weigh_37 (by decide) (fun h37 => ?_) (fun h37 => absurd (by decide) h37)
    exact k0 I _ _ hfr (fun s' b' h => hrow s' b' (by omega))
  | succ e ih =>
    intro b hb I l7 hfr hrow
    have hsp2 : ∀ k i, k < 10 → I (sp k) i = I0 (sp k) i := fun k i hk => hfr _ _ (by have := hsp k hk; omega)
    have e77 : I 77 = I0 77 := funext fun i => hfr 77 i (by omega)
    have e78 : I 78 = I0 78 := funext fun i => hfr 78 i (by omega)
    have e79 : I 79 = I0 79 := funext fun i => hfr 79 i (by omega)
    have hkI : I (28 + 4 * s) 0 = nI (kd s) := (hfr _ _ (by omega)).trans (hkd s hsn).2
    have h28 : I0 (28 + 4 * s) 0 = nI (kd s) := (hkd s hsn).2
    have hperm : permV (nI (kd s)) (nI b) (I 77) (I 78) (I 79) nr = permV (I0 (28 + 4 * s) 0) (nI b) (I0 77) (I0 78) (I0 79) nr := by rw [e77, e78, e79, h28]
    have h01 := permV_or (I0 (28 + 4 * s) 0) (nI b) (I0 77) (I0 78) (I0 79) nr
    have nxt : ∀ l7 v, v = (if (fun s b => decide (permV (I0 (28 + 4 * s) 0) (nI b) (I0 77) (I0 78) (I0 79) nr ≠ 0)) s b then (fun s b => cOne ((fun s => sumS (fun k => I0 (sp k) 0) (fun k => I0 (sp k) 2) (nI s) d.1) s) (nI b) (I0 (28 + 4 * s) 2)) s b else -1) → aE z mX2_weigh (rK 4) Q 85 [some (.ref 80), some (.ref 1), some (.ref 54), some (.ref 75), some (.int x), some (.int (nI s)), some (.int (nI b)), l7] [] (nn pl) (MM (iu I (85 + s) b v) sp pl) 0 0 := by
      intro l7 v hv
      have ih2 := ih (b + 1) (by omega) (iu I (85 + s) b v) l7 (fun q i h => (iu_ne (by omega)).trans (hfr q i h)) (fun s' b' h => by
        by_cases q : s' = s ∧ b' = b
        · obtain ⟨rfl, rfl⟩ := q; rw [iu_eq]; exact hv
        · rw [iu_ne (by omega)]; exact hrow s' b' (by omega))
      refine aE_iinc dX2_weigh_85 rfl (a_inc _) (by decide) rfl (aE_loc (ls' := [_, _, _, _, _, _, _, _]) rfl ?_)
      refine aE_goto (tgt := 33) dX2_weigh_88 (by decide) ?_
      exact ih2
    have hcost : sumS (fun k => I (sp k) 0) (fun k => I (sp k) 2) (nI s) d.1 = (fun s => sumS (fun k => I0 (sp k) 0) (fun k => I0 (sp k) 2) (nI s) d.1) s := by
      have gen : ∀ n, n ≤ 10 → sumS (fun k => I (sp k) 0) (fun k => I (sp k) 2) (nI s) n = sumS (fun k => I0 (sp k) 0) (fun k => I0 (sp k) 2) (nI s) n := by
        intro n
        induction n with
        | zero => intro _; rfl
        | succ n ihn =>
          intro hn10
          have i1 := ihn (by omega)
          have a1 := hsp2 n 0 (by omega)
          have a2 := hsp2 n 2 (by omega)
          unfold sumS
          rw [i1, a2]
          by_cases q : I0 (sp n) 0 = nI s
          · rw [if_pos q, if_pos (a1.trans q)]
          · rw [if_neg q, if_neg (fun w => q (a1.symm.trans w))]
      exact gen d.1 h10
    have hv2 : I (28 + 4 * s) 2 = I0 (28 + 4 * s) 2 := hfr _ _ (by omega)
    refine aE_iload dX2_weigh_33 rfl ?_
    refine aE_bipush (v := 7) dX2_weigh_35 (by decide) ?_
    refine aE_icmp_ge (tgt := 91) dX2_weigh_37 (by decide) (fun h37 => absurd h37 (nI_ge (b := 7) (by omega) (by omega))) (fun h37 => ?_)
    refine aE_aload_n dX2_weigh_40 rfl rfl ?_
    refine aE_aload_n dX2_weigh_41 rfl rfl ?_
    refine aE_getf (v := .ref 25) dX2_weigh_42 fw_X2_38 (lt_nn (by decide)) rfl rfl ?_
    refine aE_iload dX2_weigh_45 rfl ?_
    refine aE_aald (t := 102) dX2_weigh_47 (lt_nn (by decide)) ⟨by decide, by decide⟩ rfl (by decide) rfl hs44 (mm_schs hs44) ?_
    refine aE_geti dX2_weigh_48 fw_X2_41 (lt_nn (by omega)) (sh_sch hs44) (mc_sch (i := 0) hs44 (by decide)).1 (mc_sch (i := 0) hs44 (by decide)).2 ?_
    refine aE_top hkI ?_
    refine aE_iload dX2_weigh_51 rfl ?_
    refine aE_cVi dX2_weigh_53 lk_X2_46 mv_X6_permit (c_permit (kd s) nr (nI b) (hkd s hsn).1 ((hfr 75 1 (by omega)).trans hr) hr8 (fun r h => by rw [hfr 77 r (by omega)]; exact hrk r h)) rfl (lt_nn (by decide)) rfl rfl ⟨by decide, by decide⟩ (Nat.le_of_ble_eq_true rfl) ⟨rfl, rfl⟩ ⟨by decide, by decide⟩ ?_
    rw [hperm]
    refine aE_istore dX2_weigh_56 (by decide) rfl (aE_loc (ls' := [_, _, _, _, _, _, _, _]) rfl ?_)
    refine aE_aload_n dX2_weigh_58 rfl rfl ?_
    refine aE_getf (v := .ref 84) dX2_weigh_59 fw_X2_23 (lt_nn (by decide)) rfl rfl ?_
    refine aE_iload dX2_weigh_62 rfl ?_
    refine aE_aald (t := 105) dX2_weigh_64 (lt_nn (by decide)) ⟨by decide, by decide⟩ rfl (by decide) rfl hs44 (mm_price hs44) ?_
    refine aE_iload dX2_weigh_65 rfl ?_
    refine aE_iload dX2_weigh_67 rfl ?_
    refine aE_if_eq (tgt := 83) dX2_weigh_69 (by decide) (fun h69 => ?_) (fun h69 => ?_)
    · skip
      refine aE_iconst (v := -1) dX2_weigh_83 rfl ?_
      refine aE_istM dX2_weigh_84 (lt_nn (by omega)) (sh_price hs44) (by decide) rfl (by omega) ?_
      first
        | exact nxt _ _ (by rw [show (fun s b => decide (permV (I0 (28 + 4 * s) 0) (nI b) (I0 77) (I0 78) (I0 79) nr ≠ 0)) s b = true from decide_eq_true h69]; rfl)
        | exact nxt _ _ (by rw [show (fun s b => decide (permV (I0 (28 + 4 * s) 0) (nI b) (I0 77) (I0 78) (I0 79) nr ≠ 0)) s b = false from decide_eq_false (fun q => q h69)]; rfl)
    · skip
      refine aE_aload_n dX2_weigh_72 rfl rfl ?_
      refine aE_iload dX2_weigh_73 rfl ?_
      refine aE_iload dX2_weigh_75 rfl ?_
      refine aE_cVi dX2_weigh_77 lk_X2_52 mv_X0_costOf (c_costOf s d.1 (nI b) ((hfr 1 5 (by omega)).trans hn) h10 hsp hs44) rfl (lt_nn (by decide)) rfl rfl ⟨by decide, by decide⟩ (Nat.le_of_ble_eq_true rfl) ⟨rfl, rfl⟩ ⟨by decide, by decide⟩ ?_
      rw [hcost, hv2]
      refine aE_goto (tgt := 84) dX2_weigh_80 (by decide) ?_
      refine aE_istM dX2_weigh_84 (lt_nn (by omega)) (sh_price hs44) (by decide) rfl (by omega) ?_
      first
        | exact nxt _ _ (by rw [show (fun s b => decide (permV (I0 (28 + 4 * s) 0) (nI b) (I0 77) (I0 78) (I0 79) nr ≠ 0)) s b = true from decide_eq_true h69]; rfl)
        | exact nxt _ _ (by rw [show (fun s b => decide (permV (I0 (28 + 4 * s) 0) (nI b) (I0 77) (I0 78) (I0 79) nr ≠ 0)) s b = false from decide_eq_false (fun q => q h69)]; rfl)
theorem l_wg2 (nr : Nat) (kd : Nat → Nat) (I0 : Nat → Nat → Int32) (hW : CW I0 sp ns nstr nc d cs fr to) (hs : I0 80 1 = nI ns) (hr : I0 75 1 = nI nr) (hr8 : nr ≤ 8) (hrk : ∀ r, r < nr → ¬ I0 77 r < 0) (hkd : ∀ s, s < ns → kd s < 4 ∧ I0 (28 + 4 * s) 0 = nI (kd s)) (k0 : ∀ (J : Nat → Nat → Int32) (l5 l6 l7 : Option Value), (∀ q i, ¬ (85 ≤ q ∧ q ≤ 88) → J q i = I0 q i) → (∀ s' b', s' < ns ∧ b' < 7 → J (85 + s') b' = if (fun s b => decide (permV (I0 (28 + 4 * s) 0) (nI b) (I0 77) (I0 78) (I0 79) nr ≠ 0)) s' b' then (fun s b => cOne ((fun s => sumS (fun k => I0 (sp k) 0) (fun k => I0 (sp k) 2) (nI s) d.1) s) (nI b) (I0 (28 + 4 * s) 2)) s' b' else -1) → aE z mX2_weigh (rK 4) Q 97 [some (.ref 80), some (.ref 1), some (.ref 54), some (.ref 75), some (.int (nI (7 ^ ns))), l5, l6, l7] [] (nn pl) (MM J sp pl) 0 0) : ∀ (e s : Nat), s + e = ns → ∀ (I : Nat → Nat → Int32) (l6 l7 : Option Value), (∀ q i, ¬ (85 ≤ q ∧ q ≤ 88) → I q i = I0 q i) → (∀ s' b', s' < s ∧ b' < 7 → I (85 + s') b' = if (fun s b => decide (permV (I0 (28 + 4 * s) 0) (nI b) (I0 77) (I0 78) (I0 79) nr ≠ 0)) s' b' then (fun s b => cOne ((fun s => sumS (fun k => I0 (sp k) 0) (fun k => I0 (sp k) 2) (nI s) d.1) s) (nI b) (I0 (28 + 4 * s) 2)) s' b' else -1) → aE z mX2_weigh (rK 4) Q 14 [some (.ref 80), some (.ref 1), some (.ref 54), some (.ref 75), some (.int (nI (7 ^ s))), some (.int (nI s)), l6, l7] [] (nn pl) (MM I sp pl) 0 0 := by
  have hs4 := hW.1.2
  intro e
  induction e with
  | zero =>
    intro s he I l6 l7 hfr hrow
    have he : s = ns := by omega
    rw [he] at hrow
    rw [he]
    refine aE_iload dX2_weigh_14 rfl ?_
    refine aE_aload_n dX2_weigh_16 rfl rfl ?_
    refine aE_geti dX2_weigh_17 fw_X2_35 (lt_nn (by decide)) rfl (by decide) rfl ?_
    refine aE_icmp_ge (tgt := 97) dX2_weigh_20 (by decide) (fun h20 => ?_) (fun h20 => absurd (by rw [hfr 80 1 (by omega), hs]; exact Int32.le_refl _) h20)
    exact k0 I _ _ _ hfr hrow
  | succ e ih =>
    intro s he I l6 l7 hfr hrow
    refine aE_iload dX2_weigh_14 rfl ?_
    refine aE_aload_n dX2_weigh_16 rfl rfl ?_
    refine aE_geti dX2_weigh_17 fw_X2_35 (lt_nn (by decide)) rfl (by decide) rfl ?_
    refine aE_icmp_ge (tgt := 97) dX2_weigh_20 (by decide) (fun h20 => absurd h20 (by rw [hfr 80 1 (by omega), hs]; exact nI_ge (by omega) (by omega))) (fun h20 => ?_)
    refine aE_iload dX2_weigh_23 rfl ?_
    refine aE_bipush (v := 7) dX2_weigh_25 (by decide) ?_
    refine aE_imul dX2_weigh_27 ?_
    refine aE_top (x' := nI (7 ^ (s + 1))) (by rw [show (7 : Int32) = nI 7 from rfl, pk_mul, Nat.pow_succ]) ?_
    refine aE_istore dX2_weigh_28 (by decide) rfl (aE_loc (ls' := [_, _, _, _, _, _, _, _]) rfl ?_)
    refine aE_iconst (v := 0) dX2_weigh_30 rfl ?_
    refine aE_istore dX2_weigh_31 (by decide) rfl (aE_loc (ls' := [_, _, _, _, _, _, _, _]) rfl ?_)
    refine l_wg1 nr kd I0 hW hs hr hr8 hrk hkd s (by omega) (nI (7 ^ (s + 1))) (fun J l6 l7 j1 j2 => ?_) 7 0 (by omega) I _ hfr (fun s' b' h => hrow s' b' (by omega))
    have ih2 := ih (s + 1) (by omega) J l6 l7 j1 j2
    refine aE_iinc dX2_weigh_91 rfl (a_inc _) (by decide) rfl (aE_loc (ls' := [_, _, _, _, _, _, _, _]) rfl ?_)
    refine aE_goto (tgt := 14) dX2_weigh_94 (by decide) ?_
    exact ih2
end CMKT
