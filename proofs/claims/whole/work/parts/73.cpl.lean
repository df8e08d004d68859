/-- the planner's data: d the stops of the school, c the school -/
def CD (I : Nat → Nat → Int32) (d : pD) (c : pC) : Prop := I 147 0 = nI d.1 ∧ d.1 ≤ 10 ∧ (∀ i, i < d.1 → I 149 i = d.2.2.2.1 i) ∧ (∀ i, i < d.1 → I 150 i = d.2.2.1 (d.2.1 i) c.1) ∧ ∀ i j, i < d.1 → j < d.1 → I (152 + i) j = d.2.2.1 (d.2.1 i) (d.2.1 j)
theorem CD_fr {I J : Nat → Nat → Int32} {d : pD} {c : pC} (h : CD I d c) (hq : ∀ q i, 147 ≤ q → q ≤ 161 → J q i = I q i) : CD J d c :=
  ⟨(hq 147 0 (by omega) (by omega)).trans h.1, h.2.1, fun i hi => (hq 149 i (by omega) (by omega)).trans (h.2.2.1 i hi), fun i hi => (hq 150 i (by omega) (by omega)).trans (h.2.2.2.1 i hi), fun i j hi hj => (hq (152 + i) j (by omega) (by have := h.2.1; omega)).trans (h.2.2.2.2 i j hi hj)⟩
section CPL
variable {z : Nat × (Nat → Int32)} {n : Nat} {mem : aM} {I : Nat → Nat → Int32} {sp : Nat → Nat} {pl : Bool} {Q : Option Value → Nat → aM → Prop} {R : Room}
theorem c_has (S k : Nat) (hS : S < 2 ^ 31) (hk : k < 32) : aRuns mX5_has (rK 0) [.int (nI S), .int (nI k)] n mem (a_ri (if S.testBit k then 1 else 0) n mem) := by
  refine aRuns_of pn_X5_has (Nat.le_of_ble_eq_true rfl) (fun z => aE_loc (ls' := [_, _]) rfl ?_)
  refine aE_iload_n dX5_has_0 rfl rfl ?_
  refine aE_iload_n dX5_has_1 rfl rfl ?_
  refine aE_ishr dX5_has_2 ?_
  refine aE_iconst (v := 1) dX5_has_3 rfl ?_
  refine aE_iand dX5_has_4 ?_
  refine aE_top (nb_has hS hk) ?_
  refine aE_if_eq (tgt := 12) dX5_has_5 (by decide) (fun h5 => ?_) (fun h5 => ?_)
  · skip
    refine aE_iconst (v := 0) dX5_has_12 rfl ?_
    refine aE_zret dX5_has_13 rfl (by first | exact Or.inl rfl | exact Or.inr rfl | exact wi_or _ _ _ | assumption) ⟨by decide, by decide⟩ ?_
    first
      | exact a_rio (by rw [if_neg (tb_no h5)]) rfl
      | exact a_rio (by rw [if_pos (tb_of h5)]) rfl
  · skip
    refine aE_iconst (v := 1) dX5_has_8 rfl ?_
    refine aE_goto (tgt := 13) dX5_has_9 (by decide) ?_
    refine aE_zret dX5_has_13 rfl (by first | exact Or.inl rfl | exact Or.inr rfl | exact wi_or _ _ _ | assumption) ⟨by decide, by decide⟩ ?_
    first
      | exact a_rio (by rw [if_neg (tb_no h5)]) rfl
      | exact a_rio (by rw [if_pos (tb_of h5)]) rfl
theorem l_load (d : pD) (c : pC) (S : Nat) (hS : S < 1024) (hD : CD I d c) (hQ : qi Q (sumB S d.2.2.2.1 d.1) I sp true) : ∀ (e i : Nat), i + e = d.1 → aE z mX5_load (rK 1) Q 4 [some (.ref 147), some (.int (nI S)), some (.int (sumB S d.2.2.2.1 i)), some (.int (nI i))] [] (nn true) (MM I sp true) 0 0 := by
  have h10 := hD.2.1
  intro e
  induction e with
  | zero =>
    intro i hi
    have hi : i = d.1 := by omega
    subst hi
    refine aE_iload_n dX5_load_4 rfl rfl ?_
    refine aE_aload_n dX5_load_5 rfl rfl ?_
    refine aE_geti dX5_load_6 fw_X5_42 (lt_nt (by decide)) rfl (by decide) rfl ?_
    refine aE_icmp_ge (tgt := 35) dX5_load_9 (by decide) (fun h9 => ?_) (fun h9 => absurd (by rw [hD.1]; exact Int32.le_refl _) h9)
    refine aE_iload_n dX5_load_35 rfl rfl ?_
    refine aE_iret dX5_load_36 rfl ⟨by decide, by decide⟩ ?_
    exact hQ
  | succ e ih =>
    intro i hi
    have ih2 := ih (i + 1) (by omega)
    rw [sumB_s] at ih2
    refine aE_iload_n dX5_load_4 rfl rfl ?_
    refine aE_aload_n dX5_load_5 rfl rfl ?_
    refine aE_geti dX5_load_6 fw_X5_42 (lt_nt (by decide)) rfl (by decide) rfl ?_
    refine aE_icmp_ge (tgt := 35) dX5_load_9 (by decide) (fun h9 => absurd h9 (by rw [hD.1]; exact nI_ge (by omega) (by omega))) (fun h9 => ?_)
    refine aE_iload_n dX5_load_12 rfl rfl ?_
    refine aE_iload_n dX5_load_13 rfl rfl ?_
    refine aE_cSi dX5_load_14 lk_X5_104 ms_X5_has (c_has S i (by omega) (by omega)) rfl rfl ⟨by decide, by decide⟩ (Nat.le_of_ble_eq_true rfl) ⟨rfl, rfl⟩ ⟨by decide, by decide⟩ ?_
    refine aE_if_eq (tgt := 29) dX5_load_17 (by decide) (fun h17 => ?_) (fun h17 => ?_)
    · skip
      rw [if_neg (tb_no h17), Int32.add_zero] at ih2
      refine aE_iinc dX5_load_29 rfl (a_inc _) (by decide) rfl (aE_loc (ls' := [_, _, _, _]) rfl ?_)
      refine aE_goto (tgt := 4) dX5_load_32 (by decide) ?_
      exact ih2
    · skip
      rw [if_pos (tb_of h17)] at ih2
      refine aE_iload_n dX5_load_20 rfl rfl ?_
      refine aE_aload_n dX5_load_21 rfl rfl ?_
      refine aE_getf (v := .ref 149) dX5_load_22 fw_X5_15 (lt_nt (by decide)) rfl rfl ?_
      refine aE_iload_n dX5_load_25 rfl rfl ?_
      refine aE_ildM dX5_load_26 (lt_nt (by decide)) rfl (by decide) rfl (by omega) ?_
      refine aE_top (hD.2.2.1 i (by omega)) ?_
      refine aE_iadd dX5_load_27 ?_
      refine aE_istore_n dX5_load_28 rfl (by decide) rfl (aE_loc (ls' := [_, _, _, _]) rfl ?_)
      refine aE_iinc dX5_load_29 rfl (a_inc _) (by decide) rfl (aE_loc (ls' := [_, _, _, _]) rfl ?_)
      refine aE_goto (tgt := 4) dX5_load_32 (by decide) ?_
      exact ih2
theorem c_load (d : pD) (c : pC) (S : Nat) (hS : S < 1024) (hD : CD I d c) : aRuns mX5_load (rK 1) [.ref 147, .int (nI S)] (nn true) (MM I sp true) (a_ri (sumB S d.2.2.2.1 d.1) (nn true) (MM I sp true)) := by
  refine aRuns_of pn_X5_load (Nat.le_of_ble_eq_true rfl) (fun z => aE_loc (ls' := [_, _, _, _]) rfl ?_)
  refine aE_iconst (v := 0) dX5_load_0 rfl ?_
  refine aE_istore_n dX5_load_1 rfl (by decide) rfl (aE_loc (ls' := [_, _, _, _]) rfl ?_)
  refine aE_iconst (v := 0) dX5_load_2 rfl ?_
  refine aE_istore_n dX5_load_3 rfl (by decide) rfl (aE_loc (ls' := [_, _, _, _]) rfl ?_)
  exact l_load d c S hS hD ⟨rfl, rfl, rfl⟩ d.1 0 (by omega)
theorem l_shF (d : pD) (c : pC) (S f : Nat) (hS : S < 1024) (hf : f < d.1) (hb : S.testBit f = true) (hd : d01 d) (hD : CD I d c) (htab : ∀ g, g < d.1 → (bdiff S (2 ^ f)).testBit g = true → I 162 (10 * (bdiff S (2 ^ f)) + g) = fS d c (bdiff S (2 ^ f)) g) (hQ : qi Q (fS d c S f) I sp true) : ∀ (e g : Nat), g + e = d.1 → aE z mX5_shortestFrom (rK 1) Q 28 [some (.ref 147), some (.int (nI S)), some (.int (nI f)), some (.int (nI (bdiff S (2 ^ f)))), some (.int (minF (bdiff S (2 ^ f)) (fun g => d.2.2.1 (d.2.1 f) (d.2.1 g) + fS d c (bdiff S (2 ^ f)) g) (if (bdiff S (2 ^ f)) = 0 then d.2.2.1 (d.2.1 f) c.1 else 1000000) g)), some (.int (nI g))] [] (nn true) (MM I sp true) 0 0 := by
  have h10 := hD.2.1
  have hle := bdiff_le S (2 ^ f)
  intro e
  induction e with
  | zero =>
    intro g hg
    have hg : g = d.1 := by omega
    subst hg
    rw [fS_pre hb, ← finV_mn (preF_b hd S f).1 (preF_b hd S f).2] at hQ
    refine aE_iload dX5_shortestFrom_28 rfl ?_
    refine aE_aload_n dX5_shortestFrom_30 rfl rfl ?_
    refine aE_geti dX5_shortestFrom_31 fw_X5_42 (lt_nt (by decide)) rfl (by decide) rfl ?_
    refine aE_icmp_ge (tgt := 81) dX5_shortestFrom_34 (by decide) (fun h34 => ?_) (fun h34 => absurd (by rw [hD.1]; exact Int32.le_refl _) h34)
    refine aE_ldc dX5_shortestFrom_81 ct_X5_46 ?_
    refine aE_iconst (v := 1) dX5_shortestFrom_83 rfl ?_
    refine aE_iload dX5_shortestFrom_84 rfl ?_
    refine aE_iadd dX5_shortestFrom_86 ?_
    refine aE_min dX5_shortestFrom_87 mm_X5_112 ⟨by decide, by decide⟩ ⟨by decide, by decide⟩ (Nat.le_of_ble_eq_true rfl) ?_
    refine aE_top (x' := mn (1 + preF d c S f) 1000000) rfl ?_
    refine aE_iret dX5_shortestFrom_90 rfl ⟨by decide, by decide⟩ ?_
    exact hQ
  | succ e ih =>
    intro g hg
    have ih2 := ih (g + 1) (by omega)
    rw [minF_s] at ih2
    refine aE_iload dX5_shortestFrom_28 rfl ?_
    refine aE_aload_n dX5_shortestFrom_30 rfl rfl ?_
    refine aE_geti dX5_shortestFrom_31 fw_X5_42 (lt_nt (by decide)) rfl (by decide) rfl ?_
    refine aE_icmp_ge (tgt := 81) dX5_shortestFrom_34 (by decide) (fun h34 => absurd h34 (by rw [hD.1]; exact nI_ge (by omega) (by omega))) (fun h34 => ?_)
    refine aE_iload_n dX5_shortestFrom_37 rfl rfl ?_
    refine aE_iload dX5_shortestFrom_38 rfl ?_
    refine aE_cSi dX5_shortestFrom_40 lk_X5_104 ms_X5_has (c_has (bdiff S (2 ^ f)) g (by omega) (by omega)) rfl rfl ⟨by decide, by decide⟩ (Nat.le_of_ble_eq_true rfl) ⟨rfl, rfl⟩ ⟨by decide, by decide⟩ ?_
    refine aE_if_eq (tgt := 75) dX5_shortestFrom_43 (by decide) (fun h43 => ?_) (fun h43 => ?_)
    · skip
      rw [if_neg (tb_no h43)] at ih2
      refine aE_iinc dX5_shortestFrom_75 rfl (a_inc _) (by decide) rfl (aE_loc (ls' := [_, _, _, _, _, _]) rfl ?_)
      refine aE_goto (tgt := 28) dX5_shortestFrom_78 (by decide) ?_
      exact ih2
    · skip
      have hgb := tb_of h43
      rw [if_pos hgb] at ih2
      refine aE_iload dX5_shortestFrom_46 rfl ?_
      refine aE_aload_n dX5_shortestFrom_48 rfl rfl ?_
      refine aE_getf (v := .ref 151) dX5_shortestFrom_49 fw_X5_23 (lt_nt (by decide)) rfl rfl ?_
      refine aE_iload_n dX5_shortestFrom_52 rfl rfl ?_
      refine aE_aald (t := 105) dX5_shortestFrom_53 (lt_nt (by decide)) ⟨by decide, by decide⟩ rfl (by decide) rfl (show f < 10 by omega) (mm_btw (show f < 10 by omega)) ?_
      refine aE_iload dX5_shortestFrom_54 rfl ?_
      refine aE_ildM dX5_shortestFrom_56 (lt_nt (by omega)) (sh_btw (show f < 10 by omega)) (by decide) rfl (by omega) ?_
      refine aE_top (hD.2.2.2.2 f g hf (by omega)) ?_
      refine aE_aload_n dX5_shortestFrom_57 rfl rfl ?_
      refine aE_getf (v := .ref 162) dX5_shortestFrom_58 fw_X5_26 (lt_nt (by decide)) rfl rfl ?_
      refine aE_iload_n dX5_shortestFrom_61 rfl rfl ?_
      refine aE_bipush (v := 10) dX5_shortestFrom_62 (by decide) ?_
      refine aE_imul dX5_shortestFrom_64 ?_
      refine aE_top (x' := nI (10 * (bdiff S (2 ^ f)))) (by rw [show (10 : Int32) = nI 10 from rfl, pk_mul, Nat.mul_comm]) ?_
      refine aE_iload dX5_shortestFrom_65 rfl ?_
      refine aE_iadd dX5_shortestFrom_67 ?_
      refine aE_top (nI_add _ _) ?_
      refine aE_ildM dX5_shortestFrom_68 (lt_nt (by decide)) rfl (by decide) rfl (by omega) ?_
      refine aE_top (htab g (by omega) hgb) ?_
      refine aE_iadd dX5_shortestFrom_69 ?_
      refine aE_min dX5_shortestFrom_70 mm_X5_112 ⟨by decide, by decide⟩ ⟨by decide, by decide⟩ (Nat.le_of_ble_eq_true rfl) ?_
      refine aE_istore dX5_shortestFrom_73 (by decide) rfl (aE_loc (ls' := [_, _, _, _, _, _]) rfl ?_)
      refine aE_iinc dX5_shortestFrom_75 rfl (a_inc _) (by decide) rfl (aE_loc (ls' := [_, _, _, _, _, _]) rfl ?_)
      refine aE_goto (tgt := 28) dX5_shortestFrom_78 (by decide) ?_
      exact ih2
theorem c_shortestFrom (d : pD) (c : pC) (S f : Nat) (hS : S < 1024) (hf : f < d.1) (hb : S.testBit f = true) (hd : d01 d) (hD : CD I d c) (htab : ∀ g, g < d.1 → (bdiff S (2 ^ f)).testBit g = true → I 162 (10 * (bdiff S (2 ^ f)) + g) = fS d c (bdiff S (2 ^ f)) g) : aRuns mX5_shortestFrom (rK 1) [.ref 147, .int (nI S), .int (nI f)] (nn true) (MM I sp true) (a_ri (fS d c S f) (nn true) (MM I sp true)) := by
  have h10 := hD.2.1
  have hle := bdiff_le S (2 ^ f)
  refine aRuns_of pn_X5_shortestFrom (Nat.le_of_ble_eq_true rfl) (fun z => aE_loc (ls' := [_, _, _, _, _, _]) rfl ?_)
  refine aE_iload_n dX5_shortestFrom_0 rfl rfl ?_
  refine aE_iconst (v := 1) dX5_shortestFrom_1 rfl ?_
  refine aE_iload_n dX5_shortestFrom_2 rfl rfl ?_
  refine aE_ishl dX5_shortestFrom_3 ?_
  refine aE_top (nb_1shl (by omega)) ?_
  refine aE_iconst (v := -1) dX5_shortestFrom_4 rfl ?_
  refine aE_ixor dX5_shortestFrom_5 ?_
  refine aE_iand dX5_shortestFrom_6 ?_
  refine aE_top (nb_andn _ _) ?_
  refine aE_istore_n dX5_shortestFrom_7 rfl (by decide) rfl (aE_loc (ls' := [_, _, _, _, _, _]) rfl ?_)
  refine aE_iload_n dX5_shortestFrom_8 rfl rfl ?_
  refine aE_if_ne (tgt := 21) dX5_shortestFrom_9 (by decide) (fun h9 => ?_) (fun h9 => ?_)
  · skip
    refine aE_ldc dX5_shortestFrom_21 ct_X5_46 ?_
    refine aE_top (x' := (if (bdiff S (2 ^ f)) = 0 then d.2.2.1 (d.2.1 f) c.1 else 1000000)) (by
      first
        | exact (if_neg (fun q => h9 (by rw [q]; rfl))).symm
        | exact (if_pos ((nI_eq (b := 0) (by omega) (by omega)).mp (by first | exact h9 | exact Classical.not_not.mp h9))).symm) ?_
    refine aE_istore dX5_shortestFrom_23 (by decide) rfl (aE_loc (ls' := [_, _, _, _, _, _]) rfl ?_)
    refine aE_iconst (v := 0) dX5_shortestFrom_25 rfl ?_
    refine aE_istore dX5_shortestFrom_26 (by decide) rfl (aE_loc (ls' := [_, _, _, _, _, _]) rfl ?_)
    exact l_shF d c S f hS hf hb hd hD htab ⟨rfl, rfl, rfl⟩ d.1 0 (by omega)
  · skip
    refine aE_aload_n dX5_shortestFrom_12 rfl rfl ?_
    refine aE_getf (v := .ref 150) dX5_shortestFrom_13 fw_X5_18 (lt_nt (by decide)) rfl rfl ?_
    refine aE_iload_n dX5_shortestFrom_16 rfl rfl ?_
    refine aE_ildM dX5_shortestFrom_17 (lt_nt (by decide)) rfl (by decide) rfl (by omega) ?_
    refine aE_top (hD.2.2.2.1 f hf) ?_
    refine aE_goto (tgt := 23) dX5_shortestFrom_18 (by decide) ?_
    refine aE_top (x' := (if (bdiff S (2 ^ f)) = 0 then d.2.2.1 (d.2.1 f) c.1 else 1000000)) (by
      first
        | exact (if_neg (fun q => h9 (by rw [q]; rfl))).symm
        | exact (if_pos ((nI_eq (b := 0) (by omega) (by omega)).mp (by first | exact h9 | exact Classical.not_not.mp h9))).symm) ?_
    refine aE_istore dX5_shortestFrom_23 (by decide) rfl (aE_loc (ls' := [_, _, _, _, _, _]) rfl ?_)
    refine aE_iconst (v := 0) dX5_shortestFrom_25 rfl ?_
    refine aE_istore dX5_shortestFrom_26 (by decide) rfl (aE_loc (ls' := [_, _, _, _, _, _]) rfl ?_)
    exact l_shF d c S f hS hf hb hd hD htab ⟨rfl, rfl, rfl⟩ d.1 0 (by omega)
theorem l_short (d : pD) (c : pC) (S : Nat) (hS : S < 1024) (hd : d01 d) (I0 : Nat → Nat → Int32) (hD : CD I0 d c) (htab : ∀ R g, R < S → bdiff R S = 0 → g < d.1 → R.testBit g = true → I0 162 (10 * R + g) = fS d c R g) (hQ : ∀ J, (∀ q i, ¬ (q = 162 ∧ 10 * S ≤ i ∧ i < 10 * S + 10) → J q i = I0 q i) → (∀ g, g < d.1 → S.testBit g = true → J 162 (10 * S + g) = fS d c S g) → qi Q (lS d c S) J sp true) : ∀ (e i : Nat) (I : Nat → Nat → Int32) (l4 : Option Value), i + e = d.1 → (∀ q i, ¬ (q = 162 ∧ 10 * S ≤ i ∧ i < 10 * S + 10) → I q i = I0 q i) → (∀ g, g < i → S.testBit g = true → I 162 (10 * S + g) = fS d c S g) → aE z mX5_shortest (rK 2) Q 5 [some (.ref 147), some (.int (nI S)), some (.int (minF S (fS d c S) 1000000 i)), some (.int (nI i)), l4] [] (nn true) (MM I sp true) 0 0 := by
  have h10 := hD.2.1
  intro e
  induction e with
  | zero =>
    intro i I l4 hi hfr hrow
    have hi : i = d.1 := by omega
    subst hi
    refine aE_iload_n dX5_shortest_5 rfl rfl ?_
    refine aE_aload_n dX5_shortest_6 rfl rfl ?_
    refine aE_geti dX5_shortest_7 fw_X5_42 (lt_nt (by decide)) rfl (by decide) rfl ?_
    refine aE_icmp_ge (tgt := 55) dX5_shortest_10 (by decide) (fun h10 => ?_) (fun h10 => absurd (by rw [hfr 147 0 (by omega), hD.1]; exact Int32.le_refl _) h10)
    refine aE_iload_n dX5_shortest_55 rfl rfl ?_
    refine aE_iret dX5_shortest_56 rfl ⟨by decide, by decide⟩ ?_
    exact hQ I hfr hrow
  | succ e ih =>
    intro i I l4 hi hfr hrow
    have hD2 : CD I d c := CD_fr hD (fun q i h1 h2 => hfr q i (by omega))
    have skip1 : ¬ S.testBit i = true → ∀ l4, aE z mX5_shortest (rK 2) Q 49 [some (.ref 147), some (.int (nI S)), some (.int (minF S (fS d c S) 1000000 i)), some (.int (nI i)), l4] [] (nn true) (MM I sp true) 0 0 := by
      intro hb l4
      have ih2 := ih (i + 1) I l4 (by omega) hfr (fun g hg hgb => hrow g (by
        have : g ≠ i := fun e => hb (e ▸ hgb)
        omega) hgb)
      rw [minF_s, if_neg hb] at ih2
      refine aE_iinc dX5_shortest_49 rfl (a_inc _) (by decide) rfl (aE_loc (ls' := [_, _, _, _, _]) rfl ?_)
      refine aE_goto (tgt := 5) dX5_shortest_52 (by decide) ?_
      exact ih2
    refine aE_iload_n dX5_shortest_5 rfl rfl ?_
    refine aE_aload_n dX5_shortest_6 rfl rfl ?_
    refine aE_geti dX5_shortest_7 fw_X5_42 (lt_nt (by decide)) rfl (by decide) rfl ?_
    refine aE_icmp_ge (tgt := 55) dX5_shortest_10 (by decide) (fun h10 => absurd h10 (by rw [hD2.1]; exact nI_ge (by omega) (by omega))) (fun h10 => ?_)
    refine aE_iload_n dX5_shortest_13 rfl rfl ?_
    refine aE_iload_n dX5_shortest_14 rfl rfl ?_
    refine aE_cSi dX5_shortest_15 lk_X5_104 ms_X5_has (c_has S i (by omega) (by omega)) rfl rfl ⟨by decide, by decide⟩ (Nat.le_of_ble_eq_true rfl) ⟨rfl, rfl⟩ ⟨by decide, by decide⟩ ?_
    refine aE_if_eq (tgt := 49) dX5_shortest_18 (by decide) (fun h18 => ?_) (fun h18 => ?_)
    · skip
      exact skip1 (tb_no h18) _
    · skip
      have hb := tb_of h18
      refine aE_aload_n dX5_shortest_21 rfl rfl ?_
      refine aE_iload_n dX5_shortest_22 rfl rfl ?_
      refine aE_iload_n dX5_shortest_23 rfl rfl ?_
      refine aE_cVi dX5_shortest_24 lk_X5_108 mv_X5_shortestFrom (c_shortestFrom d c S i hS (by omega) hb hd hD2 (fun g hg hgb => by
        have hlt := bdiff_lt hb
        rw [hfr 162 _ (by have : g < 10 := by omega
                          omega)]
        exact htab _ g hlt (bdiff_sub _ _) hg hgb)) rfl (lt_nt (by decide)) rfl rfl ⟨by decide, by decide⟩ (Nat.le_of_ble_eq_true rfl) ⟨rfl, rfl⟩ ⟨by decide, by decide⟩ ?_
      refine aE_istore dX5_shortest_27 (by decide) rfl (aE_loc (ls' := [_, _, _, _, _]) rfl ?_)
      refine aE_aload_n dX5_shortest_29 rfl rfl ?_
      refine aE_getf (v := .ref 162) dX5_shortest_30 fw_X5_26 (lt_nt (by decide)) rfl rfl ?_
      refine aE_iload_n dX5_shortest_33 rfl rfl ?_
      refine aE_bipush (v := 10) dX5_shortest_34 (by decide) ?_
      refine aE_imul dX5_shortest_36 ?_
      refine aE_top (x' := nI (10 * S)) (by rw [show (10 : Int32) = nI 10 from rfl, pk_mul, Nat.mul_comm]) ?_
      refine aE_iload_n dX5_shortest_37 rfl rfl ?_
      refine aE_iadd dX5_shortest_38 ?_
      refine aE_top (nI_add _ _) ?_
      refine aE_iload dX5_shortest_39 rfl ?_
      refine aE_istM dX5_shortest_41 (lt_nt (by decide)) rfl (by decide) rfl (by omega) ?_
      refine aE_iload_n dX5_shortest_42 rfl rfl ?_
      refine aE_iload dX5_shortest_43 rfl ?_
      refine aE_min dX5_shortest_45 mm_X5_112 ⟨by decide, by decide⟩ ⟨by decide, by decide⟩ (Nat.le_of_ble_eq_true rfl) ?_
      refine aE_top (x' := minF S (fS d c S) 1000000 (i + 1)) (by rw [minF_s, if_pos hb]; rfl) ?_
      refine aE_istore_n dX5_shortest_48 rfl (by decide) rfl (aE_loc (ls' := [_, _, _, _, _]) rfl ?_)
      refine aE_iinc dX5_shortest_49 rfl (a_inc _) (by decide) rfl (aE_loc (ls' := [_, _, _, _, _]) rfl ?_)
      refine aE_goto (tgt := 5) dX5_shortest_52 (by decide) ?_
      refine ih (i + 1) _ _ (by omega) (fun q j h => (iu_ne (by omega)).trans (hfr q j h)) (fun g hg hgb => ?_)
      by_cases e : g = i
      · subst e; exact iu_eq
      · exact (iu_ne (by omega)).trans (hrow g (by omega) hgb)
theorem c_shortest (d : pD) (c : pC) (S : Nat) (hS : S < 1024) (hd : d01 d) (hD : CD I d c) (htab : ∀ R g, R < S → bdiff R S = 0 → g < d.1 → R.testBit g = true → I 162 (10 * R + g) = fS d c R g) (hQ : ∀ J, (∀ q i, ¬ (q = 162 ∧ 10 * S ≤ i ∧ i < 10 * S + 10) → J q i = I q i) → (∀ g, g < d.1 → S.testBit g = true → J 162 (10 * S + g) = fS d c S g) → qi Q (lS d c S) J sp true) : aRuns mX5_shortest (rK 2) [.ref 147, .int (nI S)] (nn true) (MM I sp true) Q := by
  refine aRuns_of pn_X5_shortest (Nat.le_of_ble_eq_true rfl) (fun z => aE_loc (ls' := [_, _, _, _, _]) rfl ?_)
  refine aE_ldc dX5_shortest_0 ct_X5_46 ?_
  refine aE_istore_n dX5_shortest_2 rfl (by decide) rfl (aE_loc (ls' := [_, _, _, _, _]) rfl ?_)
  refine aE_iconst (v := 0) dX5_shortest_3 rfl ?_
  refine aE_istore_n dX5_shortest_4 rfl (by decide) rfl (aE_loc (ls' := [_, _, _, _, _]) rfl ?_)
  exact l_short d c S hS hd I hD htab hQ d.1 0 I _ (by omega) (fun _ _ _ => rfl) (fun g hg => absurd hg (by omega))
end CPL
