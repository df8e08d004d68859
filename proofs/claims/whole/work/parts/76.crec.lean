section CPL3
variable {z : Nat × (Nat → Int32)} {n : Nat} {mem : aM} {I : Nat → Nat → Int32} {sp : Nat → Nat} {pl : Bool} {Q : Option Value → Nat → aM → Prop} {R : Room}
theorem l_first (d : pD) (c : pC) (S : Nat) (bh : Option Nat) (mi : Int32) (hS : S < 1024) (hD : CD I d c) (htab : ∀ g, g < d.1 → S.testBit g = true → I 162 (10 * S + g) = fS d c S g) (hbh : ∀ b, bh = some b → b < d.1) (hmi : ∀ g, nxt d c S bh = some g → wN d c S bh g = mi) (hQ : qi Q (rv (nxt d c S bh)) I sp true) : ∀ (e j : Nat), j + e = d.1 → (∀ g, nxt d c S bh = some g → j ≤ g) → ∀ l5, aE z mX5_firstWith (rK 1) Q 3 [some (.ref 147), some (.int (nI S)), some (.int (rv bh)), some (.int mi), some (.int (nI j)), l5] [] (nn true) (MM I sp true) 0 0 := by
  have h10 := hD.2.1
  intro e
  induction e with
  | zero =>
    intro j hj hle l5
    have hj : j = d.1 := by omega
    subst hj
    have hn : nxt d c S bh = none := by
      cases hn : nxt d c S bh with
      | none => rfl
      | some g => have := hle g hn; have := (nxt_some hn).1; omega
    rw [hn] at hQ
    refine aE_iload dX5_firstWith_3 rfl ?_
    refine aE_aload_n dX5_firstWith_5 rfl rfl ?_
    refine aE_geti dX5_firstWith_6 fw_X5_42 (lt_nt (by decide)) rfl (by decide) rfl ?_
    refine aE_icmp_ge (tgt := 68) dX5_firstWith_9 (by decide) (fun h9 => ?_) (fun h9 => absurd (by rw [hD.1]; exact Int32.le_refl _) h9)
    refine aE_iconst (v := -1) dX5_firstWith_68 rfl ?_
    refine aE_iret dX5_firstWith_69 rfl ⟨by decide, by decide⟩ ?_
    exact hQ
  | succ e ih =>
    intro j hj hle l5
    have go : (∀ g, nxt d c S bh = some g → j ≠ g) → ∀ l5, aE z mX5_firstWith (rK 1) Q 62 [some (.ref 147), some (.int (nI S)), some (.int (rv bh)), some (.int mi), some (.int (nI j)), l5] [] (nn true) (MM I sp true) 0 0 := by
      intro hne l5
      have ih2 := ih (j + 1) (by omega) (fun g hg => by have := hle g hg; have := hne g hg; omega)
      refine aE_iinc dX5_firstWith_62 rfl (a_inc _) (by decide) rfl (aE_loc (ls' := [_, _, _, _, _, _]) rfl ?_)
      refine aE_goto (tgt := 3) dX5_firstWith_65 (by decide) ?_
      exact ih2 _
    have tail : S.testBit j = true → ∀ x, x = wyP d bh j → aE z mX5_firstWith (rK 1) Q 40 [some (.ref 147), some (.int (nI S)), some (.int (rv bh)), some (.int mi), some (.int (nI j)), some (.int x)] [] (nn true) (MM I sp true) 0 0 := by
      intro hb x hx
      subst hx
      refine aE_iload dX5_firstWith_40 rfl ?_
      refine aE_aload_n dX5_firstWith_42 rfl rfl ?_
      refine aE_getf (v := .ref 162) dX5_firstWith_43 fw_X5_26 (lt_nt (by decide)) rfl rfl ?_
      refine aE_iload_n dX5_firstWith_46 rfl rfl ?_
      refine aE_bipush (v := 10) dX5_firstWith_47 (by decide) ?_
      refine aE_imul dX5_firstWith_49 ?_
      refine aE_top (x' := nI (10 * S)) (by rw [show (10 : Int32) = nI 10 from rfl, pk_mul, Nat.mul_comm]) ?_
      refine aE_iload dX5_firstWith_50 rfl ?_
      refine aE_iadd dX5_firstWith_52 ?_
      refine aE_top (nI_add _ _) ?_
      refine aE_ildM dX5_firstWith_53 (lt_nt (by decide)) rfl (by decide) rfl (by omega) ?_
      refine aE_top (htab j (by omega) hb) ?_
      refine aE_iadd dX5_firstWith_54 ?_
      refine aE_iload_n dX5_firstWith_55 rfl rfl ?_
      refine aE_icmp_ne (tgt := 62) dX5_firstWith_56 (by decide) (fun h56 => ?_) (fun h56 => ?_)
      · skip
        exact go (fun g hg e2 => h56 (by rw [e2]; exact hmi g hg)) _
      · skip
        refine aE_iload dX5_firstWith_59 rfl ?_
        refine aE_iret dX5_firstWith_61 rfl ⟨by decide, by decide⟩ ?_
        have h56' : wN d c S bh j = mi := by first | exact h56 | exact Classical.not_not.mp h56
        cases hn : nxt d c S bh with
        | none => exact absurd hb (by rw [nxt_none hn j (by omega)]; simp)
        | some g =>
          obtain ⟨a1, a2, a3, a4⟩ := nxt_some hn
          have hjg : j = g := by
            rcases Nat.lt_or_ge j g with q | q
            · have := a4 j q hb
              rw [hmi g hn, h56'] at this
              exact absurd this (fun w => Int32.lt_irrefl w)
            · have := hle g hn; omega
          rw [hn] at hQ
          subst hjg
          exact hQ
    cases bh with
    | none =>
      refine aE_iload dX5_firstWith_3 rfl ?_
      refine aE_aload_n dX5_firstWith_5 rfl rfl ?_
      refine aE_geti dX5_firstWith_6 fw_X5_42 (lt_nt (by decide)) rfl (by decide) rfl ?_
      refine aE_icmp_ge (tgt := 68) dX5_firstWith_9 (by decide) (fun h9 => absurd h9 (by rw [hD.1]; exact nI_ge (by omega) (by omega))) (fun h9 => ?_)
      refine aE_iload_n dX5_firstWith_12 rfl rfl ?_
      refine aE_iload dX5_firstWith_13 rfl ?_
      refine aE_cSi dX5_firstWith_15 lk_X5_104 ms_X5_has (c_has S j (by omega) (by omega)) rfl rfl ⟨by decide, by decide⟩ (Nat.le_of_ble_eq_true rfl) ⟨rfl, rfl⟩ ⟨by decide, by decide⟩ ?_
      refine aE_if_eq (tgt := 62) dX5_firstWith_18 (by decide) (fun h18 => ?_) (fun h18 => ?_)
      · skip
        exact go (fun g hg e2 => by have := (nxt_some hg).2.1; rw [← e2] at this; exact tb_no h18 this) _
      · skip
        refine aE_iload_n dX5_firstWith_21 rfl rfl ?_
        refine aE_if_ge (tgt := 29) dX5_firstWith_22 (by decide) (fun h22 => absurd h22 (by decide)) (fun h22 => ?_)
        refine aE_iconst (v := 0) dX5_firstWith_25 rfl ?_
        refine aE_goto (tgt := 38) dX5_firstWith_26 (by decide) ?_
        refine aE_istore dX5_firstWith_38 (by decide) rfl (aE_loc (ls' := [_, _, _, _, _, _]) rfl ?_)
        exact tail (tb_of h18) _ rfl
    | some b =>
      have hb9 := hbh b rfl
      refine aE_iload dX5_firstWith_3 rfl ?_
      refine aE_aload_n dX5_firstWith_5 rfl rfl ?_
      refine aE_geti dX5_firstWith_6 fw_X5_42 (lt_nt (by decide)) rfl (by decide) rfl ?_
      refine aE_icmp_ge (tgt := 68) dX5_firstWith_9 (by decide) (fun h9 => absurd h9 (by rw [hD.1]; exact nI_ge (by omega) (by omega))) (fun h9 => ?_)
      refine aE_iload_n dX5_firstWith_12 rfl rfl ?_
      refine aE_iload dX5_firstWith_13 rfl ?_
      refine aE_cSi dX5_firstWith_15 lk_X5_104 ms_X5_has (c_has S j (by omega) (by omega)) rfl rfl ⟨by decide, by decide⟩ (Nat.le_of_ble_eq_true rfl) ⟨rfl, rfl⟩ ⟨by decide, by decide⟩ ?_
      refine aE_if_eq (tgt := 62) dX5_firstWith_18 (by decide) (fun h18 => ?_) (fun h18 => ?_)
      · skip
        exact go (fun g hg e2 => by have := (nxt_some hg).2.1; rw [← e2] at this; exact tb_no h18 this) _
      · skip
        refine aE_iload_n dX5_firstWith_21 rfl rfl ?_
        refine aE_if_ge (tgt := 29) dX5_firstWith_22 (by decide) (fun h22 => ?_) (fun h22 => absurd (nI_pos' (by omega)) h22)
        refine aE_aload_n dX5_firstWith_29 rfl rfl ?_
        refine aE_getf (v := .ref 151) dX5_firstWith_30 fw_X5_23 (lt_nt (by decide)) rfl rfl ?_
        refine aE_iload_n dX5_firstWith_33 rfl rfl ?_
        refine aE_aald (t := 105) dX5_firstWith_34 (lt_nt (by decide)) ⟨by decide, by decide⟩ rfl (by decide) rfl (show b < 10 by omega) (mm_btw (show b < 10 by omega)) ?_
        refine aE_iload dX5_firstWith_35 rfl ?_
        refine aE_ildM dX5_firstWith_37 (lt_nt (by omega)) (sh_btw (show b < 10 by omega)) (by decide) rfl (by omega) ?_
        refine aE_top (hD.2.2.2.2 b j hb9 (by omega)) ?_
        refine aE_istore dX5_firstWith_38 (by decide) rfl (aE_loc (ls' := [_, _, _, _, _, _]) rfl ?_)
        exact tail (tb_of h18) _ rfl
theorem c_firstWith (d : pD) (c : pC) (S : Nat) (bh : Option Nat) (mi : Int32) (hS : S < 1024) (hD : CD I d c) (htab : ∀ g, g < d.1 → S.testBit g = true → I 162 (10 * S + g) = fS d c S g) (hbh : ∀ b, bh = some b → b < d.1) (hmi : ∀ g, nxt d c S bh = some g → wN d c S bh g = mi) : aRuns mX5_firstWith (rK 1) [.ref 147, .int (nI S), .int (rv bh), .int mi] (nn true) (MM I sp true) (a_ri (rv (nxt d c S bh)) (nn true) (MM I sp true)) := by
  refine aRuns_of pn_X5_firstWith (Nat.le_of_ble_eq_true rfl) (fun z => aE_loc (ls' := [_, _, _, _, _, _]) rfl ?_)
  refine aE_iconst (v := 0) dX5_firstWith_0 rfl ?_
  refine aE_istore dX5_firstWith_1 (by decide) rfl (aE_loc (ls' := [_, _, _, _, _, _]) rfl ?_)
  exact l_first d c S bh mi hS hD htab hbh hmi ⟨rfl, rfl, rfl⟩ d.1 0 (by omega) (fun g _ => Nat.zero_le _) _
theorem l_rec (d : pD) (c : pC) (e : Nat → Nat) (s S b rc : Nat) (hs : s < 4) (hd : d01 d) (I0 : Nat → Nat → Int32) (hD : CD I0 d c) (hst : ∀ i, i < d.1 → I0 148 i = nI (e i)) (hS : S < 2 ^ d.1) (hS0 : S ≠ 0) (htab : ∀ R g, bdiff R S = 0 → g < d.1 → R.testBit g = true → I0 162 (10 * R + g) = fS d c R g) (hfin : (lS d c S).toInt < 1000000) (hlen : I0 163 S = lS d c S) (hrc : I0 (28 + 4 * s) 4 = nI rc) (hrc10 : rc < 10) (hbg : I0 (29 + 4 * s) rc = nI b) (hbc : b + cdB S 10 ≤ 10) (k0 : ∀ (J : Nat → Nat → Int32) (k : Nat) (l4 l5 l6 : Option Value), k = cdB S 10 → (∀ q i, ¬ (q = 30 + 4 * s ∧ b ≤ i ∧ i < b + cdB S 10) → J q i = I0 q i) → (∀ k' g, k' < k → (oS d c S k').2 = some g → J (30 + 4 * s) (b + k') = nI (e g)) → aE z mX5_recordRoute (rK 2) Q 103 [some (.ref 147), some (.ref (28 + 4 * s)), some (.int (nI S)), some (.int (nI (b + k))), l4, l5, l6] [] (nn true) (MM J sp true) 0 0) : ∀ (m k : Nat) (I : Nat → Nat → Int32) (l6 : Option Value), cdB (oS d c S k).1 10 + k = cdB S 10 → cdB (oS d c S k).1 10 ≤ m → ((oS d c S k).2 = none → (oS d c S k).1 = 0) → (∀ g, (oS d c S k).2 = some g → (fS d c (oS d c S k).1 g).toInt < 1000000) → (∀ q i, ¬ (q = 30 + 4 * s ∧ b ≤ i ∧ i < b + cdB S 10) → I q i = I0 q i) → (∀ k' g, k' < k → (oS d c S k').2 = some g → I (30 + 4 * s) (b + k') = nI (e g)) → aE z mX5_recordRoute (rK 2) Q 28 [some (.ref 147), some (.ref (28 + 4 * s)), some (.int (nI S)), some (.int (nI (b + k))), some (.int (nI (oS d c S k).1)), some (.int (rv (oS d c S k).2)), l6] [] (nn true) (MM I sp true) 0 0 := by
  have h10 := hD.2.1
  have hp := pow10' h10
  intro m
  have stop : ∀ (k : Nat) (I : Nat → Nat → Int32) (l6 : Option Value), cdB (oS d c S k).1 10 + k = cdB S 10 → (oS d c S k).1 = 0 → (∀ q i, ¬ (q = 30 + 4 * s ∧ b ≤ i ∧ i < b + cdB S 10) → I q i = I0 q i) → (∀ k' g, k' < k → (oS d c S k').2 = some g → I (30 + 4 * s) (b + k') = nI (e g)) → aE z mX5_recordRoute (rK 2) Q 28 [some (.ref 147), some (.ref (28 + 4 * s)), some (.int (nI S)), some (.int (nI (b + k))), some (.int (nI (oS d c S k).1)), some (.int (rv (oS d c S k).2)), l6] [] (nn true) (MM I sp true) 0 0 := by
    intro k I l6 hk hz hfr hor
    have hk2 : k = cdB S 10 := by
      rw [hz] at hk
      have h0 : cdB 0 10 = 0 := by decide
      omega
    refine aE_iload dX5_recordRoute_28 rfl ?_
    refine aE_if_eq (tgt := 103) dX5_recordRoute_30 (by decide) (fun h30 => ?_) (fun h30 => absurd (by rw [hz]; rfl) h30)
    exact k0 I k _ _ _ hk2 hfr hor
  induction m with
  | zero =>
    intro k I l6 hk hm hno hff hfr hor
    cases hn : (oS d c S k).2 with
    | none => rw [← hn]; exact stop k I l6 hk (hno hn) hfr hor
    | some g =>
      obtain ⟨a1, a2, a3⟩ := oS_cd h10 k g hn
      have := cdB_pos a2 (show g < 10 by omega)
      omega
  | succ m ih =>
    intro k I l6 hk hm hno hff hfr hor
    cases hn : (oS d c S k).2 with
    | none => rw [← hn]; exact stop k I l6 hk (hno hn) hfr hor
    | some g =>
      obtain ⟨a1, a2, a3⟩ := oS_cd h10 k g hn
      have hc1 := cdB_pos a2 (show g < 10 by omega)
      have hne : (oS d c S k).1 ≠ 0 := fun q => by rw [q] at a2; simp at a2
      have hsub := oS_sub (d := d) (c := c) (S := S) k
      have hsle := bsub_le hsub
      have hff2 := hff g hn
      have hrm := cdB_rm a2 10 (by omega)
      have hble := bdiff_le (oS d c S k).1 (2 ^ g)
      have es : oS d c S (k + 1) = (bdiff (oS d c S k).1 (2 ^ g), nxt d c (bdiff (oS d c S k).1 (2 ^ g)) (some g)) := by rw [oS_s, hn]
      have hfr2 : ∀ q i, ¬ (q = 30 + 4 * s ∧ b ≤ i ∧ i < b + cdB S 10) → iu I (30 + 4 * s) (b + k) (nI (e g)) q i = I0 q i := fun q i h => (iu_ne (by omega)).trans (hfr q i h)
      have hD2 : CD (iu I (30 + 4 * s) (b + k) (nI (e g))) d c := CD_fr hD (fun q i h1 h2 => hfr2 q i (by omega))
      have hor2 : ∀ k' g', k' < k + 1 → (oS d c S k').2 = some g' → iu I (30 + 4 * s) (b + k) (nI (e g)) (30 + 4 * s) (b + k') = nI (e g') := fun k' g' hk' hg' => by
        by_cases e2 : k' = k
        · subst e2; rw [hn] at hg'; cases hg'; exact iu_eq
        · exact (iu_ne (by omega)).trans (hor k' g' (by omega) hg')
      have ih2 := fun l6 => ih (k + 1) (iu I (30 + 4 * s) (b + k) (nI (e g))) l6 (by rw [es]; show cdB (bdiff (oS d c S k).1 (2 ^ g)) 10 + (k + 1) = _; omega) (by rw [es]; show cdB (bdiff (oS d c S k).1 (2 ^ g)) 10 ≤ m; omega) (fun hn2 => by
          rw [es] at hn2 ⊢
          dsimp only at hn2 ⊢
          refine Classical.byContradiction fun q => ?_
          obtain ⟨g2, hg2, -⟩ := nxt_ex (d := d) (c := c) (bh := some g) q (fun i hi => tb_big (S := S) hS (bsub_tb hsub (bsub_tb (bdiff_sub _ _) hi)))
          rw [hn2] at hg2; cases hg2) (fun g2 hg2 => by
          rw [es] at hg2 ⊢
          exact (nxt_next hd a2 hff2 hg2).2) hfr2 hor2
      rw [es] at ih2
      dsimp only at ih2
      refine aE_iload dX5_recordRoute_28 rfl ?_
      refine aE_if_eq (tgt := 103) dX5_recordRoute_30 (by decide) (fun h30 => absurd h30 (fun q => hne ((nI_eq (b := 0) (by omega) (by omega)).mp q))) (fun h30 => ?_)
      refine aE_iload dX5_recordRoute_33 rfl ?_
      refine aE_if_lt (tgt := 103) dX5_recordRoute_35 (by decide) (fun h35 => absurd h35 (nI_pos (by omega))) (fun h35 => ?_)
      refine aE_iload_n dX5_recordRoute_38 rfl rfl ?_
      refine aE_bipush (v := 10) dX5_recordRoute_39 (by decide) ?_
      refine aE_icmp_ge (tgt := 103) dX5_recordRoute_41 (by decide) (fun h41 => absurd h41 (nI_ge (b := 10) (by omega) (by omega))) (fun h41 => ?_)
      refine aE_aload_n dX5_recordRoute_44 rfl rfl ?_
      refine aE_getf dX5_recordRoute_45 fw_X5_134 (lt_nn (by omega)) (sh_sch hs) (mm_ord hs) ?_
      refine aE_iload_n dX5_recordRoute_48 rfl rfl ?_
      refine aE_aload_n dX5_recordRoute_49 rfl rfl ?_
      refine aE_getf (v := .ref 148) dX5_recordRoute_50 fw_X5_9 (lt_nt (by decide)) rfl rfl ?_
      refine aE_iload dX5_recordRoute_53 rfl ?_
      refine aE_ildM dX5_recordRoute_55 (lt_nt (by decide)) rfl (by decide) rfl (by omega) ?_
      refine aE_top ((hfr 148 g (by omega)).trans (hst g a3)) ?_
      refine aE_istM dX5_recordRoute_56 (lt_nn (by omega)) (sh_ord hs) (by decide) rfl (by omega) ?_
      refine aE_iinc dX5_recordRoute_57 rfl (a_inc _) (by decide) rfl (aE_loc (ls' := [_, _, _, _, _, _, _]) rfl ?_)
      refine aE_iload dX5_recordRoute_60 rfl ?_
      refine aE_iconst (v := 1) dX5_recordRoute_62 rfl ?_
      refine aE_iload dX5_recordRoute_63 rfl ?_
      refine aE_ishl dX5_recordRoute_65 ?_
      refine aE_top (nb_1shl (by omega)) ?_
      refine aE_iconst (v := -1) dX5_recordRoute_66 rfl ?_
      refine aE_ixor dX5_recordRoute_67 ?_
      refine aE_iand dX5_recordRoute_68 ?_
      refine aE_top (nb_andn _ _) ?_
      refine aE_istore dX5_recordRoute_69 (by decide) rfl (aE_loc (ls' := [_, _, _, _, _, _, _]) rfl ?_)
      refine aE_aload_n dX5_recordRoute_71 rfl rfl ?_
      refine aE_iload dX5_recordRoute_72 rfl ?_
      refine aE_iload dX5_recordRoute_74 rfl ?_
      refine aE_aload_n dX5_recordRoute_76 rfl rfl ?_
      refine aE_getf (v := .ref 162) dX5_recordRoute_77 fw_X5_26 (lt_nt (by decide)) rfl rfl ?_
      refine aE_iload dX5_recordRoute_80 rfl ?_
      refine aE_bipush (v := 10) dX5_recordRoute_82 (by decide) ?_
      refine aE_imul dX5_recordRoute_84 ?_
      refine aE_top (x' := nI (10 * (oS d c S k).1)) (by rw [show (10 : Int32) = nI 10 from rfl, pk_mul, Nat.mul_comm]) ?_
      refine aE_iload dX5_recordRoute_85 rfl ?_
      refine aE_iadd dX5_recordRoute_87 ?_
      refine aE_top (nI_add _ _) ?_
      refine aE_ildM dX5_recordRoute_88 (lt_nt (by decide)) rfl (by decide) rfl (by omega) ?_
      refine aE_top ((hfr2 162 _ (by omega)).trans (htab _ g hsub a3 a2)) ?_
      refine aE_iconst (v := 1) dX5_recordRoute_89 rfl ?_
      refine aE_isub dX5_recordRoute_90 ?_
      refine aE_cVi dX5_recordRoute_91 lk_X5_130 mv_X5_firstWith (c_firstWith d c (bdiff (oS d c S k).1 (2 ^ g)) (some g) (fS d c (oS d c S k).1 g - 1) (by omega) hD2 (fun g2 h1 h2 => (hfr2 162 _ (by omega)).trans (htab _ g2 (bsub_tr (bdiff_sub _ _) hsub) h1 h2)) (fun b hb => by cases hb; exact a3) (fun g2 hg2 => (nxt_next hd a2 hff2 hg2).1)) rfl (lt_nt (by decide)) rfl rfl ⟨by decide, by decide⟩ (Nat.le_of_ble_eq_true rfl) ⟨rfl, rfl⟩ ⟨by decide, by decide⟩ ?_
      refine aE_istore dX5_recordRoute_94 (by decide) rfl (aE_loc (ls' := [_, _, _, _, _, _, _]) rfl ?_)
      refine aE_iload dX5_recordRoute_96 rfl ?_
      refine aE_istore dX5_recordRoute_98 (by decide) rfl (aE_loc (ls' := [_, _, _, _, _, _, _]) rfl ?_)
      refine aE_goto (tgt := 28) dX5_recordRoute_100 (by decide) ?_
      exact ih2 _
theorem c_recordRoute (d : pD) (c : pC) (e : Nat → Nat) (s S b rc : Nat) (hs : s < 4) (hd : d01 d) (hD : CD I d c) (hst : ∀ i, i < d.1 → I 148 i = nI (e i)) (hS : S < 2 ^ d.1) (hS0 : S ≠ 0) (htab : ∀ R g, bdiff R S = 0 → g < d.1 → R.testBit g = true → I 162 (10 * R + g) = fS d c R g) (hfin : (lS d c S).toInt < 1000000) (hlen : I 163 S = lS d c S) (hrc : I (28 + 4 * s) 4 = nI rc) (hrc10 : rc < 10) (hbg : I (29 + 4 * s) rc = nI b) (hbc : b + cdB S 10 ≤ 10) (hQ : ∀ J, (∀ q i, ¬ (q = 30 + 4 * s ∧ b ≤ i ∧ i < b + cdB S 10) → ¬ (q = 31 + 4 * s ∧ i = rc) → ¬ (q = 28 + 4 * s ∧ i = 4) → ¬ (q = 29 + 4 * s ∧ i = rc + 1) → J q i = I q i) → (∀ k g, (oS d c S k).2 = some g → J (30 + 4 * s) (b + k) = nI (e g)) → J (31 + 4 * s) rc = lS d c S → J (28 + 4 * s) 4 = nI (rc + 1) → J (29 + 4 * s) (rc + 1) = nI (b + cdB S 10) → Q none (nn true) (MM J sp true)) : aRuns mX5_recordRoute (rK 2) [.ref 147, .ref (28 + 4 * s), .int (nI S)] (nn true) (MM I sp true) Q := by
  have h10 := hD.2.1
  have hp := pow10' h10
  refine aRuns_of pn_X5_recordRoute (Nat.le_of_ble_eq_true rfl) (fun z => aE_loc (ls' := [_, _, _, _, _, _, _]) rfl ?_)
  refine aE_aload_n dX5_recordRoute_0 rfl rfl ?_
  refine aE_getf dX5_recordRoute_1 fw_X5_124 (lt_nn (by omega)) (sh_sch hs) (mm_beg hs) ?_
  refine aE_aload_n dX5_recordRoute_4 rfl rfl ?_
  refine aE_geti dX5_recordRoute_5 fw_X5_121 (lt_nn (by omega)) (sh_sch hs) (mc_sch (i := 4) hs (by decide)).1 (mc_sch (i := 4) hs (by decide)).2 ?_
  refine aE_top hrc ?_
  refine aE_ildM dX5_recordRoute_8 (lt_nn (by omega)) (sh_beg hs) (by decide) rfl (by omega) ?_
  refine aE_top hbg ?_
  refine aE_istore_n dX5_recordRoute_9 rfl (by decide) rfl (aE_loc (ls' := [_, _, _, _, _, _, _]) rfl ?_)
  refine aE_iload_n dX5_recordRoute_10 rfl rfl ?_
  refine aE_istore dX5_recordRoute_11 (by decide) rfl (aE_loc (ls' := [_, _, _, _, _, _, _]) rfl ?_)
  refine aE_aload_n dX5_recordRoute_13 rfl rfl ?_
  refine aE_iload dX5_recordRoute_14 rfl ?_
  refine aE_iconst (v := -1) dX5_recordRoute_16 rfl ?_
  refine aE_aload_n dX5_recordRoute_17 rfl rfl ?_
  refine aE_getf (v := .ref 163) dX5_recordRoute_18 fw_X5_29 (lt_nt (by decide)) rfl rfl ?_
  refine aE_iload_n dX5_recordRoute_21 rfl rfl ?_
  refine aE_ildM dX5_recordRoute_22 (lt_nt (by decide)) rfl (by decide) rfl (by omega) ?_
  refine aE_top hlen ?_
  refine aE_cVi dX5_recordRoute_23 lk_X5_130 mv_X5_firstWith (c_firstWith d c S none (lS d c S) (by omega) hD (fun g h1 h2 => htab S g (bdiff_self S) h1 h2) (fun b hb => by cases hb) (fun g hg => (nxt_first hd hfin hg).1)) rfl (lt_nt (by decide)) rfl rfl ⟨by decide, by decide⟩ (Nat.le_of_ble_eq_true rfl) ⟨rfl, rfl⟩ ⟨by decide, by decide⟩ ?_
  refine aE_istore dX5_recordRoute_26 (by decide) rfl (aE_loc (ls' := [_, _, _, _, _, _, _]) rfl ?_)
  refine l_rec d c e s S b rc hs hd I hD hst hS hS0 htab hfin hlen hrc hrc10 hbg hbc (fun J k l4 l5 l6 hk hfr hor => ?_) (cdB S 10) 0 I _ rfl (Nat.le_refl _) (fun hn => ?_) (fun g hg => (nxt_first hd hfin hg).2) (fun _ _ _ => rfl) (fun k' g hk' => absurd hk' (by omega))
  · subst hk
    refine aE_aload_n dX5_recordRoute_103 rfl rfl ?_
    refine aE_getf dX5_recordRoute_104 fw_X5_137 (lt_nn (by omega)) (sh_sch hs) (mm_len hs) ?_
    refine aE_aload_n dX5_recordRoute_107 rfl rfl ?_
    refine aE_geti dX5_recordRoute_108 fw_X5_121 (lt_nn (by omega)) (sh_sch hs) (mc_sch (i := 4) hs (by decide)).1 (mc_sch (i := 4) hs (by decide)).2 ?_
    refine aE_top ((hfr (28 + 4 * s) 4 (by omega)).trans hrc) ?_
    refine aE_aload_n dX5_recordRoute_111 rfl rfl ?_
    refine aE_getf (v := .ref 163) dX5_recordRoute_112 fw_X5_29 (lt_nt (by decide)) rfl rfl ?_
    refine aE_iload_n dX5_recordRoute_115 rfl rfl ?_
    refine aE_ildM dX5_recordRoute_116 (lt_nt (by decide)) rfl (by decide) rfl (by omega) ?_
    refine aE_top ((hfr 163 S (by omega)).trans hlen) ?_
    refine aE_istM dX5_recordRoute_117 (lt_nn (by omega)) (sh_len hs) (by decide) rfl (by omega) ?_
    refine aE_aload_n dX5_recordRoute_118 rfl rfl ?_
    refine aE_dup dX5_recordRoute_119 rfl ?_
    refine aE_geti dX5_recordRoute_120 fw_X5_121 (lt_nn (by omega)) (sh_sch hs) (mc_sch (i := 4) hs (by decide)).1 (mc_sch (i := 4) hs (by decide)).2 ?_
    refine aE_top (x' := nI rc) ((iu_ne (by omega)).trans ((hfr (28 + 4 * s) 4 (by omega)).trans hrc)) ?_
    refine aE_iconst (v := 1) dX5_recordRoute_123 rfl ?_
    refine aE_iadd dX5_recordRoute_124 ?_
    refine aE_top (nI_1 _) ?_
    refine aE_puti dX5_recordRoute_125 fp_X5_121 (Or.inl rfl) (lt_nn (by omega)) (sh_sch hs) (fun _ => ⟨rfl, rfl⟩) (mc_sch (i := 4) hs (by decide)).1 (mc_sch (i := 4) hs (by decide)).2 ?_
    refine aE_aload_n dX5_recordRoute_128 rfl rfl ?_
    refine aE_getf dX5_recordRoute_129 fw_X5_124 (lt_nn (by omega)) (sh_sch hs) (mm_beg hs) ?_
    refine aE_aload_n dX5_recordRoute_132 rfl rfl ?_
    refine aE_geti dX5_recordRoute_133 fw_X5_121 (lt_nn (by omega)) (sh_sch hs) (mc_sch (i := 4) hs (by decide)).1 (mc_sch (i := 4) hs (by decide)).2 ?_
    refine aE_top iu_eq ?_
    refine aE_iload_n dX5_recordRoute_136 rfl rfl ?_
    refine aE_istM dX5_recordRoute_137 (lt_nn (by omega)) (sh_beg hs) (by decide) rfl (by omega) ?_
    refine aE_vret dX5_recordRoute_138 rfl ⟨by decide, by decide⟩ ?_
    refine hQ _ (fun q i h1 h2 h3 h4 => ?_) (fun k g hg => ?_) ?_ ?_ iu_eq
    · rw [iu_ne (by omega), iu_ne (by omega), iu_ne (by omega)]; exact hfr q i h1
    · rw [iu_ne (by omega), iu_ne (by omega), iu_ne (by omega)]
      exact hor k g (oS_lt h10 hg).1 hg
    · rw [iu_ne (by omega), iu_ne (by omega), iu_eq]
    · rw [iu_ne (by omega), iu_eq]
  · exact Classical.byContradiction fun q => by
      obtain ⟨g2, hg2, -⟩ := nxt_ex (d := d) (c := c) (S := S) (bh := none) hS0 (fun i hi => tb_big hS hi)
      have hn2 : nxt d c S none = none := hn
      rw [hn2] at hg2; cases hg2
end CPL3
