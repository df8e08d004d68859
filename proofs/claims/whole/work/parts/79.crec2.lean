section CREC2
variable {z : Nat × (Nat → Int32)} {n : Nat} {mem : aM} {I : Nat → Nat → Int32} {sp : Nat → Nat} {pl : Bool} {Q : Option Value → Nat → aM → Prop} {R : Room}
theorem l_record (d : pD) (c : pC) (e : Nat → Nat) (s : Nat) (hs : s < 4) (hd : d01 d) (hc : c.2.toInt ≤ 90) (I0 : Nat → Nat → Int32) (hD : CD I0 d c) (hst : ∀ i, i < d.1 → I0 148 i = nI (e i)) (hlen : ∀ R, R ≠ 0 → R < 2 ^ d.1 → I0 163 R = if rS d c R then lS d c R else 1000000) (hpick : ∀ R, R ≠ 0 → R < 2 ^ d.1 → (pS d c R).1 < 1000000 → I0 165 R = nI (pS d c R).2.2) (htab : ∀ P, P < 2 ^ d.1 → rS d c P = true → ∀ R g, bdiff R P = 0 → g < d.1 → R.testBit g = true → I0 162 (10 * R + g) = fS d c R g) (A : Nat) (b3 : Int32) (LL : List Nat) (hQ : ∀ J L, (∀ q i, ¬ (q = 28 + 4 * s ∧ (i = 3 ∨ i = 4)) → ¬ (29 + 4 * s ≤ q ∧ q ≤ 31 + 4 * s) → J q i = I0 q i) → J (28 + 4 * s) 3 = b3 → RowE J s d c e L → (L = LL) → Q none (nn true) (MM J sp true)) : ∀ (n left m : Nat) (I : Nat → Nat → Int32) (L : List Nat), left < 2 ^ d.1 → goodP (rS d c) (lS d c) left (pS d c left) m → m ≤ n → (∀ q i, ¬ (q = 28 + 4 * s ∧ (i = 3 ∨ i = 4)) → ¬ (29 + 4 * s ≤ q ∧ q ≤ 31 + 4 * s) → I q i = I0 q i) → I (28 + 4 * s) 3 = b3 → RowE I s d c e L → L ++ rtL (rS d c) (lS d c) n left = LL → bgn L L.length + cdB left 10 ≤ 10 → L.length + cdB left 10 ≤ 10 → aE z mX5_record (rK 3) Q 48 [some (.ref 147), some (.ref (28 + 4 * s)), some (.int (nI A)), some (.int (nI left)), some (.int (nI L.length))] [] (nn true) (MM I sp true) 0 0 := by
  have h10 := hD.2.1
  have hp := pow10' h10
  intro n
  induction n with
  | zero =>
    intro left m I L hl hg hm hfr hb3 hR hLL hb1 hb2
    have hl0 : left = 0 := Classical.byContradiction fun q => by obtain ⟨-, m', e1, -⟩ := hg.2.2 q; omega
    subst hl0
    have hLL2 : L = LL := by rw [← hLL]; simp [rtL]
    by_cases h10L : L.length < 10
    · skip
      refine aE_iload dX5_record_48 rfl ?_
      refine aE_bipush (v := 10) dX5_record_50 (by decide) ?_
      refine aE_icmp_ge (tgt := 85) dX5_record_52 (by decide) (fun h52 => absurd h52 (nI_ge (b := 10) (by omega) (by omega))) (fun h52 => ?_)
      refine aE_iload_n dX5_record_55 rfl rfl ?_
      refine aE_if_eq (tgt := 85) dX5_record_56 (by decide) (fun h56 => ?_) (fun h56 => absurd (rfl) h56)
      refine aE_vret dX5_record_85 rfl ⟨by decide, by decide⟩ ?_
      exact hQ I L hfr hb3 hR hLL2
    · skip
      refine aE_iload dX5_record_48 rfl ?_
      refine aE_bipush (v := 10) dX5_record_50 (by decide) ?_
      refine aE_icmp_ge (tgt := 85) dX5_record_52 (by decide) (fun h52 => ?_) (fun h52 => absurd (by rw [show L.length = 10 by omega]; decide) h52)
      refine aE_vret dX5_record_85 rfl ⟨by decide, by decide⟩ ?_
      exact hQ I L hfr hb3 hR hLL2
  | succ n ih =>
    intro left m I L hl hg hm hfr hb3 hR hLL hb1 hb2
    by_cases hl0 : left = 0
    · subst hl0
      have hLL2 : L = LL := by rw [← hLL]; simp [rtL]
      by_cases h10L : L.length < 10
      · skip
        refine aE_iload dX5_record_48 rfl ?_
        refine aE_bipush (v := 10) dX5_record_50 (by decide) ?_
        refine aE_icmp_ge (tgt := 85) dX5_record_52 (by decide) (fun h52 => absurd h52 (nI_ge (b := 10) (by omega) (by omega))) (fun h52 => ?_)
        refine aE_iload_n dX5_record_55 rfl rfl ?_
        refine aE_if_eq (tgt := 85) dX5_record_56 (by decide) (fun h56 => ?_) (fun h56 => absurd (rfl) h56)
        refine aE_vret dX5_record_85 rfl ⟨by decide, by decide⟩ ?_
        exact hQ I L hfr hb3 hR hLL2
      · skip
        refine aE_iload dX5_record_48 rfl ?_
        refine aE_bipush (v := 10) dX5_record_50 (by decide) ?_
        refine aE_icmp_ge (tgt := 85) dX5_record_52 (by decide) (fun h52 => ?_) (fun h52 => absurd (by rw [show L.length = 10 by omega]; decide) h52)
        refine aE_vret dX5_record_85 rfl ⟨by decide, by decide⟩ ?_
        exact hQ I L hfr hb3 hR hLL2
    · obtain ⟨hcd, m', e1, e2, e3⟩ := hg.2.2 hl0
      obtain ⟨c1, c2, c3⟩ := cdP_1 hcd
      have hP := bsub_le c1
      have hP0 : (pS d c left).2.2 ≠ 0 := fun q => by rw [q] at c2; simp at c2
      obtain ⟨lo1, lo2, lo3⟩ := loI_tb left (by omega) hl0
      have hs1 := cdB_split c1 10
      have hs2 := cdB_pos c2 lo2
      have hrl := rS_le c3
      have hDI : CD I d c := CD_fr hD (fun q i h1 h2 => hfr q i (by omega) (by omega))
      have hpk : I 165 left = nI (pS d c left).2.2 := (hfr 165 left (by omega) (by omega)).trans (hpick left hl0 hl (goodP_lt hg))
      have hble := bdiff_le left (pS d c left).2.2
      have hcb := cdB_bound left 10
      have hg1 := hg.1
      have hrest : (pS d c (bdiff left (pS d c left).2.2)).1 < 1000000 := by rw [show (pS d c (bdiff left (pS d c left).2.2)).1 = nI m' from e2]; exact nI_far (by omega)
      obtain ⟨m2, hg2⟩ := pB_lt (by omega) hrest
      have em : m2 = m' := by
        have a := hg2.2.1.symm.trans e2
        have := hg2.1; have := cdB_bound (bdiff left (pS d c left).2.2) 10
        exact (nI_eq (by omega) (by omega)).mp a
      have hLL2 : (L ++ [(pS d c left).2.2]) ++ rtL (rS d c) (lS d c) n (bdiff left (pS d c left).2.2) = LL := by
        rw [← hLL]
        rw [show rtL (rS d c) (lS d c) (n + 1) left = (pS d c left).2.2 :: rtL (rS d c) (lS d c) n (bdiff left (pS d c left).2.2) from if_neg hl0]
        simp
      refine aE_iload dX5_record_48 rfl ?_
      refine aE_bipush (v := 10) dX5_record_50 (by decide) ?_
      refine aE_icmp_ge (tgt := 85) dX5_record_52 (by decide) (fun h52 => absurd h52 (nI_ge (b := 10) (by omega) (by omega))) (fun h52 => ?_)
      refine aE_iload_n dX5_record_55 rfl rfl ?_
      refine aE_if_eq (tgt := 85) dX5_record_56 (by decide) (fun h56 => absurd h56 (fun q => hl0 ((nI_eq (b := 0) (by omega) (by omega)).mp q))) (fun h56 => ?_)
      refine aE_aload_n dX5_record_59 rfl rfl ?_
      refine aE_aload_n dX5_record_60 rfl rfl ?_
      refine aE_aload_n dX5_record_61 rfl rfl ?_
      refine aE_getf (v := .ref 165) dX5_record_62 fw_X5_35 (lt_nt (by decide)) rfl rfl ?_
      refine aE_iload_n dX5_record_65 rfl rfl ?_
      refine aE_ildM dX5_record_66 (lt_nt (by decide)) rfl (by decide) rfl (by omega) ?_
      refine aE_top hpk ?_
      refine aE_cVq dX5_record_67 lk_X5_127 mv_X5_recordRoute (c_recordRoute (Q := (fun r n' m' => r = none ∧ n' = nn true ∧ ∃ J, m' = MM J sp true ∧ (∀ q i, ¬ (q = 30 + 4 * s ∧ bgn L L.length ≤ i ∧ i < bgn L L.length + cdB (pS d c left).2.2 10) → ¬ (q = 31 + 4 * s ∧ i = L.length) → ¬ (q = 28 + 4 * s ∧ i = 4) → ¬ (q = 29 + 4 * s ∧ i = L.length + 1) → J q i = I q i) ∧ (∀ k g, (oS d c (pS d c left).2.2 k).2 = some g → J (30 + 4 * s) (bgn L L.length + k) = nI (e g)) ∧ J (31 + 4 * s) L.length = lS d c (pS d c left).2.2 ∧ J (28 + 4 * s) 4 = nI (L.length + 1) ∧ J (29 + 4 * s) (L.length + 1) = nI (bgn L L.length + cdB (pS d c left).2.2 10))) d c e s (pS d c left).2.2 (bgn L L.length) L.length hs hd hDI (fun i hi => (hfr 148 i (by omega) (by omega)).trans (hst i hi)) (by omega) hP0 (fun R g h1 h2 h3 => (hfr 162 _ (by omega) (by omega)).trans (htab _ (by omega) c3 R g h1 h2 h3)) (by omega) ((hfr 163 _ (by omega) (by omega)).trans ((hlen _ hP0 (by omega)).trans (if_pos c3))) hR.1 (by omega) (hR.2.1 _ (Nat.le_refl _)) (by omega) (fun J j1 j2 j3 j4 j5 => ⟨rfl, rfl, J, rfl, j1, j2, j3, j4, j5⟩)) rfl (lt_nt (by decide)) rfl rfl ⟨by decide, by decide⟩ (Nat.le_of_ble_eq_true rfl) ⟨rfl, rfl⟩ ⟨by decide, by decide⟩ ?_
      rintro r n' m' ⟨rfl, rfl, J, rfl, j1, j2, j3, j4, j5⟩
      have ih2 := ih (bdiff left (pS d c left).2.2) m2 J (L ++ [(pS d c left).2.2]) (by omega) hg2 (by omega) (fun q i h1 h2 => (j1 q i (by omega) (by omega) (by omega) (by omega)).trans (hfr q i h1 h2)) ((j1 _ _ (by omega) (by omega) (by omega) (by omega)).trans hb3) (RowE_app h10 hR j1 j2 j3 j4 j5) hLL2 (by rw [List.length_append]; show bgn _ (L.length + 1) + _ ≤ _; rw [bgn_end]; omega) (by rw [List.length_append]; show L.length + 1 + _ ≤ _; omega)
      rw [List.length_append] at ih2
      have hpk2 : J 165 left = nI (pS d c left).2.2 := (j1 165 left (by omega) (by omega) (by omega) (by omega)).trans hpk
      refine aE_iload_n dX5_record_70 rfl rfl ?_
      refine aE_aload_n dX5_record_71 rfl rfl ?_
      refine aE_getf (v := .ref 165) dX5_record_72 fw_X5_35 (lt_nt (by decide)) rfl rfl ?_
      refine aE_iload_n dX5_record_75 rfl rfl ?_
      refine aE_ildM dX5_record_76 (lt_nt (by decide)) rfl (by decide) rfl (by omega) ?_
      refine aE_top hpk2 ?_
      refine aE_ixor dX5_record_77 ?_
      refine aE_top ((nb_xor _ _).trans (congrArg nI (xor_sub c1))) ?_
      refine aE_istore_n dX5_record_78 rfl (by decide) rfl (aE_loc (ls' := [_, _, _, _, _]) rfl ?_)
      refine aE_iinc dX5_record_79 rfl (a_inc _) (by decide) rfl (aE_loc (ls' := [_, _, _, _, _]) rfl ?_)
      refine aE_goto (tgt := 48) dX5_record_82 (by decide) ?_
      exact ih2
theorem c_record (d : pD) (c : pC) (e : Nat → Nat) (s : Nat) (hs : s < 4) (hd : d01 d) (hc : c.2.toInt ≤ 90) (hD : CD I d c) (hst : ∀ i, i < d.1 → I 148 i = nI (e i)) (hlen : ∀ R, R ≠ 0 → R < 2 ^ d.1 → I 163 R = if rS d c R then lS d c R else 1000000) (hpick : ∀ R, R ≠ 0 → R < 2 ^ d.1 → (pS d c R).1 < 1000000 → I 165 R = nI (pS d c R).2.2) (htab : ∀ P, P < 2 ^ d.1 → rS d c P = true → ∀ R g, bdiff R P = 0 → g < d.1 → R.testBit g = true → I 162 (10 * R + g) = fS d c R g) (hv : I 164 (2 ^ d.1 - 1) = vC d c (2 ^ d.1 - 1)) (hQ : ∀ J, (∀ q i, ¬ (q = 28 + 4 * s ∧ (i = 3 ∨ i = 4)) → ¬ (29 + 4 * s ≤ q ∧ q ≤ 31 + 4 * s) → J q i = I q i) → J (28 + 4 * s) 3 = (if (pS d c (2 ^ d.1 - 1)).1 < 1000000 then 1 else 0) → RowE J s d c e (RLs d c (2 ^ d.1 - 1)) → Q none (nn true) (MM J sp true)) : aRuns mX5_record (rK 3) [.ref 147, .ref (28 + 4 * s), .int (nI (2 ^ d.1 - 1))] (nn true) (MM I sp true) Q := by
  have h10 := hD.2.1
  have hp := pow10' h10
  have hpos := Nat.two_pow_pos d.1
  have hA : 2 ^ d.1 - 1 < 1024 := by omega
  have hA2 : 2 ^ d.1 - 1 < 2 ^ d.1 := by omega
  generalize hAe : 2 ^ d.1 - 1 = A at *
  refine aRuns_of pn_X5_record (Nat.le_of_ble_eq_true rfl) (fun z => aE_loc (ls' := [_, _, _, _, _]) rfl ?_)
  have hrow : ∀ b3, RowE (iu (iu (iu I (28 + 4 * s) 3 b3) (28 + 4 * s) 4 0) (29 + 4 * s) 0 0) s d c e [] := fun b3 => by
    refine ⟨(iu_ne (by omega)).trans iu_eq, fun i hi => ?_, fun i S hi => by simp at hi⟩
    have : i = 0 := by simpa using hi
    subst this; exact iu_eq
  have hfr : ∀ b3 q i, ¬ (q = 28 + 4 * s ∧ (i = 3 ∨ i = 4)) → ¬ (29 + 4 * s ≤ q ∧ q ≤ 31 + 4 * s) → iu (iu (iu I (28 + 4 * s) 3 b3) (28 + 4 * s) 4 0) (29 + 4 * s) 0 0 q i = I q i := fun b3 q i h1 h2 => by
    rw [iu_ne (by omega), iu_ne (by omega), iu_ne (by omega)]
  have h3 : ∀ b3 : Int32, iu (iu (iu I (28 + 4 * s) 3 b3) (28 + 4 * s) 4 0) (29 + 4 * s) 0 0 (28 + 4 * s) 3 = b3 := fun b3 => by
    rw [iu_ne (by omega), iu_ne (by omega), iu_eq]
  have hb := cdB_bound A 10
  by_cases hpl : (pS d c A).1 < 1000000
  · rw [if_pos hpl] at hQ
    have hvlt : ¬ (1000000 : Int32) ≤ vC d c A := fun q => by
      obtain ⟨m, hm, r1, r2, r3, r4⟩ := vC_i hd hc hA hpl
      rw [Int32.le_iff_toInt_le, i32_M] at q; omega
    obtain ⟨m, hg⟩ := pB_lt hA hpl
    have hg1 := hg.1
    have hRL : RLs d c A = rtL (rS d c) (lS d c) 10 A := by unfold RLs; rw [if_pos hpl]
    refine aE_aload_n dX5_record_0 rfl rfl ?_
    refine aE_aload_n dX5_record_1 rfl rfl ?_
    refine aE_getf (v := .ref 164) dX5_record_2 fw_X5_32 (lt_nt (by decide)) rfl rfl ?_
    refine aE_iload_n dX5_record_5 rfl rfl ?_
    refine aE_ildM dX5_record_6 (lt_nt (by decide)) rfl (by decide) rfl hA ?_
    refine aE_top hv ?_
    refine aE_ldc dX5_record_7 ct_X5_46 ?_
    refine aE_icmp_ge (tgt := 16) dX5_record_9 (by decide) (fun h9 => absurd h9 (hvlt)) (fun h9 => ?_)
    refine aE_iconst (v := 1) dX5_record_12 rfl ?_
    refine aE_goto (tgt := 17) dX5_record_13 (by decide) ?_
    refine aE_puti dX5_record_17 fp_X5_117 (Or.inl rfl) (lt_nn (by omega)) (sh_sch hs) (fun _ => a_narZ (by first | exact Or.inl rfl | exact Or.inr rfl | assumption)) (mc_sch (i := 3) hs (by decide)).1 (mc_sch (i := 3) hs (by decide)).2 ?_
    refine aE_aload_n dX5_record_20 rfl rfl ?_
    refine aE_iconst (v := 0) dX5_record_21 rfl ?_
    refine aE_puti dX5_record_22 fp_X5_121 (Or.inl rfl) (lt_nn (by omega)) (sh_sch hs) (fun _ => ⟨rfl, rfl⟩) (mc_sch (i := 4) hs (by decide)).1 (mc_sch (i := 4) hs (by decide)).2 ?_
    refine aE_aload_n dX5_record_25 rfl rfl ?_
    refine aE_getf dX5_record_26 fw_X5_124 (lt_nn (by omega)) (sh_sch hs) (mm_beg hs) ?_
    refine aE_iconst (v := 0) dX5_record_29 rfl ?_
    refine aE_iconst (v := 0) dX5_record_30 rfl ?_
    refine aE_istM dX5_record_31 (lt_nn (by omega)) (sh_beg hs) (by decide) rfl (by decide) ?_
    refine aE_aload_n dX5_record_32 rfl rfl ?_
    refine aE_geti dX5_record_33 fw_X5_117 (lt_nn (by omega)) (sh_sch hs) (mc_sch (i := 3) hs (by decide)).1 (mc_sch (i := 3) hs (by decide)).2 ?_
    refine aE_top (h3 1) ?_
    refine aE_if_eq (tgt := 43) dX5_record_36 (by decide) (fun h36 => absurd h36 (by decide)) (fun h36 => ?_)
    refine aE_iload_n dX5_record_39 rfl rfl ?_
    refine aE_goto (tgt := 44) dX5_record_40 (by decide) ?_
    refine aE_istore_n dX5_record_44 rfl (by decide) rfl (aE_loc (ls' := [_, _, _, _, _]) rfl ?_)
    refine aE_iconst (v := 0) dX5_record_45 rfl ?_
    refine aE_istore dX5_record_46 (by decide) rfl (aE_loc (ls' := [_, _, _, _, _]) rfl ?_)
    refine l_record d c e s hs hd hc I hD hst hlen hpick htab A 1 (rtL (rS d c) (lS d c) 10 A) (fun J L j1 j2 j3 j4 => hQ J j1 j2 (by rw [hRL, ← j4]; exact j3)) 10 A m _ [] hA2 hg (by omega) (hfr 1) (h3 1) (hrow 1) rfl (by show bgn [] 0 + _ ≤ _; rw [bgn_0]; omega) (by show 0 + _ ≤ _; omega)
  · rw [if_neg hpl] at hQ
    have hvge : (1000000 : Int32) ≤ vC d c A := by unfold vC; rw [if_neg hpl]; exact Int32.le_refl _
    have hRL : RLs d c A = [] := by unfold RLs; rw [if_neg hpl]
    have hg0 : goodP (rS d c) (lS d c) 0 (pS d c 0) 0 := ⟨Nat.zero_le _, (by rw [show pS d c 0 = (0, 0, 0) from pB_0]; rfl), fun q => absurd rfl q⟩
    refine aE_aload_n dX5_record_0 rfl rfl ?_
    refine aE_aload_n dX5_record_1 rfl rfl ?_
    refine aE_getf (v := .ref 164) dX5_record_2 fw_X5_32 (lt_nt (by decide)) rfl rfl ?_
    refine aE_iload_n dX5_record_5 rfl rfl ?_
    refine aE_ildM dX5_record_6 (lt_nt (by decide)) rfl (by decide) rfl hA ?_
    refine aE_top hv ?_
    refine aE_ldc dX5_record_7 ct_X5_46 ?_
    refine aE_icmp_ge (tgt := 16) dX5_record_9 (by decide) (fun h9 => ?_) (fun h9 => absurd (hvge) h9)
    refine aE_iconst (v := 0) dX5_record_16 rfl ?_
    refine aE_puti dX5_record_17 fp_X5_117 (Or.inl rfl) (lt_nn (by omega)) (sh_sch hs) (fun _ => a_narZ (by first | exact Or.inl rfl | exact Or.inr rfl | assumption)) (mc_sch (i := 3) hs (by decide)).1 (mc_sch (i := 3) hs (by decide)).2 ?_
    refine aE_aload_n dX5_record_20 rfl rfl ?_
    refine aE_iconst (v := 0) dX5_record_21 rfl ?_
    refine aE_puti dX5_record_22 fp_X5_121 (Or.inl rfl) (lt_nn (by omega)) (sh_sch hs) (fun _ => ⟨rfl, rfl⟩) (mc_sch (i := 4) hs (by decide)).1 (mc_sch (i := 4) hs (by decide)).2 ?_
    refine aE_aload_n dX5_record_25 rfl rfl ?_
    refine aE_getf dX5_record_26 fw_X5_124 (lt_nn (by omega)) (sh_sch hs) (mm_beg hs) ?_
    refine aE_iconst (v := 0) dX5_record_29 rfl ?_
    refine aE_iconst (v := 0) dX5_record_30 rfl ?_
    refine aE_istM dX5_record_31 (lt_nn (by omega)) (sh_beg hs) (by decide) rfl (by decide) ?_
    refine aE_aload_n dX5_record_32 rfl rfl ?_
    refine aE_geti dX5_record_33 fw_X5_117 (lt_nn (by omega)) (sh_sch hs) (mc_sch (i := 3) hs (by decide)).1 (mc_sch (i := 3) hs (by decide)).2 ?_
    refine aE_top (h3 0) ?_
    refine aE_if_eq (tgt := 43) dX5_record_36 (by decide) (fun h36 => ?_) (fun h36 => absurd (rfl) h36)
    refine aE_iconst (v := 0) dX5_record_43 rfl ?_
    refine aE_istore_n dX5_record_44 rfl (by decide) rfl (aE_loc (ls' := [_, _, _, _, _]) rfl ?_)
    refine aE_iconst (v := 0) dX5_record_45 rfl ?_
    refine aE_istore dX5_record_46 (by decide) rfl (aE_loc (ls' := [_, _, _, _, _]) rfl ?_)
    refine l_record d c e s hs hd hc I hD hst hlen hpick htab A 0 [] (fun J L j1 j2 j3 j4 => hQ J j1 j2 (by rw [hRL, ← j4]; exact j3)) 10 0 0 _ [] hpos hg0 (by omega) (hfr 0) (h3 0) (hrow 0) (by simp [rtL]) (by decide) (by decide)
end CREC2
