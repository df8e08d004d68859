/-- the rows of order that are found: the first r routes, k stops of the r-th -/
def ORD (J : Nat → Nat → Int32) (d : pD) (cs : Nat → pC) (L : List (Nat × Nat)) (r k : Nat) : Prop := ∀ (r' s S : Nat), L[r']? = some (s, S) → ∀ k', k' < 11 → (r' < r ∨ (r' = r ∧ k' < k)) → J 145 (11 * r' + k') = rv (oS d (cs s) S k').2
section MMO2
variable {z : Nat × (Nat → Int32)} {n : Nat} {mem : aM} {I : Nat → Nat → Int32} {sp : Nat → Nat} {pl : Bool} {Q : Option Value → Nat → aM → Prop} {R : Room}
theorem l_mo4 (ns : Nat) (d : pD) (cs : Nat → pC) (al : Nat → Nat) (K0 : Nat → Nat → Int32) (hM : MS K0 ns d cs al) (route late snow : Int32) (r s S : Nat) (hr : (RR d cs al ns)[r]? = some (s, S)) (l6 l7 l8 l9 : Option Value) (k0 : ∀ J, (∀ q i, q ≠ 145 → J q i = K0 q i) → ORD J d cs (RR d cs al ns) r 11 → aE z mX12_morning (rK 6) Q 110 [some (.ref 101), some (.int route), some (.int late), some (.int snow), some (.int (nI r)), some (.int (nI 11)), l6, l7, l8, l9] [] (nn pl) (MM J sp pl) 0 0) : ∀ (e k : Nat) (I : Nat → Nat → Int32), k + e = 11 → (∀ q i, q ≠ 145 → I q i = K0 q i) → ORD I d cs (RR d cs al ns) r k → aE z mX12_morning (rK 6) Q 76 [some (.ref 101), some (.int route), some (.int late), some (.int snow), some (.int (nI r)), some (.int (nI k)), l6, l7, l8, l9] [] (nn pl) (MM I sp pl) 0 0 := by
  obtain ⟨k1, k2, k3, k4, k5, k6, k7, k8, k9⟩ := MS_rt hM hr
  intro e
  induction e with
  | zero =>
    intro k I hk hfr hO
    have hk : k = 11 := by omega
    subst hk
    refine aE_iload dX12_morning_76 rfl ?_
    refine aE_bipush (v := 11) dX12_morning_78 (by decide) ?_
    refine aE_icmp_ge (tgt := 110) dX12_morning_80 (by decide) (fun h80 => ?_) (fun h80 => absurd (Int32.le_refl _) h80)
    exact k0 I hfr hO
  | succ e ih =>
    intro k I hk hfr hO
    have hM2 : MS I ns d cs al := MS_fr hM (fun q i h1 _ => hfr q i (by omega))
    refine aE_iload dX12_morning_76 rfl ?_
    refine aE_bipush (v := 11) dX12_morning_78 (by decide) ?_
    refine aE_icmp_ge (tgt := 110) dX12_morning_80 (by decide) (fun h80 => absurd h80 (nI_ge (b := 11) (by omega) (by omega))) (fun h80 => ?_)
    refine aE_aload_n dX12_morning_83 rfl rfl ?_
    refine aE_getf (v := .ref 145) dX12_morning_84 fw_X12_147 (lt_nn (by decide)) rfl rfl ?_
    refine aE_bipush (v := 11) dX12_morning_87 (by decide) ?_
    refine aE_iload dX12_morning_89 rfl ?_
    refine aE_imul dX12_morning_91 ?_
    refine aE_top (x' := nI (11 * r)) (by rw [show (11 : Int32) = nI 11 from rfl, pk_mul]) ?_
    refine aE_iload dX12_morning_92 rfl ?_
    refine aE_iadd dX12_morning_94 ?_
    refine aE_top (nI_add _ _) ?_
    refine aE_aload_n dX12_morning_95 rfl rfl ?_
    refine aE_iload dX12_morning_96 rfl ?_
    refine aE_iload dX12_morning_98 rfl ?_
    refine aE_cVi dX12_morning_100 lk_X12_250 mv_X12_stopOf (m_stopOf d (cs s) S r k hM2.2.2.1.1 k2 (fun R hR g h1 h2 => MS_tab hM2 k1 (bsub_tr hR k4) h1 h2) k6 ((hfr 127 r (by decide)).trans k7) (by omega)) rfl (lt_nn (by decide)) rfl rfl ⟨by decide, by decide⟩ (Nat.le_of_ble_eq_true rfl) ⟨rfl, rfl⟩ ⟨by decide, by decide⟩ ?_
    refine aE_istM dX12_morning_103 (lt_nn (by decide)) rfl (by decide) rfl (by omega) ?_
    refine aE_iinc dX12_morning_104 rfl (a_inc _) (by decide) rfl (aE_loc (ls' := [_, _, _, _, _, _, _, _, _, _]) rfl ?_)
    refine aE_goto (tgt := 76) dX12_morning_107 (by decide) ?_
    refine ih (k + 1) _ (by omega) (fun q i hq => (iu_ne (by omega)).trans (hfr q i hq)) (fun r' s' S' hr' k' hk' hlt => ?_)
    by_cases e : r' = r ∧ k' = k
    · obtain ⟨rfl, rfl⟩ := e
      rw [hr] at hr'
      cases hr'
      exact iu_eq
    · rw [iu_ne (by omega)]
      exact hO r' s' S' hr' k' hk' (by omega)
theorem l_mo3 (ns : Nat) (d : pD) (cs : Nat → pC) (al : Nat → Nat) (K0 : Nat → Nat → Int32) (hM : MS K0 ns d cs al) (route late snow : Int32) (l6 l7 l8 l9 : Option Value) (k0 : ∀ J l5, (∀ q i, q ≠ 145 → J q i = K0 q i) → ORD J d cs (RR d cs al ns) (RR d cs al ns).length 0 → aE z mX12_morning (rK 6) Q 116 [some (.ref 101), some (.int route), some (.int late), some (.int snow), some (.int (nI (RR d cs al ns).length)), l5, l6, l7, l8, l9] [] (nn pl) (MM J sp pl) 0 0) : ∀ (e r : Nat) (I : Nat → Nat → Int32) (l5 : Option Value), r + e = (RR d cs al ns).length → (∀ q i, q ≠ 145 → I q i = K0 q i) → ORD I d cs (RR d cs al ns) r 0 → aE z mX12_morning (rK 6) Q 64 [some (.ref 101), some (.int route), some (.int late), some (.int snow), some (.int (nI r)), l5, l6, l7, l8, l9] [] (nn pl) (MM I sp pl) 0 0 := by
  have hn := hM.2.2.2.2.1.2.2.1.1
  have hl10 := hM.2.2.2.2.2.2.1
  intro e
  induction e with
  | zero =>
    intro r I l5 hr hfr hO
    have hr : r = (RR d cs al ns).length := by omega
    subst hr
    refine aE_iload dX12_morning_64 rfl ?_
    refine aE_aload_n dX12_morning_66 rfl rfl ?_
    refine aE_geti dX12_morning_67 fw_X12_230 (lt_nn (by decide)) rfl (by decide) rfl ?_
    refine aE_icmp_ge (tgt := 116) dX12_morning_70 (by decide) (fun h70 => ?_) (fun h70 => absurd (by rw [hfr 101 42 (by decide), hn]; exact Int32.le_refl _) h70)
    exact k0 I _ hfr hO
  | succ e ih =>
    intro r I l5 hr hfr hO
    have hrl : r < (RR d cs al ns).length := by omega
    obtain ⟨s, S, hsS⟩ : ∃ s S, rt0 (RR d cs al ns) r = (s, S) := ⟨_, _, rfl⟩
    have hget := rt0_ex hrl
    rw [hsS] at hget
    refine aE_iload dX12_morning_64 rfl ?_
    refine aE_aload_n dX12_morning_66 rfl rfl ?_
    refine aE_geti dX12_morning_67 fw_X12_230 (lt_nn (by decide)) rfl (by decide) rfl ?_
    refine aE_icmp_ge (tgt := 116) dX12_morning_70 (by decide) (fun h70 => absurd h70 (by rw [hfr 101 42 (by decide), hn]; exact nI_ge (by omega) (by omega))) (fun h70 => ?_)
    refine aE_iconst (v := 0) dX12_morning_73 rfl ?_
    refine aE_istore dX12_morning_74 (by decide) rfl (aE_loc (ls' := [_, _, _, _, _, _, _, _, _, _]) rfl ?_)
    refine l_mo4 ns d cs al K0 hM route late snow r s S hget _ _ _ _ (fun J hJ hOJ => ?_) 11 0 I (by omega) hfr hO
    refine aE_iinc dX12_morning_110 rfl (a_inc _) (by decide) rfl (aE_loc (ls' := [_, _, _, _, _, _, _, _, _, _]) rfl ?_)
    refine aE_goto (tgt := 64) dX12_morning_113 (by decide) ?_
    exact ih (r + 1) J _ (by omega) hJ (fun r' s' S' hr' k' hk' hlt => hOJ r' s' S' hr' k' hk' (by omega))
theorem l_mo1 (ns : Nat) (d : pD) (cs : Nat → pC) (L : List (Nat × Nat)) (D : tT) (tr : Nat → Int32) (nx : Nat → Option Nat) (pu : Nat → Int32) (route late snow : Int32) (dp : Nat → Nat) (hdp : dpOK nx L.length dp) (hdn : ∀ r, r < L.length → dp r < L.length) (I0 : Nat → Nat → Int32) (fin : (Nat → Int32) × Int32) (hQ : ∀ J, (∀ q i, q ≠ 144 → ¬ (q = 101 ∧ i = 57) → J q i = I0 q i) → J 101 57 = nI L.length → (∀ r, r < L.length → J 144 r = fin.1 r) → qi Q fin.2 J sp pl) : ∀ (e fi : Nat) (x : (Nat → Int32) × Int32) (I : Nat → Nat → Int32), fi + e = L.length → drA (mpM d cs L D tr pu route late) nx (fun r => isF nx r L.length) L.length e x = fin → (∀ q i, q ≠ 144 → I q i = I0 q i) → MO I ns d cs L D tr nx pu → (∀ r, r < L.length → I 144 r = x.1 r) → ∀ l6 l7 l8 l9, aE z mX12_morning (rK 6) Q 127 [some (.ref 101), some (.int route), some (.int late), some (.int snow), some (.int x.2), some (.int (nI fi)), l6, l7, l8, l9] [] (nn pl) (MM I sp pl) 0 0 := by
  intro e
  induction e with
  | zero =>
    intro fi x I hfi hf hfr hO hC l6 l7 l8 l9
    have hfi : fi = L.length := by omega
    subst hfi
    have hf : x = fin := hf
    subst hf
    refine aE_iload dX12_morning_127 rfl ?_
    refine aE_aload_n dX12_morning_129 rfl rfl ?_
    refine aE_geti dX12_morning_130 fw_X12_230 (lt_nn (by decide)) rfl (by decide) rfl ?_
    refine aE_icmp_ge (tgt := 330) dX12_morning_133 (by decide) (fun h133 => ?_) (fun h133 => absurd (by rw [hO.1]; exact Int32.le_refl _) h133)
    refine aE_aload_n dX12_morning_330 rfl rfl ?_
    refine aE_aload_n dX12_morning_331 rfl rfl ?_
    refine aE_geti dX12_morning_332 fw_X12_230 (lt_nn (by decide)) rfl (by decide) rfl ?_
    refine aE_top hO.1 ?_
    refine aE_puti dX12_morning_335 fp_X12_319 (Or.inl rfl) (lt_nn (by decide)) rfl (fun _ => ⟨rfl, rfl⟩) (by decide) rfl ?_
    refine aE_iload dX12_morning_338 rfl ?_
    refine aE_iret dX12_morning_340 rfl ⟨by decide, by decide⟩ ?_
    exact hQ _ (fun q i h1 h2 => (iu_ne (by omega)).trans (hfr q i h1)) iu_eq (fun r hr => (iu_ne (by omega)).trans (hC r hr))
  | succ e ih =>
    intro fi x I hfi hf hfr hO hC l6 l7 l8 l9
    have hl10 := hO.2.2.2.2.2.2.2.2.2.2.1
    rw [drA_s, show L.length - (e + 1) = fi by omega] at hf
    refine aE_iload dX12_morning_127 rfl ?_
    refine aE_aload_n dX12_morning_129 rfl rfl ?_
    refine aE_geti dX12_morning_130 fw_X12_230 (lt_nn (by decide)) rfl (by decide) rfl ?_
    refine aE_icmp_ge (tgt := 330) dX12_morning_133 (by decide) (fun h133 => absurd h133 (by rw [hO.1]; exact nI_ge (by omega) (by omega))) (fun h133 => ?_)
    refine aE_aload_n dX12_morning_136 rfl rfl ?_
    refine aE_iload dX12_morning_137 rfl ?_
    refine aE_cVi dX12_morning_139 lk_X12_274 mv_X12_isFirst (m_isFirst L.length nx hO.1 hl10 hO.2.2.2.2.2.2.2.1 (fun a b ha hb => (hdp a b ha hb).1) fi (by omega)) rfl (lt_nn (by decide)) rfl rfl ⟨by decide, by decide⟩ (Nat.le_of_ble_eq_true rfl) ⟨rfl, rfl⟩ ⟨by decide, by decide⟩ ?_
    refine aE_if_ne (tgt := 148) dX12_morning_142 (by decide) (fun h142 => ?_) (fun h142 => ?_)
    · skip
      have hfir : isF nx fi L.length = true := Classical.byContradiction (fun q => h142 (by rw [if_neg q]))
      rw [if_pos hfir] at hf
      refine aE_iconst (v := -1) dX12_morning_148 rfl ?_
      refine aE_istore dX12_morning_149 (by decide) rfl (aE_loc (ls' := [_, _, _, _, _, _, _, _, _, _]) rfl ?_)
      refine aE_iload dX12_morning_151 rfl ?_
      refine aE_istore dX12_morning_153 (by decide) rfl (aE_loc (ls' := [_, _, _, _, _, _, _, _, _, _]) rfl ?_)
      refine l_mo2 ns d cs L D tr nx pu route late snow dp hdp fi I0 (drC (mpM d cs L D tr pu route late) nx L.length x none (some fi)) (fun J l6 l7 l8 l9 j1 j2 j3 => ?_) L.length x none (some fi) I (fun r h => by cases h; exact ⟨by omega, hdn fi (by omega)⟩) (fun a h => by cases h) rfl hfr hO hC _ _
      refine aE_iinc dX12_morning_324 rfl (a_inc _) (by decide) rfl (aE_loc (ls' := [_, _, _, _, _, _, _, _, _, _]) rfl ?_)
      refine aE_goto (tgt := 127) dX12_morning_327 (by decide) ?_
      exact ih (fi + 1) _ J (by omega) hf j1 j2 j3 _ _ _ _
    · skip
      have hfir : ¬ isF nx fi L.length = true := fun q => by rw [if_pos q] at h142; exact absurd (show (1 : Int32) = 0 by first | exact h142 | exact Classical.not_not.mp h142) (by decide)
      rw [if_neg hfir] at hf
      refine aE_goto (tgt := 324) dX12_morning_145 (by decide) ?_
      refine aE_iinc dX12_morning_324 rfl (a_inc _) (by decide) rfl (aE_loc (ls' := [_, _, _, _, _, _, _, _, _, _]) rfl ?_)
      refine aE_goto (tgt := 127) dX12_morning_327 (by decide) ?_
      exact ih (fi + 1) x I (by omega) hf hfr hO hC _ _ _ _
set_option maxRecDepth 20000 in
theorem m_morning (route late snow : Int32) (dp : Nat → Nat) (ns nstr nc : Nat) (d : pD) (cs : Nat → pC) (fr to : Nat → Nat) (hW : MW I ns nstr nc d cs fr to) (hst : ¬ I 101 29 = 0 → PlM I d cs (alM I d) ns) (hdp : dpOK (nxG (mayF d cs (fun s => I 108 s) (I 101 9) (RR d cs (alM I d) ns)) (RR d cs (alM I d) ns).length) (RR d cs (alM I d) ns).length dp) (hdn : ∀ r, r < (RR d cs (alM I d) ns).length → dp r < (RR d cs (alM I d) ns).length) (hB : (route < 0 ∨ wi late 0 60 = 0 ∨ wi snow 0 10 = 0) → qi Q (-1000001) (fndM I) sp pl) (hN : ∀ J, ¬ route < 0 → FrP I J → MS J ns d cs (alM I d) → (allH d cs (alM I d) ns = false ∨ nI (RR d cs (alM I d) ns).length ≤ route) → qi Q (-1000004) (fndM J) sp pl) (hO : ∀ J D (C : Nat → Int32), D = dTab fr to (I 104) (I 105) snow nstr → ¬ route < 0 → route < nI (RR d cs (alM I d) ns).length → (∀ q i, ¬ (121 ≤ q ∧ q ≤ 135) → q ≠ 144 → q ≠ 145 → ¬ (q = 101 ∧ (i = 29 ∨ i = 42 ∨ i = 43 ∨ i = 57)) → J q i = I q i) → ¬ J 101 29 = 0 → PlM J d cs (alM I d) ns → allH d cs (alM I d) ns = true → J 101 57 = nI (RR d cs (alM I d) ns).length → (∀ r, r < (RR d cs (alM I d) ns).length → J 144 r = (drA (mpM d cs (RR d cs (alM I d) ns) D (fun s => I 108 s) (I 112) route late) (nxG (mayF d cs (fun s => I 108 s) (I 101 9) (RR d cs (alM I d) ns)) (RR d cs (alM I d) ns).length) (fun r => isF (nxG (mayF d cs (fun s => I 108 s) (I 101 9) (RR d cs (alM I d) ns)) (RR d cs (alM I d) ns).length) r (RR d cs (alM I d) ns).length) (RR d cs (alM I d) ns).length (RR d cs (alM I d) ns).length (C, 0)).1 r) → qi Q (drA (mpM d cs (RR d cs (alM I d) ns) D (fun s => I 108 s) (I 112) route late) (nxG (mayF d cs (fun s => I 108 s) (I 101 9) (RR d cs (alM I d) ns)) (RR d cs (alM I d) ns).length) (fun r => isF (nxG (mayF d cs (fun s => I 108 s) (I 101 9) (RR d cs (alM I d) ns)) (RR d cs (alM I d) ns).length) r (RR d cs (alM I d) ns).length) (RR d cs (alM I d) ns).length (RR d cs (alM I d) ns).length (C, 0)).2 J sp pl) : aRuns mX12_morning (rK 6) [.ref 101, .int route, .int late, .int snow] (nn pl) (MM I sp pl) Q := by
  refine aRuns_of pn_X12_morning (Nat.le_of_ble_eq_true rfl) (fun z => aE_loc (ls' := [_, _, _, _, _, _, _, _, _, _]) rfl ?_)
  refine aE_iload_n dX12_morning_0 rfl rfl ?_
  refine aE_if_lt (tgt := 24) dX12_morning_1 (by decide) (fun h1 => ?_) (fun h1 => ?_)
  · skip
    refine aE_aload_n dX12_morning_24 rfl rfl ?_
    refine aE_ldc dX12_morning_25 ct_X12_185 ?_
    refine aE_cVi dX12_morning_27 lk_X12_177 mv_X12_finds (c_finds _) rfl (lt_nn (by decide)) rfl rfl ⟨by decide, by decide⟩ (Nat.le_of_ble_eq_true rfl) ⟨rfl, rfl⟩ ⟨by decide, by decide⟩ ?_
    refine aE_iret dX12_morning_30 rfl ⟨by decide, by decide⟩ ?_
    refine hB ?_
    first | exact Or.inl h1 | exact Or.inr (Or.inl h11) | exact Or.inr (Or.inr (by first | exact h21 | exact Classical.not_not.mp h21))
  · skip
    refine aE_iload_n dX12_morning_4 rfl rfl ?_
    refine aE_iconst (v := 0) dX12_morning_5 rfl ?_
    refine aE_bipush (v := 60) dX12_morning_6 (by decide) ?_
    refine aE_cSi dX12_morning_8 lk_X12_159 ms_X12_in (c_in _ _ _) rfl rfl ⟨by decide, by decide⟩ (Nat.le_of_ble_eq_true rfl) ⟨rfl, rfl⟩ ⟨by decide, by decide⟩ ?_
    refine aE_if_eq (tgt := 24) dX12_morning_11 (by decide) (fun h11 => ?_) (fun h11 => ?_)
    · skip
      refine aE_aload_n dX12_morning_24 rfl rfl ?_
      refine aE_ldc dX12_morning_25 ct_X12_185 ?_
      refine aE_cVi dX12_morning_27 lk_X12_177 mv_X12_finds (c_finds _) rfl (lt_nn (by decide)) rfl rfl ⟨by decide, by decide⟩ (Nat.le_of_ble_eq_true rfl) ⟨rfl, rfl⟩ ⟨by decide, by decide⟩ ?_
      refine aE_iret dX12_morning_30 rfl ⟨by decide, by decide⟩ ?_
      refine hB ?_
      first | exact Or.inl h1 | exact Or.inr (Or.inl h11) | exact Or.inr (Or.inr (by first | exact h21 | exact Classical.not_not.mp h21))
    · skip
      refine aE_iload_n dX12_morning_14 rfl rfl ?_
      refine aE_iconst (v := 0) dX12_morning_15 rfl ?_
      refine aE_bipush (v := 10) dX12_morning_16 (by decide) ?_
      refine aE_cSi dX12_morning_18 lk_X12_159 ms_X12_in (c_in _ _ _) rfl rfl ⟨by decide, by decide⟩ (Nat.le_of_ble_eq_true rfl) ⟨rfl, rfl⟩ ⟨by decide, by decide⟩ ?_
      refine aE_if_ne (tgt := 31) dX12_morning_21 (by decide) (fun h21 => ?_) (fun h21 => ?_)
      · skip
        refine aE_aload_n dX12_morning_31 rfl rfl ?_
        refine aE_cVq dX12_morning_32 lk_X12_243 mv_X12_plan (m_planS (Q := (fun (r : Option Value) (n' : Nat) (m' : aM) => r = none ∧ n' = nn pl ∧ ∃ J, m' = MM J sp pl ∧ FrP I J ∧ MS J ns d cs (alM I d))) ns nstr nc d cs fr to hW hst (fun J h1 h2 => ⟨rfl, rfl, J, rfl, h1, h2⟩)) rfl (lt_nn (by decide)) rfl rfl ⟨by decide, by decide⟩ (Nat.le_of_ble_eq_true rfl) ⟨rfl, rfl⟩ ⟨by decide, by decide⟩ ?_
        rintro r n' m' ⟨rfl, rfl, J, rfl, hJ, hM⟩
        have hha : J 101 43 = if allH d cs (alM I d) ns then 1 else 0 := hM.2.2.2.2.1.2.2.2.2
        have hll : J 101 42 = nI (RR d cs (alM I d) ns).length := hM.2.2.2.2.1.2.2.1.1
        have hl10 := hM.2.2.2.2.2.2.1
        refine aE_aload_n dX12_morning_35 rfl rfl ?_
        refine aE_geti dX12_morning_36 fw_X12_233 (lt_nn (by decide)) rfl (by decide) rfl ?_
        refine aE_top hha ?_
        refine aE_if_eq (tgt := 50) dX12_morning_39 (by decide) (fun h39 => ?_) (fun h39 => ?_)
        · skip
          refine aE_aload_n dX12_morning_50 rfl rfl ?_
          refine aE_ldc dX12_morning_51 ct_X12_197 ?_
          refine aE_cVi dX12_morning_53 lk_X12_177 mv_X12_finds (c_finds _) rfl (lt_nn (by decide)) rfl rfl ⟨by decide, by decide⟩ (Nat.le_of_ble_eq_true rfl) ⟨rfl, rfl⟩ ⟨by decide, by decide⟩ ?_
          refine aE_iret dX12_morning_56 rfl ⟨by decide, by decide⟩ ?_
          first | exact hN J h1 hJ hM (Or.inl (Bool.eq_false_iff.mpr (fun q => by rw [if_pos q] at h39; exact absurd h39 (by decide)))) | exact hN J h1 hJ hM (Or.inr (Int32.not_lt.mp h47))
        · skip
          refine aE_iload_n dX12_morning_42 rfl rfl ?_
          refine aE_aload_n dX12_morning_43 rfl rfl ?_
          refine aE_geti dX12_morning_44 fw_X12_230 (lt_nn (by decide)) rfl (by decide) rfl ?_
          refine aE_top hll ?_
          refine aE_icmp_lt (tgt := 57) dX12_morning_47 (by decide) (fun h47 => ?_) (fun h47 => ?_)
          · skip
            refine aE_aload_n dX12_morning_57 rfl rfl ?_
            refine aE_cVq dX12_morning_58 lk_X12_271 mv_X12_findChains (m_findChains (Q := (fun (r : Option Value) (n' : Nat) (m' : aM) => r = none ∧ n' = nn pl ∧ ∃ K, m' = MM K sp pl ∧ MC I K ns d cs)) ns nstr nc d cs fr to (MW_fr hW hJ) (fun _ => (alM_fr (d := d) hJ).symm ▸ hM.2.2.2.2.1) (fun K h => ⟨rfl, rfl, K, rfl, MC_tr hJ h⟩)) rfl (lt_nn (by decide)) rfl rfl ⟨by decide, by decide⟩ (Nat.le_of_ble_eq_true rfl) ⟨rfl, rfl⟩ ⟨by decide, by decide⟩ ?_
            rintro r n' m' ⟨rfl, rfl, K, rfl, hC⟩
            have hCM := hC.2.2.1
            have hCl : K 101 42 = nI (RR d cs (alM I d) ns).length := hCM.2.2.2.2.1.2.2.1.1
            have hCn := hCM.2.2.2.2.2.2.1
            refine aE_iconst (v := 0) dX12_morning_61 rfl ?_
            refine aE_istore dX12_morning_62 (by decide) rfl (aE_loc (ls' := [_, _, _, _, _, _, _, _, _, _]) rfl ?_)
            have hah := (Classical.byContradiction (fun q => by rw [if_neg q] at h39; exact h39 rfl))
            refine l_mo3 ns d cs (alM I d) K hCM route late snow _ _ _ _ (fun J2 l5 j1 j2 => ?_) (RR d cs (alM I d) ns).length 0 K _ (by omega) (fun _ _ _ => rfl) (fun r' s S hr' k' hk' hlt => absurd hlt (by omega))
            have e104 : J2 104 = I 104 := funext fun i => (j1 104 i (by decide)).trans (hC.1 104 i (by omega) (by omega))
            have e105 : J2 105 = I 105 := funext fun i => (j1 105 i (by decide)).trans (hC.1 105 i (by omega) (by omega))
            have eI : ∀ q i, q < 121 → (q = 101 → i < 29) → J2 q i = I q i := fun q i h1 h2 => (j1 q i (by omega)).trans (hC.1 q i (by omega) (by omega))
            refine aE_aload_n dX12_morning_116 rfl rfl ?_
            refine aE_iload_n dX12_morning_117 rfl rfl ?_
            refine aE_cVv dX12_morning_118 lk_X12_193 mv_X12_findFars (m_findFars snow nstr nc fr to ((eI 101 1 (by omega) (by omega)).trans hW.2.2.1) hW.2.2.2.1 hW.2.2.2.2.1 (fun s hs => by
              obtain ⟨a, b, c, g⟩ := hW.2.2.2.2.2.1 s hs
              exact ⟨a, b, (eI 102 s (by omega) (by omega)).trans c, (eI 103 s (by omega) (by omega)).trans g⟩)) rfl (lt_nn (by decide)) rfl rfl ⟨by decide, by decide⟩ (Nat.le_of_ble_eq_true rfl) ⟨rfl, rfl⟩ ⟨by decide, by decide⟩ ?_
            rw [e104, e105]
            refine aE_iconst (v := 0) dX12_morning_121 rfl ?_
            refine aE_istore dX12_morning_122 (by decide) rfl (aE_loc (ls' := [_, _, _, _, _, _, _, _, _, _]) rfl ?_)
            refine aE_iconst (v := 0) dX12_morning_124 rfl ?_
            refine aE_istore dX12_morning_125 (by decide) rfl (aE_loc (ls' := [_, _, _, _, _, _, _, _, _, _]) rfl ?_)
            obtain ⟨D, hD⟩ : ∃ D, dTab fr to (I 104) (I 105) snow nstr = D := ⟨_, rfl⟩
            rw [hD]
            obtain ⟨K3, hK3⟩ : ∃ K3, pfk J2 64 D = K3 := ⟨_, rfl⟩
            refine aE_I hK3 ?_
            have g1 : ∀ q i, q ≠ 121 → q ≠ 145 → K3 q i = K q i := fun q i h1 h2 => by rw [← hK3, pfk_o h1]; exact j1 q i h2
            have g2 : ∀ a b, a < 8 → b < 8 → K3 121 (8 * a + b) = D a b := fun a b ha hb => by rw [← hK3]; exact pfk_at ha hb
            have gI : ∀ q i, q < 121 → (q = 101 → i < 29) → K3 q i = I q i := fun q i h1 h2 => (g1 q i (by omega) (by omega)).trans (hC.1 q i (by omega) (by omega))
            have hMO : MO K3 ns d cs (RR d cs (alM I d) ns) D (fun s => I 108 s) (nxG (mayF d cs (fun s => I 108 s) (I 101 9) (RR d cs (alM I d) ns)) (RR d cs (alM I d) ns).length) (I 112) := by
              refine ⟨(g1 101 42 (by decide) (by decide)).trans hCl, (gI 101 3 (by omega) (by omega)).trans hW.2.2.2.2.2.2.2.1, fun r s S hr => ?_, fun k hk => ⟨(hW.2.2.2.2.2.2.2.2.2.1 k hk).1, (gI 111 k (by omega) (by omega)).trans (hW.2.2.2.2.2.2.2.2.2.1 k hk).2⟩, fun s hs => ⟨(hW.2.2.2.2.2.2.2.2.2.2.2.2 s hs).1, (gI 107 s (by omega) (by omega)).trans (hW.2.2.2.2.2.2.2.2.2.2.2.2 s hs).2.1⟩, g2, fun s hs => (g1 132 s (by decide) (by decide)).trans (hC.2.2.2.1 s hs), fun a ha => (g1 135 a (by decide) (by decide)).trans (hC.2.2.2.2.1 a ha), fun r s S hr k hk => ?_, fun i => gI 112 i (by omega) (by omega), hCn, hW.2.2.2.2.2.2.2.2.1, hW.2.1⟩
              · obtain ⟨m1, m2, m3, m4, m5, m6, m7, m8, m9⟩ := MS_rt hCM hr
                rw [g1 127 r (by decide) (by decide), g1 128 r (by decide) (by decide), g1 129 r (by decide) (by decide)]
                exact ⟨m1, m2, m3, fun i hi => MS_bit hCM m4 hi, m7, m8, m9⟩
              · rw [← hK3, pfk_o (by decide)]
                exact j2 r s S hr k hk (Or.inl (List.getElem?_eq_some_iff.mp hr).1)
            refine l_mo1 ns d cs (RR d cs (alM I d) ns) D (fun s => I 108 s) (nxG (mayF d cs (fun s => I 108 s) (I 101 9) (RR d cs (alM I d) ns)) (RR d cs (alM I d) ns).length) (I 112) route late snow dp hdp hdn K3 (drA (mpM d cs (RR d cs (alM I d) ns) D (fun s => I 108 s) (I 112) route late) (nxG (mayF d cs (fun s => I 108 s) (I 101 9) (RR d cs (alM I d) ns)) (RR d cs (alM I d) ns).length) (fun r => isF (nxG (mayF d cs (fun s => I 108 s) (I 101 9) (RR d cs (alM I d) ns)) (RR d cs (alM I d) ns).length) r (RR d cs (alM I d) ns).length) (RR d cs (alM I d) ns).length (RR d cs (alM I d) ns).length (fun r => K3 144 r, 0)) (fun J4 b1 b2 b3 => ?_) (RR d cs (alM I d) ns).length 0 (fun r => K3 144 r, 0) K3 (by omega) rfl (fun _ _ _ => rfl) hMO (fun _ _ => rfl) _ _ _ _
            have b4 : ∀ q i, ¬ (121 ≤ q ∧ q ≤ 135) → q ≠ 144 → q ≠ 145 → ¬ (q = 101 ∧ (i = 29 ∨ i = 42 ∨ i = 43 ∨ i = 57)) → J4 q i = I q i := fun q i h1 h2 h3 h4 => (b1 q i h2 (by omega)).trans ((g1 q i (by omega) h3).trans (hC.1 q i h1 (by omega)))
            exact hO J4 D (fun r => K3 144 r) hD.symm h1 h47 b4 (by rw [b1 101 29 (by decide) (by decide), g1 101 29 (by decide) (by decide)]; exact hC.2.1) (PlM_fr hW.2.2.2.2.2.2.2.2.1 hCM.2.2.2.2.1 (fun q i hq => (b1 q i (by omega) (by omega)).trans (g1 q i (by omega) (by omega)))) hah b2 b3
          · skip
            refine aE_aload_n dX12_morning_50 rfl rfl ?_
            refine aE_ldc dX12_morning_51 ct_X12_197 ?_
            refine aE_cVi dX12_morning_53 lk_X12_177 mv_X12_finds (c_finds _) rfl (lt_nn (by decide)) rfl rfl ⟨by decide, by decide⟩ (Nat.le_of_ble_eq_true rfl) ⟨rfl, rfl⟩ ⟨by decide, by decide⟩ ?_
            refine aE_iret dX12_morning_56 rfl ⟨by decide, by decide⟩ ?_
            first | exact hN J h1 hJ hM (Or.inl (Bool.eq_false_iff.mpr (fun q => by rw [if_pos q] at h39; exact absurd h39 (by decide)))) | exact hN J h1 hJ hM (Or.inr (Int32.not_lt.mp h47))
      · skip
        refine aE_aload_n dX12_morning_24 rfl rfl ?_
        refine aE_ldc dX12_morning_25 ct_X12_185 ?_
        refine aE_cVi dX12_morning_27 lk_X12_177 mv_X12_finds (c_finds _) rfl (lt_nn (by decide)) rfl rfl ⟨by decide, by decide⟩ (Nat.le_of_ble_eq_true rfl) ⟨rfl, rfl⟩ ⟨by decide, by decide⟩ ?_
        refine aE_iret dX12_morning_30 rfl ⟨by decide, by decide⟩ ?_
        refine hB ?_
        first | exact Or.inl h1 | exact Or.inr (Or.inl h11) | exact Or.inr (Or.inr (by first | exact h21 | exact Classical.not_not.mp h21))
end MMO2
