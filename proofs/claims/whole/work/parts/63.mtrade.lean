def FrX (I0 I : Nat → Nat → Int32) : Prop := ∀ q i, q ≠ 132 → q ≠ 133 → ¬ (136 ≤ q ∧ q ≤ 139) → q ≠ 143 → I q i = I0 q i
/-- the first c codes have been weighed -/
def TI (I0 I : Nat → Nat → Int32) (d : pD) (cs : Nat → pC) (ns nr c : Nat) : Prop := FrX I0 I ∧ (∀ n, n < 11 → I 139 n = (tsM I0 d cs ns nr c).1 n) ∧ ∀ n, n < 11 → ∀ c', (tsM I0 d cs ns nr c).2 n = some c' → ∀ s, s < ns → I 143 (4 * n + s) = nI (dg ns c' s)
theorem a_rem7 {p : Nat} (h : p < 10000) : nI p - nI p / 7 * 7 = nI (p % 7) := pk_rem (a := p) (d := 7) (by omega) (by decide) (by decide)
theorem a_div7 {p : Nat} (h : p < 10000) : nI p / 7 = nI (p / 7) := pk_div (a := p) (d := 7) (by omega) (by decide) (by decide)
section MTR
variable {z : Nat × (Nat → Int32)} {n : Nat} {mem : aM} {I : Nat → Nat → Int32} {sp : Nat → Nat} {pl : Bool} {Q : Option Value → Nat → aM → Prop} {R : Room}
theorem l_td (ns nr c : Nat) (I0 : Nat → Nat → Int32) (hs4 : ns ≤ 4) (hc : c < 7 ^ ns) (hr : I0 101 4 = nI nr) (h8 : nr ≤ 8) (x1 l6 l7 : Option Value) (k0 : ∀ I l3 l5, (∀ q i, q ≠ 132 → I q i = I0 q i) → (∀ s, s < ns → I 132 s = nI (dg ns c s)) → aE z mX12_findTrades (rK 6) Q 164 [some (.ref 101), x1, some (.int (nI c)), l3, some (.int (if alW I0 nr ns c then 1 else 0)), l5, l6, l7] [] (nn pl) (MM I sp pl) 0 0) : ∀ (m : Nat) (I : Nat → Nat → Int32) (x : Int32), m ≤ ns → x = nI m - 1 → (∀ q i, q ≠ 132 → I q i = I0 q i) → (∀ s, m ≤ s → s < ns → I 132 s = nI (dg ns c s)) → aE z mX12_findTrades (rK 6) Q 109 [some (.ref 101), x1, some (.int (nI c)), some (.int (nI (c / 7 ^ (ns - m)))), some (.int (if alF (alG I0 nr ns c) ns (ns - m) then 1 else 0)), some (.int x), l6, l7] [] (nn pl) (MM I sp pl) 0 0 := by
  have h7 := pow7 hs4
  intro m
  induction m with
  | zero =>
    intro I x hm hx hfr hrow
    subst hx
    refine aE_iload dX12_findTrades_109 rfl ?_
    refine aE_if_lt (tgt := 164) dX12_findTrades_111 (by decide) (fun h111 => ?_) (fun h111 => absurd (by decide) h111)
    exact k0 I _ _ hfr (fun s hs => hrow s (Nat.zero_le _) hs)
  | succ m ih =>
    intro I x hm hx hfr hrow
    rw [nI_pred] at hx
    subst hx
    have hle : c / 7 ^ (ns - (m + 1)) ≤ c := Nat.div_le_self _ _
    have hdg : c / 7 ^ (ns - (m + 1)) % 7 = dg ns c m := by unfold dg; rw [show ns - (m + 1) = ns - 1 - m by omega]
    have hdv : c / 7 ^ (ns - (m + 1)) / 7 = c / 7 ^ (ns - m) := by
      rw [Nat.div_div_eq_div_mul, ← Nat.pow_succ, show (ns - (m + 1)).succ = ns - m by omega]
    have hal : alF (alG I0 nr ns c) ns (ns - m) = (alF (alG I0 nr ns c) ns (ns - (m + 1)) && alG I0 nr ns c m) := by
      rw [show ns - m = (ns - (m + 1)) + 1 by omega, alF_s, show ns - (ns - (m + 1) + 1) = m by omega]
    have hfr2 : ∀ q i, q ≠ 132 → iu I 132 m (nI (dg ns c m)) q i = I0 q i := fun q i hq => (iu_ne (by omega)).trans (hfr q i hq)
    have ih2 := ih (iu I 132 m (nI (dg ns c m))) (nI m - 1) (by omega) rfl hfr2 (fun s h1 h2 => by
      by_cases e : s = m
      · subst e; exact iu_eq
      · exact (iu_ne (by omega)).trans (hrow s (by omega) h2))
    rw [hal] at ih2
    have hg : alG I0 nr ns c m = decide (permV (I0 106 m) (nI (dg ns c m)) (I0 114) (I0 115) (I0 116) nr ≠ 0) := rfl
    have e1 : iu I 132 m (nI (dg ns c m)) 114 = I0 114 := funext fun i => hfr2 114 i (by decide)
    have e2 : iu I 132 m (nI (dg ns c m)) 115 = I0 115 := funext fun i => hfr2 115 i (by decide)
    have e3 : iu I 132 m (nI (dg ns c m)) 116 = I0 116 := funext fun i => hfr2 116 i (by decide)
    refine aE_iload dX12_findTrades_109 rfl ?_
    refine aE_if_lt (tgt := 164) dX12_findTrades_111 (by decide) (fun h111 => absurd h111 (nI_pos (by omega))) (fun h111 => ?_)
    refine aE_aload_n dX12_findTrades_114 rfl rfl ?_
    refine aE_getf (v := .ref 132) dX12_findTrades_115 fw_X12_108 (lt_nn (by decide)) rfl rfl ?_
    refine aE_iload dX12_findTrades_118 rfl ?_
    refine aE_iload_n dX12_findTrades_120 rfl rfl ?_
    refine aE_bipush (v := 7) dX12_findTrades_121 (by decide) ?_
    refine aE_irem dX12_findTrades_123 (by decide) ?_
    refine aE_top (x' := nI (dg ns c m)) ((a_rem7 (by omega)).trans (congrArg nI hdg)) ?_
    refine aE_istM dX12_findTrades_124 (lt_nn (by decide)) rfl (by decide) rfl (by omega) ?_
    refine aE_iload_n dX12_findTrades_125 rfl rfl ?_
    refine aE_bipush (v := 7) dX12_findTrades_126 (by decide) ?_
    refine aE_idiv dX12_findTrades_128 (by decide) ?_
    refine aE_top (x' := nI (c / 7 ^ (ns - m))) ((a_div7 (by omega)).trans (congrArg nI hdv)) ?_
    refine aE_istore_n dX12_findTrades_129 rfl (by decide) rfl (aE_loc (ls' := [_, _, _, _, _, _, _, _]) rfl ?_)
    refine aE_iload dX12_findTrades_130 rfl ?_
    refine aE_if_eq (tgt := 155) dX12_findTrades_132 (by decide) (fun h132 => ?_) (fun h132 => ?_)
    · skip
      refine aE_iconst (v := 0) dX12_findTrades_155 rfl ?_
      refine aE_top (x' := if (alF (alG I0 nr ns c) ns (ns - (m + 1)) && alG I0 nr ns c m) then 1 else 0) (by
        first
          | (have hq : alF (alG I0 nr ns c) ns (ns - (m + 1)) = true := Classical.byContradiction (fun q => h132 (by rw [if_neg q]))
             rw [hq, hg, decide_eq_true h148]; rfl)
          | (have hq : alF (alG I0 nr ns c) ns (ns - (m + 1)) = false := Bool.eq_false_iff.mpr (fun q => by rw [if_pos q] at h132; exact absurd h132 (by decide))
             rw [hq]; rfl)
          | (rw [hg, decide_eq_false (fun q => q h148), Bool.and_false]; rfl)) ?_
      refine aE_istore dX12_findTrades_156 (by decide) rfl (aE_loc (ls' := [_, _, _, _, _, _, _, _]) rfl ?_)
      refine aE_iinc dX12_findTrades_158 rfl (a_dec _) (by decide) rfl (aE_loc (ls' := [_, _, _, _, _, _, _, _]) rfl ?_)
      refine aE_goto (tgt := 109) dX12_findTrades_161 (by decide) ?_
      exact ih2
    · skip
      refine aE_aload_n dX12_findTrades_135 rfl rfl ?_
      refine aE_iload dX12_findTrades_136 rfl ?_
      refine aE_aload_n dX12_findTrades_138 rfl rfl ?_
      refine aE_getf (v := .ref 132) dX12_findTrades_139 fw_X12_108 (lt_nn (by decide)) rfl rfl ?_
      refine aE_iload dX12_findTrades_142 rfl ?_
      refine aE_ildM dX12_findTrades_144 (lt_nn (by decide)) rfl (by decide) rfl (by omega) ?_
      refine aE_top iu_eq ?_
      refine aE_cVi dX12_findTrades_145 lk_X12_292 mv_X12_isAllowed (m_isAllowed m nr (nI (dg ns c m)) (by omega) ((hfr2 101 4 (by decide)).trans hr) h8) rfl (lt_nn (by decide)) rfl rfl ⟨by decide, by decide⟩ (Nat.le_of_ble_eq_true rfl) ⟨rfl, rfl⟩ ⟨by decide, by decide⟩ ?_
      rw [e1, e2, e3, hfr2 106 m (by decide)]
      refine aE_if_eq (tgt := 155) dX12_findTrades_148 (by decide) (fun h148 => ?_) (fun h148 => ?_)
      · skip
        refine aE_iconst (v := 0) dX12_findTrades_155 rfl ?_
        refine aE_top (x' := if (alF (alG I0 nr ns c) ns (ns - (m + 1)) && alG I0 nr ns c m) then 1 else 0) (by
          first
            | (have hq : alF (alG I0 nr ns c) ns (ns - (m + 1)) = true := Classical.byContradiction (fun q => h132 (by rw [if_neg q]))
               rw [hq, hg, decide_eq_true h148]; rfl)
            | (have hq : alF (alG I0 nr ns c) ns (ns - (m + 1)) = false := Bool.eq_false_iff.mpr (fun q => by rw [if_pos q] at h132; exact absurd h132 (by decide))
               rw [hq]; rfl)
            | (rw [hg, decide_eq_false (fun q => q h148), Bool.and_false]; rfl)) ?_
        refine aE_istore dX12_findTrades_156 (by decide) rfl (aE_loc (ls' := [_, _, _, _, _, _, _, _]) rfl ?_)
        refine aE_iinc dX12_findTrades_158 rfl (a_dec _) (by decide) rfl (aE_loc (ls' := [_, _, _, _, _, _, _, _]) rfl ?_)
        refine aE_goto (tgt := 109) dX12_findTrades_161 (by decide) ?_
        exact ih2
      · skip
        refine aE_iconst (v := 1) dX12_findTrades_151 rfl ?_
        refine aE_goto (tgt := 156) dX12_findTrades_152 (by decide) ?_
        refine aE_top (x' := if (alF (alG I0 nr ns c) ns (ns - (m + 1)) && alG I0 nr ns c m) then 1 else 0) (by
          first
            | (have hq : alF (alG I0 nr ns c) ns (ns - (m + 1)) = true := Classical.byContradiction (fun q => h132 (by rw [if_neg q]))
               rw [hq, hg, decide_eq_true h148]; rfl)
            | (have hq : alF (alG I0 nr ns c) ns (ns - (m + 1)) = false := Bool.eq_false_iff.mpr (fun q => by rw [if_pos q] at h132; exact absurd h132 (by decide))
               rw [hq]; rfl)
            | (rw [hg, decide_eq_false (fun q => q h148), Bool.and_false]; rfl)) ?_
        refine aE_istore dX12_findTrades_156 (by decide) rfl (aE_loc (ls' := [_, _, _, _, _, _, _, _]) rfl ?_)
        refine aE_iinc dX12_findTrades_158 rfl (a_dec _) (by decide) rfl (aE_loc (ls' := [_, _, _, _, _, _, _, _]) rfl ?_)
        refine aE_goto (tgt := 109) dX12_findTrades_161 (by decide) ?_
        exact ih2
theorem l_t4 (c n : Nat) (hn : n < 11) (x1 l3 l4 l5 : Option Value) (I0 : Nat → Nat → Int32) (k0 : ∀ J l7, (∀ q i, q ≠ 143 → J q i = I0 q i) → (∀ i, ¬ (4 * n ≤ i ∧ i < 4 * n + 4) → J 143 i = I0 143 i) → (∀ s, s < 4 → J 143 (4 * n + s) = I0 132 s) → aE z mX12_findTrades (rK 6) Q 242 [some (.ref 101), x1, some (.int (nI c)), l3, l4, l5, some (.int (nI n)), l7] [] (nn pl) (MM J sp pl) 0 0) : ∀ (e s : Nat) (I : Nat → Nat → Int32), s + e = 4 → (∀ q i, q ≠ 143 → I q i = I0 q i) → (∀ i, ¬ (4 * n ≤ i ∧ i < 4 * n + 4) → I 143 i = I0 143 i) → (∀ j, j < s → I 143 (4 * n + j) = I0 132 j) → aE z mX12_findTrades (rK 6) Q 211 [some (.ref 101), x1, some (.int (nI c)), l3, l4, l5, some (.int (nI n)), some (.int (nI s))] [] (nn pl) (MM I sp pl) 0 0 := by
  intro e
  induction e with
  | zero =>
    intro s I hs h1 h2 h3
    have hs : s = 4 := by omega
    subst hs
    refine aE_iload dX12_findTrades_211 rfl ?_
    refine aE_iconst (v := 4) dX12_findTrades_213 rfl ?_
    refine aE_icmp_ge (tgt := 242) dX12_findTrades_214 (by decide) (fun h214 => ?_) (fun h214 => absurd (Int32.le_refl _) h214)
    exact k0 I _ h1 h2 h3
  | succ e ih =>
    intro s I hs h1 h2 h3
    refine aE_iload dX12_findTrades_211 rfl ?_
    refine aE_iconst (v := 4) dX12_findTrades_213 rfl ?_
    refine aE_icmp_ge (tgt := 242) dX12_findTrades_214 (by decide) (fun h214 => absurd h214 (nI_ge (b := 4) (by omega) (by omega))) (fun h214 => ?_)
    refine aE_aload_n dX12_findTrades_217 rfl rfl ?_
    refine aE_getf (v := .ref 143) dX12_findTrades_218 fw_X12_141 (lt_nn (by decide)) rfl rfl ?_
    refine aE_iconst (v := 4) dX12_findTrades_221 rfl ?_
    refine aE_iload dX12_findTrades_222 rfl ?_
    refine aE_imul dX12_findTrades_224 ?_
    refine aE_top (x' := nI (4 * n)) (by rw [show (4 : Int32) = nI 4 from rfl, pk_mul]) ?_
    refine aE_iload dX12_findTrades_225 rfl ?_
    refine aE_iadd dX12_findTrades_227 ?_
    refine aE_top (nI_add _ _) ?_
    refine aE_aload_n dX12_findTrades_228 rfl rfl ?_
    refine aE_getf (v := .ref 132) dX12_findTrades_229 fw_X12_108 (lt_nn (by decide)) rfl rfl ?_
    refine aE_iload dX12_findTrades_232 rfl ?_
    refine aE_ildM dX12_findTrades_234 (lt_nn (by decide)) rfl (by decide) rfl (by omega) ?_
    refine aE_top (h1 132 s (by decide)) ?_
    refine aE_istM dX12_findTrades_235 (lt_nn (by decide)) rfl (by decide) rfl (by omega) ?_
    refine aE_iinc dX12_findTrades_236 rfl (a_inc _) (by decide) rfl (aE_loc (ls' := [_, _, _, _, _, _, _, _]) rfl ?_)
    refine aE_goto (tgt := 211) dX12_findTrades_239 (by decide) ?_
    refine ih (s + 1) _ (by omega) (fun q i hq => (iu_ne (by omega)).trans (h1 q i hq)) (fun i hi => (iu_ne (by omega)).trans (h2 i hi)) (fun j hj => ?_)
    by_cases e : j = s
    · subst e; exact iu_eq
    · exact (iu_ne (by omega)).trans (h3 j (by omega))
theorem l_t3 (ns nr : Nat) (d : pD) (cs : Nat → pC) (al : Nat → Nat) (I0 : Nat → Nat → Int32) (hM : MS I0 ns d cs al) (hal : al = alM I0 d) (hr : I0 101 4 = nI nr) (h8 : nr ≤ 8) (k0 : ∀ J l3 l4 l5 l6 l7, TI I0 J d cs ns nr (7 ^ ns) → aE z mX12_findTrades (rK 6) Q 248 [some (.ref 101), some (.int (nI (7 ^ ns))), some (.int (nI (7 ^ ns))), l3, l4, l5, l6, l7] [] (nn pl) (MM J sp pl) 0 0) : ∀ (e c : Nat) (I : Nat → Nat → Int32) (l3 l4 l5 l6 l7 : Option Value), c + e = 7 ^ ns → TI I0 I d cs ns nr c → aE z mX12_findTrades (rK 6) Q 91 [some (.ref 101), some (.int (nI (7 ^ ns))), some (.int (nI c)), l3, l4, l5, l6, l7] [] (nn pl) (MM I sp pl) 0 0 := by
  have hs4 := hM.2.1
  have h7 := pow7 hs4
  have hd10 := hM.2.2.1.1.2.1
  intro e
  induction e with
  | zero =>
    intro c I l3 l4 l5 l6 l7 hc hT
    have hc : c = 7 ^ ns := by omega
    subst hc
    refine aE_iload_n dX12_findTrades_91 rfl rfl ?_
    refine aE_iload_n dX12_findTrades_92 rfl rfl ?_
    refine aE_icmp_ge (tgt := 248) dX12_findTrades_93 (by decide) (fun h93 => ?_) (fun h93 => absurd (Int32.le_refl _) h93)
    exact k0 I _ _ _ _ _ hT
  | succ e ih =>
    intro c I l3 l4 l5 l6 l7 hc hT
    have next : ∀ (J : Nat → Nat → Int32) (l3 l4 l5 l6 l7 : Option Value), TI I0 J d cs ns nr (c + 1) → aE z mX12_findTrades (rK 6) Q 242 [some (.ref 101), some (.int (nI (7 ^ ns))), some (.int (nI c)), l3, l4, l5, l6, l7] [] (nn pl) (MM J sp pl) 0 0 := by
      intro J l3 l4 l5 l6 l7 hJ
      refine aE_iinc dX12_findTrades_242 rfl (a_inc _) (by decide) rfl (aE_loc (ls' := [_, _, _, _, _, _, _, _]) rfl ?_)
      refine aE_goto (tgt := 91) dX12_findTrades_245 (by decide) ?_
      exact ih (c + 1) J _ _ _ _ _ (by omega) hJ
    have stay : ∀ (J : Nat → Nat → Int32), ¬ (alW I0 nr ns c && decide (coM I0 d ns c < (tsM I0 d cs ns nr c).1 (nbM I0 d cs ns c))) = true → FrX I0 J → (∀ i, J 139 i = I 139 i) → (∀ i, J 143 i = I 143 i) → TI I0 J d cs ns nr (c + 1) := by
      intro J hno h1 h2 h3
      have e : tsM I0 d cs ns nr (c + 1) = tsM I0 d cs ns nr c := by unfold tsM; rw [tS_s]; exact if_neg hno
      unfold TI
      rw [e]
      exact ⟨h1, fun n hn => (h2 n).trans (hT.2.1 n hn), fun n hn c' hc' s hs => (h3 _).trans (hT.2.2 n hn c' hc' s hs)⟩
    have hns := hM.1
    refine aE_iload_n dX12_findTrades_91 rfl rfl ?_
    refine aE_iload_n dX12_findTrades_92 rfl rfl ?_
    refine aE_icmp_ge (tgt := 248) dX12_findTrades_93 (by decide) (fun h93 => absurd h93 (nI_ge (by omega) (by omega))) (fun h93 => ?_)
    refine aE_iload_n dX12_findTrades_96 rfl rfl ?_
    refine aE_istore_n dX12_findTrades_97 rfl (by decide) rfl (aE_loc (ls' := [_, _, _, _, _, _, _, _]) rfl ?_)
    refine aE_iconst (v := 1) dX12_findTrades_98 rfl ?_
    refine aE_istore dX12_findTrades_99 (by decide) rfl (aE_loc (ls' := [_, _, _, _, _, _, _, _]) rfl ?_)
    refine aE_aload_n dX12_findTrades_101 rfl rfl ?_
    refine aE_geti dX12_findTrades_102 fw_X12_163 (lt_nn (by decide)) rfl (by decide) rfl ?_
    refine aE_top (x' := nI ns) ((hT.1 101 2 (by omega) (by omega) (by omega) (by omega)).trans hns) ?_
    refine aE_iconst (v := 1) dX12_findTrades_105 rfl ?_
    refine aE_isub dX12_findTrades_106 ?_
    refine aE_istore dX12_findTrades_107 (by decide) rfl (aE_loc (ls' := [_, _, _, _, _, _, _, _]) rfl ?_)
    have hpo : alF (alG I nr ns c) ns (ns - ns) = true := by rw [Nat.sub_self]; rfl
    have e106 : ∀ i, I 106 i = I0 106 i := fun i => hT.1 106 i (by omega) (by omega) (by omega) (by omega)
    have hAW : alW I nr ns c = alW I0 nr ns c := by
      have e0 : alG I nr ns c = alG I0 nr ns c := by
        unfold alG
        rw [show I 106 = I0 106 from funext e106, show I 114 = I0 114 from funext fun i => hT.1 114 i (by omega) (by omega) (by omega) (by omega), show I 115 = I0 115 from funext fun i => hT.1 115 i (by omega) (by omega) (by omega) (by omega), show I 116 = I0 116 from funext fun i => hT.1 116 i (by omega) (by omega) (by omega) (by omega)]
      unfold alW; rw [e0]
    refine aE_loc (ls' := [some (.ref 101), some (.int (nI (7 ^ ns))), some (.int (nI c)), some (.int (nI (c / 7 ^ (ns - ns)))), some (.int (if alF (alG I nr ns c) ns (ns - ns) then 1 else 0)), some (.int (nI ns - 1)), _, _]) (by rw [hpo, Nat.sub_self, Nat.pow_zero, Nat.div_one]; rfl) ?_
    refine l_td ns nr c I hs4 (by omega) ((hT.1 101 4 (by omega) (by omega) (by omega) (by omega)).trans hr) h8 _ _ _ (fun I2 l3 l5 hI2 htr => ?_) ns I _ (Nat.le_refl _) rfl (fun _ _ _ => rfl) (fun s h1 h2 => absurd h1 (by omega))
    rw [hAW]
    have hfr2 : FrX I0 I2 := fun q i a b c g => (hI2 q i a).trans (hT.1 q i a b c g)
    have hM2 : MS I2 ns d cs al := MS_fr hM (fun q i h1 _ => hfr2 q i (by omega) (by omega) (by omega) (by omega))
    refine aE_iload dX12_findTrades_164 rfl ?_
    refine aE_if_ne (tgt := 172) dX12_findTrades_166 (by decide) (fun h166 => ?_) (fun h166 => ?_)
    · skip
      have haw : alW I0 nr ns c = true := Classical.byContradiction (fun q => h166 (by rw [if_neg q]))
      refine aE_aload_n dX12_findTrades_172 rfl rfl ?_
      refine aE_cVi dX12_findTrades_173 lk_X12_295 mv_X12_costOf (m_costOf ns d.1 hM2.1 hs4 hM2.2.2.1.1.1 hd10) rfl (lt_nn (by decide)) rfl rfl ⟨by decide, by decide⟩ (Nat.le_of_ble_eq_true rfl) ⟨rfl, rfl⟩ ⟨by decide, by decide⟩ ?_
      rw [show cSum (fun s => cOne (sumB (setOf (I2 110) (nI s) d.1) (I2 112) d.1) (I2 132 s) (I2 109 s)) ns = coM I0 d ns c by
        unfold coM trP
        rw [show I2 110 = I0 110 from funext fun i => hfr2 110 i (by omega) (by omega) (by omega) (by omega), show I2 112 = I0 112 from funext fun i => hfr2 112 i (by omega) (by omega) (by omega) (by omega), show I2 109 = I0 109 from funext fun i => hfr2 109 i (by omega) (by omega) (by omega) (by omega)]
        exact cSum_congr ns (fun s hs => by rw [htr s hs])]
      refine aE_istore dX12_findTrades_176 (by decide) rfl (aE_loc (ls' := [_, _, _, _, _, _, _, _]) rfl ?_)
      refine aE_aload_n dX12_findTrades_178 rfl rfl ?_
      refine aE_cVq dX12_findTrades_179 lk_X12_309 mv_X12_fewest (m_fewest (Q := (fun r n' m' => n' = nn pl ∧ ∃ J, m' = MM J sp pl ∧ r = some (.int (nI (nbM I0 d cs ns c))) ∧ FrW I2 J)) ns d cs al (fun s => I2 132 s) (fun _ _ => rfl) (I0 101 9) (hfr2 101 9 (by omega) (by omega) (by omega) (by omega)) hM2 (fun J h1 => ⟨rfl, J, rfl, by
        rw [show (RR d cs al ns).length - mxF (mayF d cs (fun s => I2 132 s) (I0 101 9) (RR d cs al ns)) (RR d cs al ns).length (RR d cs al ns).length 0 = nbM I0 d cs ns c by
          subst hal
          unfold nbM
          rw [mxF_congr (mayF_tr (fun s S hm => (RR_mem hM.2.2.2.2.2.1 ns s S hm).1) (fun s hs => htr s hs)) _ _ (Nat.le_refl _)]], h1⟩)) rfl (lt_nn (by decide)) rfl rfl ⟨by decide, by decide⟩ (Nat.le_of_ble_eq_true rfl) ⟨rfl, rfl⟩ ⟨by decide, by decide⟩ ?_
      rintro r n' m' ⟨rfl, J, rfl, rfl, hJ⟩
      have hfr3 : FrX I0 J := fun q i a b c g => (hJ q i b (by omega)).trans (hfr2 q i a b c g)
      have hnb : nbM I0 d cs ns c < 11 := by
        have := hM.2.2.2.2.2.2.1
        unfold nbM
        subst hal
        omega
      have hJ9 : ∀ i, J 139 i = I 139 i := fun i => (hJ 139 i (by omega) (by omega)).trans (hI2 139 i (by omega))
      have hJ3 : ∀ i, J 143 i = I 143 i := fun i => (hJ 143 i (by omega) (by omega)).trans (hI2 143 i (by omega))
      refine aE_istore dX12_findTrades_182 (by decide) rfl (aE_loc (ls' := [_, _, _, _, _, _, _, _]) rfl ?_)
      refine aE_iload dX12_findTrades_184 rfl ?_
      refine aE_aload_n dX12_findTrades_186 rfl rfl ?_
      refine aE_getf (v := .ref 139) dX12_findTrades_187 fw_X12_129 (lt_nn (by decide)) rfl rfl ?_
      refine aE_iload dX12_findTrades_190 rfl ?_
      refine aE_ildM dX12_findTrades_192 (lt_nn (by decide)) rfl (by decide) rfl hnb ?_
      refine aE_top ((hJ9 _).trans (hT.2.1 _ hnb)) ?_
      refine aE_icmp_lt (tgt := 199) dX12_findTrades_193 (by decide) (fun h193 => ?_) (fun h193 => ?_)
      · skip
        refine aE_aload_n dX12_findTrades_199 rfl rfl ?_
        refine aE_getf (v := .ref 139) dX12_findTrades_200 fw_X12_129 (lt_nn (by decide)) rfl rfl ?_
        refine aE_iload dX12_findTrades_203 rfl ?_
        refine aE_iload dX12_findTrades_205 rfl ?_
        refine aE_istM dX12_findTrades_207 (lt_nn (by decide)) rfl (by decide) rfl hnb ?_
        refine aE_iconst (v := 0) dX12_findTrades_208 rfl ?_
        refine aE_istore dX12_findTrades_209 (by decide) rfl (aE_loc (ls' := [_, _, _, _, _, _, _, _]) rfl ?_)
        have hyes : (alW I0 nr ns c && decide (coM I0 d ns c < (tsM I0 d cs ns nr c).1 (nbM I0 d cs ns c))) = true := by
          rw [haw, decide_eq_true h193]; rfl
        have ets : tsM I0 d cs ns nr (c + 1) = (fup (tsM I0 d cs ns nr c).1 (nbM I0 d cs ns c) (coM I0 d ns c), fup (tsM I0 d cs ns nr c).2 (nbM I0 d cs ns c) (some c)) := by
          unfold tsM; rw [tS_s]; exact if_pos hyes
        refine l_t4 c (nbM I0 d cs ns c) hnb _ _ _ _ (iu J 139 (nbM I0 d cs ns c) (coM I0 d ns c)) (fun K l7 k1 k2 k3 => ?_) 4 0 _ (by omega) (fun _ _ _ => rfl) (fun _ _ => rfl) (fun j hj => absurd hj (by omega))
        refine next K _ _ _ _ _ ?_
        unfold TI
        rw [ets]
        refine ⟨fun q i a b c g => (k1 q i g).trans ((iu_ne (by omega)).trans (hfr3 q i a b c g)), fun n hn => ?_, fun n hn c' hc' s hs => ?_⟩
        · show K 139 n = fup (tsM I0 d cs ns nr c).1 (nbM I0 d cs ns c) (coM I0 d ns c) n
          rw [k1 139 n (by decide)]
          by_cases en : n = nbM I0 d cs ns c
          · subst en; rw [iu_eq, fup_eq]
          · rw [iu_ne (Or.inr en), fup_ne en, hJ9 n]; exact hT.2.1 n hn
        · have hc' : fup (tsM I0 d cs ns nr c).2 (nbM I0 d cs ns c) (some c) n = some c' := hc'
          by_cases en : n = nbM I0 d cs ns c
          · subst en
            rw [fup_eq] at hc'
            cases hc'
            rw [k3 s (by omega), iu_ne (by omega), hJ 132 s (by omega) (by omega)]
            exact htr s hs
          · rw [fup_ne en] at hc'
            rw [k2 _ (by omega), iu_ne (by omega), hJ3]
            exact hT.2.2 n hn c' hc' s hs
      · skip
        refine aE_goto (tgt := 242) dX12_findTrades_196 (by decide) ?_
        first
          | exact next _ _ _ _ _ _ (stay I2 (fun q => by rw [Bool.and_eq_true] at q; exact haw q.1) hfr2 (fun i => hI2 139 i (by decide)) (fun i => hI2 143 i (by decide)))
          | exact next _ _ _ _ _ _ (stay J (fun q => by rw [Bool.and_eq_true, decide_eq_true_eq] at q; exact h193 q.2) hfr3 hJ9 hJ3)
    · skip
      have haw : ¬ alW I0 nr ns c = true := fun q => by rw [if_pos q] at h166; exact absurd (show (1 : Int32) = 0 by first | exact h166 | exact Classical.not_not.mp h166) (by decide)
      refine aE_goto (tgt := 242) dX12_findTrades_169 (by decide) ?_
      first
        | exact next _ _ _ _ _ _ (stay I2 (fun q => by rw [Bool.and_eq_true] at q; exact haw q.1) hfr2 (fun i => hI2 139 i (by decide)) (fun i => hI2 143 i (by decide)))
        | exact next _ _ _ _ _ _ (stay J (fun q => by rw [Bool.and_eq_true, decide_eq_true_eq] at q; exact h193 q.2) hfr3 hJ9 hJ3)
end MTR
