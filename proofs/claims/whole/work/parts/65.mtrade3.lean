/-- the bells of trade ii are taken -/
def tkI (J : Nat → Nat → Int32) (ii k : Nat) : Nat → Nat → Int32 := fun q j => if q = 108 ∧ j < k then J 142 (4 * ii + j) else J q j
theorem tkI_0 {J : Nat → Nat → Int32} {ii : Nat} : tkI J ii 0 = J := by
  funext q j; unfold tkI; rw [if_neg (by omega)]
theorem tkI_o {J : Nat → Nat → Int32} {ii k q j : Nat} (h : q ≠ 108) : tkI J ii k q j = J q j := by
  unfold tkI; rw [if_neg (fun w => h w.1)]
theorem tkI_s {J : Nat → Nat → Int32} {ii k : Nat} : iu (tkI J ii k) 108 k (J 142 (4 * ii + k)) = tkI J ii (k + 1) := by
  funext q i
  unfold iu tkI
  by_cases h : q = 108 ∧ i = k
  · rw [if_pos h, if_pos (by omega), h.2]
  · rw [if_neg h]
    by_cases h2 : q = 108 ∧ i < k
    · rw [if_pos h2, if_pos (show q = 108 ∧ i < k + 1 by omega)]
    · rw [if_neg h2, if_neg (by omega)]
theorem lsM_len (I : Nat → Nat → Int32) (d : pD) (cs : Nat → pC) (ns nr k : Nat) : (lsM I d cs ns nr k).2.length ≤ k := lsT_len _ _ k
/-- rows of trades: l the buses, ts costs and codes -/
def TRL (J : Nat → Nat → Int32) (l : List Nat) (ts : tU) (ns : Nat) : Prop := J 101 56 = nI l.length ∧ ∀ (i n : Nat), l[i]? = some n → J 140 i = nI n ∧ J 141 i = ts.1 n ∧ ∀ c, ts.2 n = some c → ∀ s, s < ns → J 142 (4 * i + s) = nI (dg ns c s)
theorem TRL_M {I J : Nat → Nat → Int32} {d : pD} {cs : Nat → pC} {ns nr : Nat} {l : List Nat} {ts : tU} (hl : (lsM I d cs ns nr 11).2 = l) (hts : tsM I d cs ns nr (7 ^ ns) = ts) : TRM I J d cs ns nr 11 ↔ TRL J l ts ns := by
  unfold TRM TRL
  rw [hl, hts]
section MTR3
variable {z : Nat × (Nat → Int32)} {n : Nat} {mem : aM} {I : Nat → Nat → Int32} {sp : Nat → Nat} {pl : Bool} {Q : Option Value → Nat → aM → Prop} {R : Room}
theorem m_ft2 (ns nstr nc : Nat) (d : pD) (cs : Nat → pC) (fr to : Nat → Nat) (hW : MW I ns nstr nc d cs fr to) (hst : ¬ I 101 29 = 0 → PlM I d cs (alM I d) ns) (nr : Nat) (hr : I 101 4 = nI nr) (hr8 : nr ≤ 8) (l : List Nat) (ts : tU) (hl : (lsM I d cs ns nr 11).2 = l) (hts : tsM I d cs ns nr (7 ^ ns) = ts) (hstT : ¬ I 101 30 = 0 → TRL I l ts ns) (hN : ∀ J, FrT I J → MS J ns d cs (alM I d) → (¬ J 101 30 = 0 → TRL J l ts ns) → (allH d cs (alM I d) ns = false ∨ l = []) → qi Q 0 J sp pl) (hO : ∀ J, FrT I J → MS J ns d cs (alM I d) → (¬ J 101 30 = 0 → TRL J l ts ns) → allH d cs (alM I d) ns = true → TRL J l ts ns → l.length ≤ 11 → l ≠ [] → qi Q 1 J sp pl) : aRuns mX12_findTrades (rK 6) [.ref 101] (nn pl) (MM I sp pl) Q := by
  have hlen : l.length ≤ 11 := by rw [← hl]; exact lsM_len _ _ _ _ _ 11
  refine m_findTrades ns nstr nc d cs fr to hW hst nr hr hr8 (fun q => (TRL_M hl hts).mpr (hstT q)) (fun J h1 h2 h3 h4 => hN J h1 h2 (fun q => (TRL_M hl hts).mp (h3 q)) (Or.inl h4)) (fun J h1 h2 h3 h4 h5 => ?_)
  rw [hl]
  have h6 := (TRL_M hl hts).mp h4
  by_cases q : l.length = 0
  · rw [if_pos q]; exact hN J h1 h2 (fun _ => h6) (Or.inr (List.length_eq_zero_iff.mp q))
  · rw [if_neg q]; exact hO J h1 h2 (fun _ => h6) h5 h6 hlen (fun w => q (by rw [w]; rfl))
set_option maxRecDepth 20000 in
theorem m_trades  (ns nstr nc : Nat) (d : pD) (cs : Nat → pC) (fr to : Nat → Nat) (hW : MW I ns nstr nc d cs fr to) (hst : ¬ I 101 29 = 0 → PlM I d cs (alM I d) ns) (nr : Nat) (hr : I 101 4 = nI nr) (hr8 : nr ≤ 8) (l : List Nat) (ts : tU) (hl : (lsM I d cs ns nr 11).2 = l) (hts : tsM I d cs ns nr (7 ^ ns) = ts) (hstT : ¬ I 101 30 = 0 → TRL I l ts ns) (hN : ∀ J, FrT I J → MS J ns d cs (alM I d) → (¬ J 101 30 = 0 → TRL J l ts ns) → (allH d cs (alM I d) ns = false ∨ l = []) → qi Q (-1000004) (fndM J) sp pl) (hO : ∀ J, FrT I J → MS J ns d cs (alM I d) → (¬ J 101 30 = 0 → TRL J l ts ns) → allH d cs (alM I d) ns = true → l ≠ [] → qi Q (nI l.length) J sp pl) : aRuns mX12_trades (rK 7) [.ref 101] (nn pl) (MM I sp pl) Q := by
  refine aRuns_of pn_X12_trades (Nat.le_of_ble_eq_true rfl) (fun z => aE_loc (ls' := [_]) rfl ?_)
  refine aE_aload_n dX12_trades_0 rfl rfl ?_
  refine aE_cVq dX12_trades_1 lk_X12_312 mv_X12_findTrades (m_ft2 (Q := (fun (r : Option Value) (n' : Nat) (m' : aM) => n' = nn pl ∧ ∃ J v, m' = MM J sp pl ∧ r = some (.int v) ∧ FrT I J ∧ MS J ns d cs (alM I d) ∧ (¬ J 101 30 = 0 → TRL J l ts ns) ∧ ((v = 0 ∧ (allH d cs (alM I d) ns = false ∨ l = [])) ∨ (v = 1 ∧ allH d cs (alM I d) ns = true ∧ TRL J l ts ns ∧ l.length ≤ 11 ∧ l ≠ [])))) ns nstr nc d cs fr to hW hst nr hr hr8 l ts hl hts hstT (fun J h1 h2 h3 h4 => ⟨rfl, J, 0, rfl, rfl, h1, h2, h3, Or.inl ⟨rfl, h4⟩⟩) (fun J h1 h2 h3 h4 h5 h6 h7 => ⟨rfl, J, 1, rfl, rfl, h1, h2, h3, Or.inr ⟨rfl, h4, h5, h6, h7⟩⟩)) rfl (lt_nn (by decide)) rfl rfl ⟨by decide, by decide⟩ (Nat.le_of_ble_eq_true rfl) ⟨rfl, rfl⟩ ⟨by decide, by decide⟩ ?_
  rintro r n' m' ⟨rfl, J, v0, rfl, rfl, hJ, hM, hTJ, hv⟩
  refine aE_if_eq (tgt := 14) dX12_trades_4 (by decide) (fun h4 => ?_) (fun h4 => ?_)
  · skip
    have hv0 := hv.resolve_right (fun q => by rw [q.1] at h4; exact absurd h4 (by decide))
    refine aE_aload_n dX12_trades_14 rfl rfl ?_
    refine aE_ldc dX12_trades_15 ct_X12_197 ?_
    refine aE_cVi dX12_trades_17 lk_X12_177 mv_X12_finds (c_finds _) rfl (lt_nn (by decide)) rfl rfl ⟨by decide, by decide⟩ (Nat.le_of_ble_eq_true rfl) ⟨rfl, rfl⟩ ⟨by decide, by decide⟩ ?_
    refine aE_iret dX12_trades_20 rfl ⟨by decide, by decide⟩ ?_
    first | exact hN J hJ hM hTJ hv0.2 | exact hO J hJ hM hTJ hv1.2.1 hv1.2.2.2.2
  · skip
    have hv1 := hv.resolve_left (fun q => h4 q.1)
    refine aE_aload_n dX12_trades_7 rfl rfl ?_
    refine aE_geti dX12_trades_8 fw_X12_305 (lt_nn (by decide)) rfl (by decide) rfl ?_
    refine aE_top hv1.2.2.1.1 ?_
    refine aE_goto (tgt := 20) dX12_trades_11 (by decide) ?_
    refine aE_iret dX12_trades_20 rfl ⟨by decide, by decide⟩ ?_
    first | exact hN J hJ hM hTJ hv0.2 | exact hO J hJ hM hTJ hv1.2.1 hv1.2.2.2.2

set_option maxRecDepth 20000 in
theorem m_trade (i w : Int32) (ns nstr nc : Nat) (d : pD) (cs : Nat → pC) (fr to : Nat → Nat) (hW : MW I ns nstr nc d cs fr to) (hst : ¬ I 101 29 = 0 → PlM I d cs (alM I d) ns) (nr : Nat) (hr : I 101 4 = nI nr) (hr8 : nr ≤ 8) (l : List Nat) (ts : tU) (hl : (lsM I d cs ns nr 11).2 = l) (hts : tsM I d cs ns nr (7 ^ ns) = ts) (hstT : ¬ I 101 30 = 0 → TRL I l ts ns) (hB : (i < 0 ∨ w < 0 ∨ 1 + I 101 2 < w) → qi Q (-1000001) (fndM I) sp pl) (hN : ∀ J, ¬ i < 0 → ¬ w < 0 → w ≤ 1 + I 101 2 → FrT I J → MS J ns d cs (alM I d) → (¬ J 101 30 = 0 → TRL J l ts ns) → ((allH d cs (alM I d) ns = false ∨ l = []) ∨ nI l.length ≤ i) → qi Q (-1000004) (fndM J) sp pl) (h0 : ∀ J ii n, i = nI ii → w = 0 → FrT I J → MS J ns d cs (alM I d) → (¬ J 101 30 = 0 → TRL J l ts ns) → l[ii]? = some n → allH d cs (alM I d) ns = true → qi Q (nI n) J sp pl) (h1c : ∀ J ii n, i = nI ii → w = 1 → FrT I J → MS J ns d cs (alM I d) → (¬ J 101 30 = 0 → TRL J l ts ns) → l[ii]? = some n → allH d cs (alM I d) ns = true → qi Q (ts.1 n) J sp pl) (h2 : ∀ J ii n s, i = nI ii → w = nI (s + 2) → s < ns → FrT I J → MS J ns d cs (alM I d) → (¬ J 101 30 = 0 → TRL J l ts ns) → l[ii]? = some n → allH d cs (alM I d) ns = true → ∀ v, (∀ c, ts.2 n = some c → v = nI (dg ns c s)) → qi Q v J sp pl) : aRuns mX12_trade (rK 7) [.ref 101, .int i, .int w] (nn pl) (MM I sp pl) Q := by
  refine aRuns_of pn_X12_trade (Nat.le_of_ble_eq_true rfl) (fun z => aE_loc (ls' := [_, _, _]) rfl ?_)
  refine aE_iload_n dX12_trade_0 rfl rfl ?_
  refine aE_if_lt (tgt := 18) dX12_trade_1 (by decide) (fun h1 => ?_) (fun h1 => ?_)
  · skip
    refine aE_aload_n dX12_trade_18 rfl rfl ?_
    refine aE_ldc dX12_trade_19 ct_X12_185 ?_
    refine aE_cVi dX12_trade_21 lk_X12_177 mv_X12_finds (c_finds _) rfl (lt_nn (by decide)) rfl rfl ⟨by decide, by decide⟩ (Nat.le_of_ble_eq_true rfl) ⟨rfl, rfl⟩ ⟨by decide, by decide⟩ ?_
    refine aE_iret dX12_trade_24 rfl ⟨by decide, by decide⟩ ?_
    refine hB ?_
    first | exact Or.inl h1 | exact Or.inr (Or.inl h5) | exact Or.inr (Or.inr (Int32.not_le.mp h15))
  · skip
    refine aE_iload_n dX12_trade_4 rfl rfl ?_
    refine aE_if_lt (tgt := 18) dX12_trade_5 (by decide) (fun h5 => ?_) (fun h5 => ?_)
    · skip
      refine aE_aload_n dX12_trade_18 rfl rfl ?_
      refine aE_ldc dX12_trade_19 ct_X12_185 ?_
      refine aE_cVi dX12_trade_21 lk_X12_177 mv_X12_finds (c_finds _) rfl (lt_nn (by decide)) rfl rfl ⟨by decide, by decide⟩ (Nat.le_of_ble_eq_true rfl) ⟨rfl, rfl⟩ ⟨by decide, by decide⟩ ?_
      refine aE_iret dX12_trade_24 rfl ⟨by decide, by decide⟩ ?_
      refine hB ?_
      first | exact Or.inl h1 | exact Or.inr (Or.inl h5) | exact Or.inr (Or.inr (Int32.not_le.mp h15))
    · skip
      refine aE_iload_n dX12_trade_8 rfl rfl ?_
      refine aE_iconst (v := 1) dX12_trade_9 rfl ?_
      refine aE_aload_n dX12_trade_10 rfl rfl ?_
      refine aE_geti dX12_trade_11 fw_X12_163 (lt_nn (by decide)) rfl (by decide) rfl ?_
      refine aE_iadd dX12_trade_14 ?_
      refine aE_icmp_le (tgt := 25) dX12_trade_15 (by decide) (fun h15 => ?_) (fun h15 => ?_)
      · skip
        have hns := hW.1
        have hs4 := hW.2.1
        refine aE_aload_n dX12_trade_25 rfl rfl ?_
        refine aE_cVq dX12_trade_26 lk_X12_312 mv_X12_findTrades (m_ft2 (Q := (fun (r : Option Value) (n' : Nat) (m' : aM) => n' = nn pl ∧ ∃ J v, m' = MM J sp pl ∧ r = some (.int v) ∧ FrT I J ∧ MS J ns d cs (alM I d) ∧ (¬ J 101 30 = 0 → TRL J l ts ns) ∧ ((v = 0 ∧ (allH d cs (alM I d) ns = false ∨ l = [])) ∨ (v = 1 ∧ allH d cs (alM I d) ns = true ∧ TRL J l ts ns ∧ l.length ≤ 11 ∧ l ≠ [])))) ns nstr nc d cs fr to hW hst nr hr hr8 l ts hl hts hstT (fun J h1 h2 h3 h4 => ⟨rfl, J, 0, rfl, rfl, h1, h2, h3, Or.inl ⟨rfl, h4⟩⟩) (fun J h1 h2 h3 h4 h5 h6 h7 => ⟨rfl, J, 1, rfl, rfl, h1, h2, h3, Or.inr ⟨rfl, h4, h5, h6, h7⟩⟩)) rfl (lt_nn (by decide)) rfl rfl ⟨by decide, by decide⟩ (Nat.le_of_ble_eq_true rfl) ⟨rfl, rfl⟩ ⟨by decide, by decide⟩ ?_
        rintro r n' m' ⟨rfl, J, v0, rfl, rfl, hJ, hM, hTJ, hv⟩
        refine aE_if_eq (tgt := 40) dX12_trade_29 (by decide) (fun h29 => ?_) (fun h29 => ?_)
        · skip
          have hv0 := hv.resolve_right (fun q => by rw [q.1] at h29; exact absurd h29 (by decide))
          refine aE_aload_n dX12_trade_40 rfl rfl ?_
          refine aE_ldc dX12_trade_41 ct_X12_197 ?_
          refine aE_cVi dX12_trade_43 lk_X12_177 mv_X12_finds (c_finds _) rfl (lt_nn (by decide)) rfl rfl ⟨by decide, by decide⟩ (Nat.le_of_ble_eq_true rfl) ⟨rfl, rfl⟩ ⟨by decide, by decide⟩ ?_
          refine aE_iret dX12_trade_46 rfl ⟨by decide, by decide⟩ ?_
          first | exact hN J h1 h5 h15 hJ hM hTJ (Or.inl hv0.2) | exact hN J h1 h5 h15 hJ hM hTJ (Or.inr (by rw [← hv1.2.2.1.1]; exact Int32.not_lt.mp h37))
        · skip
          have hv1 := hv.resolve_left (fun q => h29 q.1)
          refine aE_iload_n dX12_trade_32 rfl rfl ?_
          refine aE_aload_n dX12_trade_33 rfl rfl ?_
          refine aE_geti dX12_trade_34 fw_X12_305 (lt_nn (by decide)) rfl (by decide) rfl ?_
          refine aE_icmp_lt (tgt := 47) dX12_trade_37 (by decide) (fun h37 => ?_) (fun h37 => ?_)
          · skip
            obtain ⟨ii, hi31, rfl⟩ := nI_of h1
            have hil : ii < l.length := (nI_ltI hi31 (by have := hv1.2.2.2.1; omega)).mp (hv1.2.2.1.1 ▸ h37)
            have hi11 : ii < 11 := by have := hv1.2.2.2.1; omega
            obtain ⟨n, hn⟩ : ∃ n, l[ii]? = some n := ⟨_, List.getElem?_eq_getElem hil⟩
            obtain ⟨t1, t2, t3⟩ := hv1.2.2.1.2 ii n hn
            refine aE_iload_n dX12_trade_47 rfl rfl ?_
            refine aE_if_ne (tgt := 60) dX12_trade_48 (by decide) (fun h48 => ?_) (fun h48 => ?_)
            · skip
              refine aE_iload_n dX12_trade_60 rfl rfl ?_
              refine aE_iconst (v := 1) dX12_trade_61 rfl ?_
              refine aE_icmp_ne (tgt := 74) dX12_trade_62 (by decide) (fun h62 => ?_) (fun h62 => ?_)
              · skip
                obtain ⟨ww, hw31, rfl⟩ := nI_of h5
                have hw2 : ww ≤ 1 + ns := (nI_leI hw31 (by omega)).mp (by rw [hns, show (1 : Int32) = nI 1 from rfl, nI_add] at h15; exact h15)
                obtain ⟨s, rfl⟩ : ∃ s, ww = s + 2 := ⟨ww - 2, by
                  have a : ww ≠ 0 := fun q => h48 (by rw [q]; rfl)
                  have b : ww ≠ 1 := fun q => h62 (by rw [q]; rfl)
                  omega⟩
                refine aE_aload_n dX12_trade_74 rfl rfl ?_
                refine aE_getf (v := .ref 142) dX12_trade_75 fw_X12_138 (lt_nn (by decide)) rfl rfl ?_
                refine aE_iconst (v := 4) dX12_trade_78 rfl ?_
                refine aE_iload_n dX12_trade_79 rfl rfl ?_
                refine aE_imul dX12_trade_80 ?_
                refine aE_top (x' := nI (4 * ii)) (by rw [show (4 : Int32) = nI 4 from rfl, pk_mul]) ?_
                refine aE_iload_n dX12_trade_81 rfl rfl ?_
                refine aE_iadd dX12_trade_82 ?_
                refine aE_top (x' := nI ((4 * ii + s) + 2)) ((nI_add _ _).trans (congrArg nI (by omega))) ?_
                refine aE_iconst (v := 2) dX12_trade_83 rfl ?_
                refine aE_isub dX12_trade_84 ?_
                refine aE_top (nI_m2 _) ?_
                refine aE_ildM dX12_trade_85 (lt_nn (by decide)) rfl (by decide) rfl (by omega) ?_
                refine aE_iret dX12_trade_86 rfl ⟨by decide, by decide⟩ ?_
                first | exact h0 J ii n rfl (by first | exact h48 | exact Classical.not_not.mp h48) hJ hM hTJ hn hv1.2.1 | exact h1c J ii n rfl (by first | exact h62 | exact Classical.not_not.mp h62) hJ hM hTJ hn hv1.2.1 | exact h2 J ii n s rfl rfl (by omega) hJ hM hTJ hn hv1.2.1 _ (fun c hc => t3 c hc s (by omega))
              · skip
                refine aE_aload_n dX12_trade_65 rfl rfl ?_
                refine aE_getf (v := .ref 141) dX12_trade_66 fw_X12_135 (lt_nn (by decide)) rfl rfl ?_
                refine aE_iload_n dX12_trade_69 rfl rfl ?_
                refine aE_ildM dX12_trade_70 (lt_nn (by decide)) rfl (by decide) rfl hi11 ?_
                refine aE_top t2 ?_
                refine aE_goto (tgt := 86) dX12_trade_71 (by decide) ?_
                refine aE_iret dX12_trade_86 rfl ⟨by decide, by decide⟩ ?_
                first | exact h0 J ii n rfl (by first | exact h48 | exact Classical.not_not.mp h48) hJ hM hTJ hn hv1.2.1 | exact h1c J ii n rfl (by first | exact h62 | exact Classical.not_not.mp h62) hJ hM hTJ hn hv1.2.1 | exact h2 J ii n s rfl rfl (by omega) hJ hM hTJ hn hv1.2.1 _ (fun c hc => t3 c hc s (by omega))
            · skip
              refine aE_aload_n dX12_trade_51 rfl rfl ?_
              refine aE_getf (v := .ref 140) dX12_trade_52 fw_X12_132 (lt_nn (by decide)) rfl rfl ?_
              refine aE_iload_n dX12_trade_55 rfl rfl ?_
              refine aE_ildM dX12_trade_56 (lt_nn (by decide)) rfl (by decide) rfl hi11 ?_
              refine aE_top t1 ?_
              refine aE_goto (tgt := 86) dX12_trade_57 (by decide) ?_
              refine aE_iret dX12_trade_86 rfl ⟨by decide, by decide⟩ ?_
              first | exact h0 J ii n rfl (by first | exact h48 | exact Classical.not_not.mp h48) hJ hM hTJ hn hv1.2.1 | exact h1c J ii n rfl (by first | exact h62 | exact Classical.not_not.mp h62) hJ hM hTJ hn hv1.2.1 | exact h2 J ii n s rfl rfl (by omega) hJ hM hTJ hn hv1.2.1 _ (fun c hc => t3 c hc s (by omega))
          · skip
            refine aE_aload_n dX12_trade_40 rfl rfl ?_
            refine aE_ldc dX12_trade_41 ct_X12_197 ?_
            refine aE_cVi dX12_trade_43 lk_X12_177 mv_X12_finds (c_finds _) rfl (lt_nn (by decide)) rfl rfl ⟨by decide, by decide⟩ (Nat.le_of_ble_eq_true rfl) ⟨rfl, rfl⟩ ⟨by decide, by decide⟩ ?_
            refine aE_iret dX12_trade_46 rfl ⟨by decide, by decide⟩ ?_
            first | exact hN J h1 h5 h15 hJ hM hTJ (Or.inl hv0.2) | exact hN J h1 h5 h15 hJ hM hTJ (Or.inr (by rw [← hv1.2.2.1.1]; exact Int32.not_lt.mp h37))
      · skip
        refine aE_aload_n dX12_trade_18 rfl rfl ?_
        refine aE_ldc dX12_trade_19 ct_X12_185 ?_
        refine aE_cVi dX12_trade_21 lk_X12_177 mv_X12_finds (c_finds _) rfl (lt_nn (by decide)) rfl rfl ⟨by decide, by decide⟩ (Nat.le_of_ble_eq_true rfl) ⟨rfl, rfl⟩ ⟨by decide, by decide⟩ ?_
        refine aE_iret dX12_trade_24 rfl ⟨by decide, by decide⟩ ?_
        refine hB ?_
        first | exact Or.inl h1 | exact Or.inr (Or.inl h5) | exact Or.inr (Or.inr (Int32.not_le.mp h15))

theorem l_take (ii ns : Nat) (v : Int32) (J : Nat → Nat → Int32) (hi : ii < 11) (hns : J 101 2 = nI ns) (hs4 : ns ≤ 4) (hv : J 140 ii = v) (hQ : qi Q v (tkI J ii ns) sp pl) : ∀ (e s : Nat), s + e = ns → aE z mX12_take (rK 7) Q 35 [some (.ref 101), some (.int (nI ii)), some (.int (nI s))] [] (nn pl) (MM (tkI J ii s) sp pl) 0 0 := by
  intro e
  induction e with
  | zero =>
    intro s hs
    have hs : s = ns := by omega
    subst hs
    refine aE_iload_n dX12_take_35 rfl rfl ?_
    refine aE_aload_n dX12_take_36 rfl rfl ?_
    refine aE_geti dX12_take_37 fw_X12_163 (lt_nn (by decide)) rfl (by decide) rfl ?_
    refine aE_icmp_ge (tgt := 65) dX12_take_40 (by decide) (fun h40 => ?_) (fun h40 => absurd (by rw [tkI_o (by decide), hns]; exact Int32.le_refl _) h40)
    refine aE_aload_n dX12_take_65 rfl rfl ?_
    refine aE_getf (v := .ref 140) dX12_take_66 fw_X12_132 (lt_nn (by decide)) rfl rfl ?_
    refine aE_iload_n dX12_take_69 rfl rfl ?_
    refine aE_ildM dX12_take_70 (lt_nn (by decide)) rfl (by decide) rfl hi ?_
    refine aE_top ((tkI_o (by decide)).trans hv) ?_
    refine aE_iret dX12_take_71 rfl ⟨by decide, by decide⟩ ?_
    exact hQ
  | succ e ih =>
    intro s hs
    refine aE_iload_n dX12_take_35 rfl rfl ?_
    refine aE_aload_n dX12_take_36 rfl rfl ?_
    refine aE_geti dX12_take_37 fw_X12_163 (lt_nn (by decide)) rfl (by decide) rfl ?_
    refine aE_icmp_ge (tgt := 65) dX12_take_40 (by decide) (fun h40 => absurd h40 (by rw [tkI_o (by decide), hns]; exact nI_ge (by omega) (by omega))) (fun h40 => ?_)
    refine aE_aload_n dX12_take_43 rfl rfl ?_
    refine aE_getf (v := .ref 108) dX12_take_44 fw_X12_36 (lt_nn (by decide)) rfl rfl ?_
    refine aE_iload_n dX12_take_47 rfl rfl ?_
    refine aE_aload_n dX12_take_48 rfl rfl ?_
    refine aE_getf (v := .ref 142) dX12_take_49 fw_X12_138 (lt_nn (by decide)) rfl rfl ?_
    refine aE_iconst (v := 4) dX12_take_52 rfl ?_
    refine aE_iload_n dX12_take_53 rfl rfl ?_
    refine aE_imul dX12_take_54 ?_
    refine aE_top (x' := nI (4 * ii)) (by rw [show (4 : Int32) = nI 4 from rfl, pk_mul]) ?_
    refine aE_iload_n dX12_take_55 rfl rfl ?_
    refine aE_iadd dX12_take_56 ?_
    refine aE_top (nI_add _ _) ?_
    refine aE_ildM dX12_take_57 (lt_nn (by decide)) rfl (by decide) rfl (by omega) ?_
    refine aE_top (tkI_o (by decide)) ?_
    refine aE_istM dX12_take_58 (lt_nn (by decide)) rfl (by decide) rfl (by omega) ?_
    refine aE_I tkI_s ?_
    refine aE_iinc dX12_take_59 rfl (a_inc _) (by decide) rfl (aE_loc (ls' := [_, _, _]) rfl ?_)
    refine aE_goto (tgt := 35) dX12_take_62 (by decide) ?_
    exact ih (s + 1) (by omega)
set_option maxRecDepth 20000 in
theorem m_take (i : Int32) (ns nstr nc : Nat) (d : pD) (cs : Nat → pC) (fr to : Nat → Nat) (hW : MW I ns nstr nc d cs fr to) (hst : ¬ I 101 29 = 0 → PlM I d cs (alM I d) ns) (nr : Nat) (hr : I 101 4 = nI nr) (hr8 : nr ≤ 8) (l : List Nat) (ts : tU) (hl : (lsM I d cs ns nr 11).2 = l) (hts : tsM I d cs ns nr (7 ^ ns) = ts) (hstT : ¬ I 101 30 = 0 → TRL I l ts ns) (hB : i < 0 → qi Q (-1000001) (fndM I) sp pl) (hN : ∀ J, 0 ≤ i → FrT I J → MS J ns d cs (alM I d) → (¬ J 101 30 = 0 → TRL J l ts ns) → ((allH d cs (alM I d) ns = false ∨ l = []) ∨ nI l.length ≤ i) → qi Q (-1000004) (fndM J) sp pl) (hO : ∀ J ii n, i = nI ii → FrT I J → MS J ns d cs (alM I d) → (¬ J 101 30 = 0 → TRL J l ts ns) → l[ii]? = some n → allH d cs (alM I d) ns = true → (∀ c, ts.2 n = some c → ∀ s, s < ns → J 142 (4 * ii + s) = nI (dg ns c s)) → qi Q (nI n) (tkI J ii ns) sp pl) : aRuns mX12_take (rK 7) [.ref 101, .int i] (nn pl) (MM I sp pl) Q := by
  refine aRuns_of pn_X12_take (Nat.le_of_ble_eq_true rfl) (fun z => aE_loc (ls' := [_, _, _]) rfl ?_)
  refine aE_iload_n dX12_take_0 rfl rfl ?_
  refine aE_if_ge (tgt := 11) dX12_take_1 (by decide) (fun h1 => ?_) (fun h1 => ?_)
  · skip
    refine aE_aload_n dX12_take_11 rfl rfl ?_
    refine aE_cVq dX12_take_12 lk_X12_312 mv_X12_findTrades (m_ft2 (Q := (fun (r : Option Value) (n' : Nat) (m' : aM) => n' = nn pl ∧ ∃ J v, m' = MM J sp pl ∧ r = some (.int v) ∧ FrT I J ∧ MS J ns d cs (alM I d) ∧ (¬ J 101 30 = 0 → TRL J l ts ns) ∧ ((v = 0 ∧ (allH d cs (alM I d) ns = false ∨ l = [])) ∨ (v = 1 ∧ allH d cs (alM I d) ns = true ∧ TRL J l ts ns ∧ l.length ≤ 11 ∧ l ≠ [])))) ns nstr nc d cs fr to hW hst nr hr hr8 l ts hl hts hstT (fun J h1 h2 h3 h4 => ⟨rfl, J, 0, rfl, rfl, h1, h2, h3, Or.inl ⟨rfl, h4⟩⟩) (fun J h1 h2 h3 h4 h5 h6 h7 => ⟨rfl, J, 1, rfl, rfl, h1, h2, h3, Or.inr ⟨rfl, h4, h5, h6, h7⟩⟩)) rfl (lt_nn (by decide)) rfl rfl ⟨by decide, by decide⟩ (Nat.le_of_ble_eq_true rfl) ⟨rfl, rfl⟩ ⟨by decide, by decide⟩ ?_
    rintro r n' m' ⟨rfl, J, v0, rfl, rfl, hJ, hM, hTJ, hv⟩
    refine aE_if_eq (tgt := 26) dX12_take_15 (by decide) (fun h15 => ?_) (fun h15 => ?_)
    · skip
      have hv0 := hv.resolve_right (fun q => by rw [q.1] at h15; exact absurd h15 (by decide))
      refine aE_aload_n dX12_take_26 rfl rfl ?_
      refine aE_ldc dX12_take_27 ct_X12_197 ?_
      refine aE_cVi dX12_take_29 lk_X12_177 mv_X12_finds (c_finds _) rfl (lt_nn (by decide)) rfl rfl ⟨by decide, by decide⟩ (Nat.le_of_ble_eq_true rfl) ⟨rfl, rfl⟩ ⟨by decide, by decide⟩ ?_
      refine aE_iret dX12_take_32 rfl ⟨by decide, by decide⟩ ?_
      first | exact hN J h1 hJ hM hTJ (Or.inl hv0.2) | exact hN J h1 hJ hM hTJ (Or.inr (by rw [← hv1.2.2.1.1]; exact Int32.not_lt.mp h23))
    · skip
      have hv1 := hv.resolve_left (fun q => h15 q.1)
      refine aE_iload_n dX12_take_18 rfl rfl ?_
      refine aE_aload_n dX12_take_19 rfl rfl ?_
      refine aE_geti dX12_take_20 fw_X12_305 (lt_nn (by decide)) rfl (by decide) rfl ?_
      refine aE_icmp_lt (tgt := 33) dX12_take_23 (by decide) (fun h23 => ?_) (fun h23 => ?_)
      · skip
        obtain ⟨ii, hi31, rfl⟩ := nI_of (Int32.not_lt.mpr h1)
        have hil : ii < l.length := (nI_ltI hi31 (by have := hv1.2.2.2.1; omega)).mp (hv1.2.2.1.1 ▸ h23)
        have hi11 : ii < 11 := by have := hv1.2.2.2.1; omega
        obtain ⟨n, hn⟩ : ∃ n, l[ii]? = some n := ⟨_, List.getElem?_eq_getElem hil⟩
        obtain ⟨t1, t2, t3⟩ := hv1.2.2.1.2 ii n hn
        refine aE_iconst (v := 0) dX12_take_33 rfl ?_
        refine aE_istore_n dX12_take_34 rfl (by decide) rfl (aE_loc (ls' := [_, _, _]) rfl ?_)
        refine aE_I (I' := tkI J ii 0) tkI_0.symm ?_
        exact l_take ii ns _ J hi11 hM.1 hM.2.1 t1 (hO J ii n rfl hJ hM hTJ hn hv1.2.1 (fun c hc s hs => t3 c hc s hs)) ns 0 (by omega)
      · skip
        refine aE_aload_n dX12_take_26 rfl rfl ?_
        refine aE_ldc dX12_take_27 ct_X12_197 ?_
        refine aE_cVi dX12_take_29 lk_X12_177 mv_X12_finds (c_finds _) rfl (lt_nn (by decide)) rfl rfl ⟨by decide, by decide⟩ (Nat.le_of_ble_eq_true rfl) ⟨rfl, rfl⟩ ⟨by decide, by decide⟩ ?_
        refine aE_iret dX12_take_32 rfl ⟨by decide, by decide⟩ ?_
        first | exact hN J h1 hJ hM hTJ (Or.inl hv0.2) | exact hN J h1 hJ hM hTJ (Or.inr (by rw [← hv1.2.2.1.1]; exact Int32.not_lt.mp h23))
  · skip
    refine aE_aload_n dX12_take_4 rfl rfl ?_
    refine aE_ldc dX12_take_5 ct_X12_185 ?_
    refine aE_cVi dX12_take_7 lk_X12_177 mv_X12_finds (c_finds _) rfl (lt_nn (by decide)) rfl rfl ⟨by decide, by decide⟩ (Nat.le_of_ble_eq_true rfl) ⟨rfl, rfl⟩ ⟨by decide, by decide⟩ ?_
    refine aE_iret dX12_take_10 rfl ⟨by decide, by decide⟩ ?_
    exact hB (Int32.not_le.mp h1)

end MTR3
