section CMKT4
variable {z : Nat × (Nat → Int32)} {n : Nat} {mem : aM} {I : Nat → Nat → Int32} {sp : Nat → Nat} {pl : Bool} {Q : Option Value → Nat → aM → Prop} {R : Room}variable {ns nstr nc : Nat} {d : pD} {cs : Nat → pC} {fr to : Nat → Nat}

set_option maxRecDepth 20000 in
theorem c_trades_t  (hW : CW I sp ns nstr nc d cs fr to) (nr : Nat) (kd : Nat → Nat) (hr : I 75 1 = nI nr) (hr8 : nr ≤ 8) (hrk : ∀ r, r < nr → ¬ I 77 r < 0) (hkd : ∀ s, s < ns → kd s < 4 ∧ I (28 + 4 * s) 0 = nI (kd s)) (hwi : ∀ s, s < ns → 0 ≤ (I (28 + 4 * s) 2).toInt ∧ (I (28 + 4 * s) 2).toInt ≤ 6) (hsl : 0 ≤ (I 1 8).toInt ∧ (I 1 8).toInt ≤ 30) (K7 : Nat) (hK7 : 7 ^ ns = K7) (l : List Nat) (ts : tU) (hts : tS (alN I nr ns) (coN I sp d ns) (nbN d cs (alC I sp d) (I 1 8) ns) K7 = ts) (hl : (lsT ts.1 2000000000 11).2 = l) (htr : ¬ I 0 9 = 0 → ¬ I 0 7 = 0 ∧ MkT I l ts ns) (hst : ¬ I 0 7 = 0 → PCs I ns d cs (alC I sp d) ∧ FlC I ns d cs (alC I sp d) (I 1 8)) (hN : ∀ J, DP I J sp ns nstr nc d cs fr to → allH d cs (alC I sp d) ns = false → qi Q (-1000004) (fnd J) sp true) (hE : ∀ K, WT I K sp ns nstr nc d cs fr to l ts → allH d cs (alC I sp d) ns = true → l = [] → qi Q (-1000004) (fnd K) sp true) (hO : ∀ K, WT I K sp ns nstr nc d cs fr to l ts → allH d cs (alC I sp d) ns = true → l ≠ [] → qi Q (nI l.length) K sp true) : aRuns mX11_trades (rK 7) [.ref 0] (nn true) (MM I sp true) Q := by
  refine aRuns_of pn_X11_trades (Nat.le_of_ble_eq_true rfl) (fun z => aE_loc (ls' := [_]) rfl ?_)
  refine aE_aload_n dX11_trades_0 rfl rfl ?_
  refine aE_cVq dX11_trades_1 lk_X11_260 mv_X11_weighTrades (c_weighTrades_t (Q := (fun (r : Option Value) (n' : Nat) (m' : aM) => n' = nn true ∧ ((r = some (.int 0) ∧ ∃ J, m' = MM J sp true ∧ DP I J sp ns nstr nc d cs fr to ∧ allH d cs (alC I sp d) ns = false) ∨ (r = some (.int 0) ∧ ∃ K, m' = MM K sp true ∧ WT I K sp ns nstr nc d cs fr to l ts ∧ allH d cs (alC I sp d) ns = true ∧ l = []) ∨ (r = some (.int 1) ∧ ∃ K, m' = MM K sp true ∧ WT I K sp ns nstr nc d cs fr to l ts ∧ allH d cs (alC I sp d) ns = true ∧ l ≠ [])))) hW nr kd hr hr8 hrk hkd hwi hsl K7 hK7 l ts hts hl htr hst (fun J a b => ⟨rfl, Or.inl ⟨rfl, J, rfl, a, b⟩⟩) (fun K a b c => ⟨rfl, Or.inr (Or.inl ⟨rfl, K, rfl, a, b, c⟩)⟩) (fun K a b c => ⟨rfl, Or.inr (Or.inr ⟨rfl, K, rfl, a, b, c⟩)⟩)) rfl (lt_nn (by decide)) rfl rfl ⟨by decide, by decide⟩ (Nat.le_of_ble_eq_true rfl) ⟨rfl, rfl⟩ ⟨by decide, by decide⟩ ?_
  rintro r n' m' ⟨rfl, ⟨rfl, J, rfl, hJ, hah⟩ | ⟨rfl, K, rfl, hK, hah, hle⟩ | ⟨rfl, K, rfl, hK, hah, hle⟩⟩
  · skip
    refine aE_if_eq (tgt := 17) dX11_trades_4 (by decide) (fun h4 => ?_) (fun h4 => absurd (rfl) h4)
    refine aE_aload_n dX11_trades_17 rfl rfl ?_
    refine aE_ldc dX11_trades_18 ct_X11_98 ?_
    refine aE_cVi dX11_trades_20 lk_X11_62 mv_X11_found (c_found _) rfl (lt_nn (by decide)) rfl rfl ⟨by decide, by decide⟩ (Nat.le_of_ble_eq_true rfl) ⟨rfl, rfl⟩ ⟨by decide, by decide⟩ ?_
    refine aE_iret dX11_trades_23 rfl ⟨by decide, by decide⟩ ?_
    exact hN J hJ hah
  · skip
    refine aE_if_eq (tgt := 17) dX11_trades_4 (by decide) (fun h4 => ?_) (fun h4 => absurd (rfl) h4)
    refine aE_aload_n dX11_trades_17 rfl rfl ?_
    refine aE_ldc dX11_trades_18 ct_X11_98 ?_
    refine aE_cVi dX11_trades_20 lk_X11_62 mv_X11_found (c_found _) rfl (lt_nn (by decide)) rfl rfl ⟨by decide, by decide⟩ (Nat.le_of_ble_eq_true rfl) ⟨rfl, rfl⟩ ⟨by decide, by decide⟩ ?_
    refine aE_iret dX11_trades_23 rfl ⟨by decide, by decide⟩ ?_
    exact hE K hK hah hle
  · skip
    refine aE_if_eq (tgt := 17) dX11_trades_4 (by decide) (fun h4 => absurd h4 (by decide)) (fun h4 => ?_)
    refine aE_aload_n dX11_trades_7 rfl rfl ?_
    refine aE_getf (v := .ref 80) dX11_trades_8 fw_X11_33 (lt_nn (by decide)) rfl rfl ?_
    refine aE_geti dX11_trades_11 fw_X11_263 (lt_nn (by decide)) rfl (by decide) rfl ?_
    refine aE_top hK.2.2.1.2.1 ?_
    refine aE_goto (tgt := 23) dX11_trades_14 (by decide) ?_
    refine aE_iret dX11_trades_23 rfl ⟨by decide, by decide⟩ ?_
    exact hO K hK hah hle

set_option maxRecDepth 20000 in
theorem c_trades_f  (hW : CW I sp ns nstr nc d cs fr to) (nr : Nat) (kd : Nat → Nat) (hr : I 75 1 = nI nr) (hr8 : nr ≤ 8) (hrk : ∀ r, r < nr → ¬ I 77 r < 0) (hkd : ∀ s, s < ns → kd s < 4 ∧ I (28 + 4 * s) 0 = nI (kd s)) (hwi : ∀ s, s < ns → 0 ≤ (I (28 + 4 * s) 2).toInt ∧ (I (28 + 4 * s) 2).toInt ≤ 6) (hsl : 0 ≤ (I 1 8).toInt ∧ (I 1 8).toInt ≤ 30) (K7 : Nat) (hK7 : 7 ^ ns = K7) (l : List Nat) (ts : tU) (hts : tS (alN I nr ns) (coN I sp d ns) (nbN d cs (alC I sp d) (I 1 8) ns) K7 = ts) (hl : (lsT ts.1 2000000000 11).2 = l) (htr : ¬ I 0 9 = 0 → ¬ I 0 7 = 0 ∧ MkT I l ts ns) (h07 : I 0 7 = 0) (hN : ∀ J, DP I J sp ns nstr nc d cs fr to → allH d cs (alC I sp d) ns = false → qi Q (-1000004) (fnd J) sp true) (hE : ∀ K, WT I K sp ns nstr nc d cs fr to l ts → allH d cs (alC I sp d) ns = true → l = [] → qi Q (-1000004) (fnd K) sp true) (hO : ∀ K, WT I K sp ns nstr nc d cs fr to l ts → allH d cs (alC I sp d) ns = true → l ≠ [] → qi Q (nI l.length) K sp true) : aRuns mX11_trades (rP 7) [.ref 0] (nn false) (MM I sp false) Q := by
  refine aRuns_of pn_X11_trades (Nat.le_of_ble_eq_true rfl) (fun z => aE_loc (ls' := [_]) rfl ?_)
  refine aE_aload_n dX11_trades_0 rfl rfl ?_
  refine aE_callV dX11_trades_1 lk_X11_260 mv_X11_weighTrades (c_weighTrades_f (Q := (fun (r : Option Value) (n' : Nat) (m' : aM) => n' = nn true ∧ ((r = some (.int 0) ∧ ∃ J, m' = MM J sp true ∧ DP I J sp ns nstr nc d cs fr to ∧ allH d cs (alC I sp d) ns = false) ∨ (r = some (.int 0) ∧ ∃ K, m' = MM K sp true ∧ WT I K sp ns nstr nc d cs fr to l ts ∧ allH d cs (alC I sp d) ns = true ∧ l = []) ∨ (r = some (.int 1) ∧ ∃ K, m' = MM K sp true ∧ WT I K sp ns nstr nc d cs fr to l ts ∧ allH d cs (alC I sp d) ns = true ∧ l ≠ [])))) hW nr kd hr hr8 hrk hkd hwi hsl K7 hK7 l ts hts hl htr h07 (fun J a b => ⟨rfl, Or.inl ⟨rfl, J, rfl, a, b⟩⟩) (fun K a b c => ⟨rfl, Or.inr (Or.inl ⟨rfl, K, rfl, a, b, c⟩)⟩) (fun K a b c => ⟨rfl, Or.inr (Or.inr ⟨rfl, K, rfl, a, b, c⟩)⟩)) rfl (lt_nn (by decide)) rfl rfl ⟨by decide, by decide⟩ (Nat.le_of_ble_eq_true rfl) ⟨by decide, by decide⟩ ?_
  rintro r n' m' ⟨rfl, ⟨rfl, J, rfl, hJ, hah⟩ | ⟨rfl, K, rfl, hK, hah, hle⟩ | ⟨rfl, K, rfl, hK, hah, hle⟩⟩
  · skip
    refine aE_if_eq (tgt := 17) dX11_trades_4 (by decide) (fun h4 => ?_) (fun h4 => absurd (rfl) h4)
    refine aE_aload_n dX11_trades_17 rfl rfl ?_
    refine aE_ldc dX11_trades_18 ct_X11_98 ?_
    refine aE_cVi dX11_trades_20 lk_X11_62 mv_X11_found (c_found _) rfl (lt_nn (by decide)) rfl rfl ⟨by decide, by decide⟩ (Nat.le_of_ble_eq_true rfl) ⟨rfl, rfl⟩ ⟨by decide, by decide⟩ ?_
    refine aE_iret dX11_trades_23 rfl ⟨by decide, by decide⟩ ?_
    exact hN J hJ hah
  · skip
    refine aE_if_eq (tgt := 17) dX11_trades_4 (by decide) (fun h4 => ?_) (fun h4 => absurd (rfl) h4)
    refine aE_aload_n dX11_trades_17 rfl rfl ?_
    refine aE_ldc dX11_trades_18 ct_X11_98 ?_
    refine aE_cVi dX11_trades_20 lk_X11_62 mv_X11_found (c_found _) rfl (lt_nn (by decide)) rfl rfl ⟨by decide, by decide⟩ (Nat.le_of_ble_eq_true rfl) ⟨rfl, rfl⟩ ⟨by decide, by decide⟩ ?_
    refine aE_iret dX11_trades_23 rfl ⟨by decide, by decide⟩ ?_
    exact hE K hK hah hle
  · skip
    refine aE_if_eq (tgt := 17) dX11_trades_4 (by decide) (fun h4 => absurd h4 (by decide)) (fun h4 => ?_)
    refine aE_aload_n dX11_trades_7 rfl rfl ?_
    refine aE_getf (v := .ref 80) dX11_trades_8 fw_X11_33 (lt_nn (by decide)) rfl rfl ?_
    refine aE_geti dX11_trades_11 fw_X11_263 (lt_nn (by decide)) rfl (by decide) rfl ?_
    refine aE_top hK.2.2.1.2.1 ?_
    refine aE_goto (tgt := 23) dX11_trades_14 (by decide) ?_
    refine aE_iret dX11_trades_23 rfl ⟨by decide, by decide⟩ ?_
    exact hO K hK hah hle

set_option maxRecDepth 20000 in
theorem c_trade_t (i w : Int32) (hW : CW I sp ns nstr nc d cs fr to) (nr : Nat) (kd : Nat → Nat) (hr : I 75 1 = nI nr) (hr8 : nr ≤ 8) (hrk : ∀ r, r < nr → ¬ I 77 r < 0) (hkd : ∀ s, s < ns → kd s < 4 ∧ I (28 + 4 * s) 0 = nI (kd s)) (hwi : ∀ s, s < ns → 0 ≤ (I (28 + 4 * s) 2).toInt ∧ (I (28 + 4 * s) 2).toInt ≤ 6) (hsl : 0 ≤ (I 1 8).toInt ∧ (I 1 8).toInt ≤ 30) (K7 : Nat) (hK7 : 7 ^ ns = K7) (l : List Nat) (ts : tU) (hts : tS (alN I nr ns) (coN I sp d ns) (nbN d cs (alC I sp d) (I 1 8) ns) K7 = ts) (hl : (lsT ts.1 2000000000 11).2 = l) (htr : ¬ I 0 9 = 0 → ¬ I 0 7 = 0 ∧ MkT I l ts ns) (hst : ¬ I 0 7 = 0 → PCs I ns d cs (alC I sp d) ∧ FlC I ns d cs (alC I sp d) (I 1 8)) (hB : (i < 0 ∨ w < 0 ∨ ¬ w < 2 + I 1 4) → qi Q (-1000001) (fnd I) sp true) (hN : ∀ J, ¬ i < 0 → DP I J sp ns nstr nc d cs fr to → allH d cs (alC I sp d) ns = false → qi Q (-1000004) (fnd J) sp true) (hE : ∀ K, ¬ i < 0 → WT I K sp ns nstr nc d cs fr to l ts → allH d cs (alC I sp d) ns = true → (l = [] ∨ nI l.length ≤ i) → qi Q (-1000004) (fnd K) sp true) (h0 : ∀ K ii n, i = nI ii → w = 0 → WT I K sp ns nstr nc d cs fr to l ts → l[ii]? = some n → allH d cs (alC I sp d) ns = true → qi Q (nI n) K sp true) (h1c : ∀ K ii n, i = nI ii → w = 1 → WT I K sp ns nstr nc d cs fr to l ts → l[ii]? = some n → allH d cs (alC I sp d) ns = true → qi Q (ts.1 n) K sp true) (h2 : ∀ K K2 ii n s c, i = nI ii → w = nI (s + 2) → s < ns → WT I K sp ns nstr nc d cs fr to l ts → l[ii]? = some n → allH d cs (alC I sp d) ns = true → ts.2 n = some c → (∀ q j, q ≠ 89 → K2 q j = K q j) → qi Q (nI (dg ns c s)) K2 sp true) : aRuns mX11_trade (rK 7) [.ref 0, .int i, .int w] (nn true) (MM I sp true) Q := by
  refine aRuns_of pn_X11_trade (Nat.le_of_ble_eq_true rfl) (fun z => aE_loc (ls' := [_, _, _]) rfl ?_)
  refine aE_iload_n dX11_trade_0 rfl rfl ?_
  refine aE_if_lt (tgt := 21) dX11_trade_1 (by decide) (fun h1 => ?_) (fun h1 => ?_)
  · skip
    refine aE_aload_n dX11_trade_21 rfl rfl ?_
    refine aE_ldc dX11_trade_22 ct_X11_78 ?_
    refine aE_cVi dX11_trade_24 lk_X11_62 mv_X11_found (c_found _) rfl (lt_nn (by decide)) rfl rfl ⟨by decide, by decide⟩ (Nat.le_of_ble_eq_true rfl) ⟨rfl, rfl⟩ ⟨by decide, by decide⟩ ?_
    refine aE_iret dX11_trade_27 rfl ⟨by decide, by decide⟩ ?_
    first
      | exact hB (Or.inl h1)
      | exact hB (Or.inr (Or.inl h5))
      | exact hB (Or.inr (Or.inr h18))
  · skip
    refine aE_iload_n dX11_trade_4 rfl rfl ?_
    refine aE_if_lt (tgt := 21) dX11_trade_5 (by decide) (fun h5 => ?_) (fun h5 => ?_)
    · skip
      refine aE_aload_n dX11_trade_21 rfl rfl ?_
      refine aE_ldc dX11_trade_22 ct_X11_78 ?_
      refine aE_cVi dX11_trade_24 lk_X11_62 mv_X11_found (c_found _) rfl (lt_nn (by decide)) rfl rfl ⟨by decide, by decide⟩ (Nat.le_of_ble_eq_true rfl) ⟨rfl, rfl⟩ ⟨by decide, by decide⟩ ?_
      refine aE_iret dX11_trade_27 rfl ⟨by decide, by decide⟩ ?_
      first
        | exact hB (Or.inl h1)
        | exact hB (Or.inr (Or.inl h5))
        | exact hB (Or.inr (Or.inr h18))
    · skip
      refine aE_iload_n dX11_trade_8 rfl rfl ?_
      refine aE_iconst (v := 2) dX11_trade_9 rfl ?_
      refine aE_aload_n dX11_trade_10 rfl rfl ?_
      refine aE_getf (v := .ref 1) dX11_trade_11 fw_X11_10 (lt_nn (by decide)) rfl rfl ?_
      refine aE_geti dX11_trade_14 fw_X11_99 (lt_nn (by decide)) rfl (by decide) rfl ?_
      refine aE_iadd dX11_trade_17 ?_
      refine aE_icmp_lt (tgt := 28) dX11_trade_18 (by decide) (fun h18 => ?_) (fun h18 => ?_)
      · skip
        refine aE_aload_n dX11_trade_28 rfl rfl ?_
        refine aE_cVq dX11_trade_29 lk_X11_260 mv_X11_weighTrades (c_weighTrades_t (Q := (fun (r : Option Value) (n' : Nat) (m' : aM) => n' = nn true ∧ ((r = some (.int 0) ∧ ∃ J, m' = MM J sp true ∧ DP I J sp ns nstr nc d cs fr to ∧ allH d cs (alC I sp d) ns = false) ∨ (r = some (.int 0) ∧ ∃ K, m' = MM K sp true ∧ WT I K sp ns nstr nc d cs fr to l ts ∧ allH d cs (alC I sp d) ns = true ∧ l = []) ∨ (r = some (.int 1) ∧ ∃ K, m' = MM K sp true ∧ WT I K sp ns nstr nc d cs fr to l ts ∧ allH d cs (alC I sp d) ns = true ∧ l ≠ [])))) hW nr kd hr hr8 hrk hkd hwi hsl K7 hK7 l ts hts hl htr hst (fun J a b => ⟨rfl, Or.inl ⟨rfl, J, rfl, a, b⟩⟩) (fun K a b c => ⟨rfl, Or.inr (Or.inl ⟨rfl, K, rfl, a, b, c⟩)⟩) (fun K a b c => ⟨rfl, Or.inr (Or.inr ⟨rfl, K, rfl, a, b, c⟩)⟩)) rfl (lt_nn (by decide)) rfl rfl ⟨by decide, by decide⟩ (Nat.le_of_ble_eq_true rfl) ⟨rfl, rfl⟩ ⟨by decide, by decide⟩ ?_
        rintro r n' m' ⟨rfl, ⟨rfl, J, rfl, hJ, hah⟩ | ⟨rfl, K, rfl, hK, hah, hle⟩ | ⟨rfl, K, rfl, hK, hah, hle⟩⟩
        · skip
          refine aE_if_eq (tgt := 46) dX11_trade_32 (by decide) (fun h32 => ?_) (fun h32 => absurd (rfl) h32)
          refine aE_aload_n dX11_trade_46 rfl rfl ?_
          refine aE_ldc dX11_trade_47 ct_X11_98 ?_
          refine aE_cVi dX11_trade_49 lk_X11_62 mv_X11_found (c_found _) rfl (lt_nn (by decide)) rfl rfl ⟨by decide, by decide⟩ (Nat.le_of_ble_eq_true rfl) ⟨rfl, rfl⟩ ⟨by decide, by decide⟩ ?_
          refine aE_iret dX11_trade_52 rfl ⟨by decide, by decide⟩ ?_
          exact hN J h1 hJ hah
        · skip
          refine aE_if_eq (tgt := 46) dX11_trade_32 (by decide) (fun h32 => ?_) (fun h32 => absurd (rfl) h32)
          refine aE_aload_n dX11_trade_46 rfl rfl ?_
          refine aE_ldc dX11_trade_47 ct_X11_98 ?_
          refine aE_cVi dX11_trade_49 lk_X11_62 mv_X11_found (c_found _) rfl (lt_nn (by decide)) rfl rfl ⟨by decide, by decide⟩ (Nat.le_of_ble_eq_true rfl) ⟨rfl, rfl⟩ ⟨by decide, by decide⟩ ?_
          refine aE_iret dX11_trade_52 rfl ⟨by decide, by decide⟩ ?_
          exact hE K h1 hK hah (Or.inl hle)
        · skip
          refine aE_if_eq (tgt := 46) dX11_trade_32 (by decide) (fun h32 => absurd h32 (by decide)) (fun h32 => ?_)
          refine aE_iload_n dX11_trade_35 rfl rfl ?_
          refine aE_aload_n dX11_trade_36 rfl rfl ?_
          refine aE_getf (v := .ref 80) dX11_trade_37 fw_X11_33 (lt_nn (by decide)) rfl rfl ?_
          refine aE_geti dX11_trade_40 fw_X11_263 (lt_nn (by decide)) rfl (by decide) rfl ?_
          refine aE_icmp_lt (tgt := 53) dX11_trade_43 (by decide) (fun h43 => ?_) (fun h43 => ?_)
          · skip
            have hi0 : ¬ i < 0 := h1
            obtain ⟨ii, hi31, rfl⟩ := nI_of hi0
            have hM := hK.2.2.1
            have h11 := hM.2.2.1
            have hii : ii < l.length := (nI_ltI hi31 (by omega)).mp (by rw [← hM.2.1]; exact h43)
            obtain ⟨n, hn⟩ : ∃ n, l[ii]? = some n := ⟨_, List.getElem?_eq_getElem hii⟩
            obtain ⟨m1, m2, m3, m4, c, m5, m6, m7⟩ := hM.2.2.2 ii n hn
            obtain ⟨ww, hw31, rfl⟩ := nI_of h5
            have hs4 := hW.1.2
            have hww : ww < ns + 2 := (nI_ltI hw31 (by omega)).mp (by
              have h := h18
              rw [hW.1.1, show (2 : Int32) = nI 2 from rfl, nI_add] at h
              rw [Nat.add_comm]; exact h)
            refine aE_iload_n dX11_trade_53 rfl rfl ?_
            match ww, hw31, hww with
            | 0, _, _ =>
              refine aE_lookup (off := 26) (tgt := 80) dX11_trade_54 (by decide) (by decide) (by decide) ?_
              refine aE_aload_n dX11_trade_80 rfl rfl ?_
              refine aE_getf (v := .ref 80) dX11_trade_81 fw_X11_33 (lt_nn (by decide)) rfl rfl ?_
              refine aE_iload_n dX11_trade_84 rfl rfl ?_
              refine aE_cVi dX11_trade_85 lk_X11_264 mv_X2_busesIn (c_busesIn ii n m1 m3) rfl (lt_nn (by decide)) rfl rfl ⟨by decide, by decide⟩ (Nat.le_of_ble_eq_true rfl) ⟨rfl, rfl⟩ ⟨by decide, by decide⟩ ?_
              refine aE_iret dX11_trade_88 rfl ⟨by decide, by decide⟩ ?_
              exact h0 K ii n rfl rfl hK hn hah
            | 1, _, _ =>
              refine aE_lookup (off := 35) (tgt := 89) dX11_trade_54 (by decide) (by decide) (by decide) ?_
              refine aE_aload_n dX11_trade_89 rfl rfl ?_
              refine aE_getf (v := .ref 80) dX11_trade_90 fw_X11_33 (lt_nn (by decide)) rfl rfl ?_
              refine aE_iload_n dX11_trade_93 rfl rfl ?_
              refine aE_cVi dX11_trade_94 lk_X11_267 mv_X2_costIn (c_costIn ii n m1 m2 m3) rfl (lt_nn (by decide)) rfl rfl ⟨by decide, by decide⟩ (Nat.le_of_ble_eq_true rfl) ⟨rfl, rfl⟩ ⟨by decide, by decide⟩ ?_
              refine aE_top m4 ?_
              refine aE_iret dX11_trade_97 rfl ⟨by decide, by decide⟩ ?_
              exact h1c K ii n rfl rfl hK hn hah
            | s + 2, _, hs2 =>
              have hs : s < ns := by omega
              refine aE_lookup (off := 44) (tgt := 98) dX11_trade_54 (by decide) (by
                have key : ∀ s, s < 4 → Op.lookupswitch.offset #[((0 : Int), (26 : Int)), (1, 35)].toList 44 (nI (s + 2)).toInt = 44 := by decide
                exact key s (by omega)) (by decide) ?_
              refine aE_aload_n dX11_trade_98 rfl rfl ?_
              refine aE_getf (v := .ref 80) dX11_trade_99 fw_X11_33 (lt_nn (by decide)) rfl rfl ?_
              refine aE_iload_n dX11_trade_102 rfl rfl ?_
              refine aE_cVq dX11_trade_103 lk_X11_270 mv_X2_bellsIn (c_bellsIn (Q := (fun (r : Option Value) (n' : Nat) (m' : aM) => r = some (.ref 89) ∧ n' = nn true ∧ ∃ K2, m' = MM K2 sp true ∧ (∀ q j, q ≠ 89 → K2 q j = K q j) ∧ (∀ s, s < ns → K2 89 s = nI (dg ns c s)))) ii n c ns m1 m2 m3 m6 hs4 m7 hM.1 (fun K2 a b => ⟨rfl, rfl, K2, rfl, a, b⟩)) rfl (lt_nn (by decide)) rfl rfl ⟨by decide, by decide⟩ (Nat.le_of_ble_eq_true rfl) ⟨rfl, rfl⟩ ⟨by decide, by decide⟩ ?_
              rintro r n' m' ⟨rfl, rfl, K2, rfl, k1, k2⟩
              refine aE_iload_n dX11_trade_106 rfl rfl ?_
              refine aE_iconst (v := 2) dX11_trade_107 rfl ?_
              refine aE_isub dX11_trade_108 ?_
              refine aE_top (x' := nI s) (by rw [show (2 : Int32) = nI 2 from rfl, ← nI_add, Int32.add_sub_cancel]) ?_
              refine aE_ildM dX11_trade_109 (lt_nn (by decide)) rfl (by decide) rfl (by omega) ?_
              refine aE_top (k2 s hs) ?_
              refine aE_iret dX11_trade_110 rfl ⟨by decide, by decide⟩ ?_
              exact h2 K K2 ii n s c rfl rfl hs hK hn hah m5 k1
          · skip
            refine aE_aload_n dX11_trade_46 rfl rfl ?_
            refine aE_ldc dX11_trade_47 ct_X11_98 ?_
            refine aE_cVi dX11_trade_49 lk_X11_62 mv_X11_found (c_found _) rfl (lt_nn (by decide)) rfl rfl ⟨by decide, by decide⟩ (Nat.le_of_ble_eq_true rfl) ⟨rfl, rfl⟩ ⟨by decide, by decide⟩ ?_
            refine aE_iret dX11_trade_52 rfl ⟨by decide, by decide⟩ ?_
            exact hE K h1 hK hah (Or.inr (by rw [← hK.2.2.1.2.1]; exact Int32.not_lt.mp h43))
      · skip
        refine aE_aload_n dX11_trade_21 rfl rfl ?_
        refine aE_ldc dX11_trade_22 ct_X11_78 ?_
        refine aE_cVi dX11_trade_24 lk_X11_62 mv_X11_found (c_found _) rfl (lt_nn (by decide)) rfl rfl ⟨by decide, by decide⟩ (Nat.le_of_ble_eq_true rfl) ⟨rfl, rfl⟩ ⟨by decide, by decide⟩ ?_
        refine aE_iret dX11_trade_27 rfl ⟨by decide, by decide⟩ ?_
        first
          | exact hB (Or.inl h1)
          | exact hB (Or.inr (Or.inl h5))
          | exact hB (Or.inr (Or.inr h18))

set_option maxRecDepth 20000 in
theorem c_trade_f (i w : Int32) (hW : CW I sp ns nstr nc d cs fr to) (nr : Nat) (kd : Nat → Nat) (hr : I 75 1 = nI nr) (hr8 : nr ≤ 8) (hrk : ∀ r, r < nr → ¬ I 77 r < 0) (hkd : ∀ s, s < ns → kd s < 4 ∧ I (28 + 4 * s) 0 = nI (kd s)) (hwi : ∀ s, s < ns → 0 ≤ (I (28 + 4 * s) 2).toInt ∧ (I (28 + 4 * s) 2).toInt ≤ 6) (hsl : 0 ≤ (I 1 8).toInt ∧ (I 1 8).toInt ≤ 30) (K7 : Nat) (hK7 : 7 ^ ns = K7) (l : List Nat) (ts : tU) (hts : tS (alN I nr ns) (coN I sp d ns) (nbN d cs (alC I sp d) (I 1 8) ns) K7 = ts) (hl : (lsT ts.1 2000000000 11).2 = l) (htr : ¬ I 0 9 = 0 → ¬ I 0 7 = 0 ∧ MkT I l ts ns) (h07 : I 0 7 = 0) (hG : ¬ (i < 0 ∨ w < 0 ∨ ¬ w < 2 + I 1 4)) (hN : ∀ J, ¬ i < 0 → DP I J sp ns nstr nc d cs fr to → allH d cs (alC I sp d) ns = false → qi Q (-1000004) (fnd J) sp true) (hE : ∀ K, ¬ i < 0 → WT I K sp ns nstr nc d cs fr to l ts → allH d cs (alC I sp d) ns = true → (l = [] ∨ nI l.length ≤ i) → qi Q (-1000004) (fnd K) sp true) (h0 : ∀ K ii n, i = nI ii → w = 0 → WT I K sp ns nstr nc d cs fr to l ts → l[ii]? = some n → allH d cs (alC I sp d) ns = true → qi Q (nI n) K sp true) (h1c : ∀ K ii n, i = nI ii → w = 1 → WT I K sp ns nstr nc d cs fr to l ts → l[ii]? = some n → allH d cs (alC I sp d) ns = true → qi Q (ts.1 n) K sp true) (h2 : ∀ K K2 ii n s c, i = nI ii → w = nI (s + 2) → s < ns → WT I K sp ns nstr nc d cs fr to l ts → l[ii]? = some n → allH d cs (alC I sp d) ns = true → ts.2 n = some c → (∀ q j, q ≠ 89 → K2 q j = K q j) → qi Q (nI (dg ns c s)) K2 sp true) : aRuns mX11_trade (rP 7) [.ref 0, .int i, .int w] (nn false) (MM I sp false) Q := by
  refine aRuns_of pn_X11_trade (Nat.le_of_ble_eq_true rfl) (fun z => aE_loc (ls' := [_, _, _]) rfl ?_)
  refine aE_iload_n dX11_trade_0 rfl rfl ?_
  refine aE_if_lt (tgt := 21) dX11_trade_1 (by decide) (fun h1 => ?_) (fun h1 => ?_)
  · skip
    refine aE_aload_n dX11_trade_21 rfl rfl ?_
    refine aE_ldc dX11_trade_22 ct_X11_78 ?_
    refine aE_cVi dX11_trade_24 lk_X11_62 mv_X11_found (c_found _) rfl (lt_nn (by decide)) rfl rfl ⟨by decide, by decide⟩ (Nat.le_of_ble_eq_true rfl) ⟨rfl, rfl⟩ ⟨by decide, by decide⟩ ?_
    refine aE_iret dX11_trade_27 rfl ⟨by decide, by decide⟩ ?_
    first
      | exact absurd (Or.inl h1) hG
      | exact absurd (Or.inr (Or.inl h5)) hG
      | exact absurd (Or.inr (Or.inr h18)) hG
  · skip
    refine aE_iload_n dX11_trade_4 rfl rfl ?_
    refine aE_if_lt (tgt := 21) dX11_trade_5 (by decide) (fun h5 => ?_) (fun h5 => ?_)
    · skip
      refine aE_aload_n dX11_trade_21 rfl rfl ?_
      refine aE_ldc dX11_trade_22 ct_X11_78 ?_
      refine aE_cVi dX11_trade_24 lk_X11_62 mv_X11_found (c_found _) rfl (lt_nn (by decide)) rfl rfl ⟨by decide, by decide⟩ (Nat.le_of_ble_eq_true rfl) ⟨rfl, rfl⟩ ⟨by decide, by decide⟩ ?_
      refine aE_iret dX11_trade_27 rfl ⟨by decide, by decide⟩ ?_
      first
        | exact absurd (Or.inl h1) hG
        | exact absurd (Or.inr (Or.inl h5)) hG
        | exact absurd (Or.inr (Or.inr h18)) hG
    · skip
      refine aE_iload_n dX11_trade_8 rfl rfl ?_
      refine aE_iconst (v := 2) dX11_trade_9 rfl ?_
      refine aE_aload_n dX11_trade_10 rfl rfl ?_
      refine aE_getf (v := .ref 1) dX11_trade_11 fw_X11_10 (lt_nn (by decide)) rfl rfl ?_
      refine aE_geti dX11_trade_14 fw_X11_99 (lt_nn (by decide)) rfl (by decide) rfl ?_
      refine aE_iadd dX11_trade_17 ?_
      refine aE_icmp_lt (tgt := 28) dX11_trade_18 (by decide) (fun h18 => ?_) (fun h18 => ?_)
      · skip
        refine aE_aload_n dX11_trade_28 rfl rfl ?_
        refine aE_callV dX11_trade_29 lk_X11_260 mv_X11_weighTrades (c_weighTrades_f (Q := (fun (r : Option Value) (n' : Nat) (m' : aM) => n' = nn true ∧ ((r = some (.int 0) ∧ ∃ J, m' = MM J sp true ∧ DP I J sp ns nstr nc d cs fr to ∧ allH d cs (alC I sp d) ns = false) ∨ (r = some (.int 0) ∧ ∃ K, m' = MM K sp true ∧ WT I K sp ns nstr nc d cs fr to l ts ∧ allH d cs (alC I sp d) ns = true ∧ l = []) ∨ (r = some (.int 1) ∧ ∃ K, m' = MM K sp true ∧ WT I K sp ns nstr nc d cs fr to l ts ∧ allH d cs (alC I sp d) ns = true ∧ l ≠ [])))) hW nr kd hr hr8 hrk hkd hwi hsl K7 hK7 l ts hts hl htr h07 (fun J a b => ⟨rfl, Or.inl ⟨rfl, J, rfl, a, b⟩⟩) (fun K a b c => ⟨rfl, Or.inr (Or.inl ⟨rfl, K, rfl, a, b, c⟩)⟩) (fun K a b c => ⟨rfl, Or.inr (Or.inr ⟨rfl, K, rfl, a, b, c⟩)⟩)) rfl (lt_nn (by decide)) rfl rfl ⟨by decide, by decide⟩ (Nat.le_of_ble_eq_true rfl) ⟨by decide, by decide⟩ ?_
        rintro r n' m' ⟨rfl, ⟨rfl, J, rfl, hJ, hah⟩ | ⟨rfl, K, rfl, hK, hah, hle⟩ | ⟨rfl, K, rfl, hK, hah, hle⟩⟩
        · skip
          refine aE_if_eq (tgt := 46) dX11_trade_32 (by decide) (fun h32 => ?_) (fun h32 => absurd (rfl) h32)
          refine aE_aload_n dX11_trade_46 rfl rfl ?_
          refine aE_ldc dX11_trade_47 ct_X11_98 ?_
          refine aE_cVi dX11_trade_49 lk_X11_62 mv_X11_found (c_found _) rfl (lt_nn (by decide)) rfl rfl ⟨by decide, by decide⟩ (Nat.le_of_ble_eq_true rfl) ⟨rfl, rfl⟩ ⟨by decide, by decide⟩ ?_
          refine aE_iret dX11_trade_52 rfl ⟨by decide, by decide⟩ ?_
          exact hN J h1 hJ hah
        · skip
          refine aE_if_eq (tgt := 46) dX11_trade_32 (by decide) (fun h32 => ?_) (fun h32 => absurd (rfl) h32)
          refine aE_aload_n dX11_trade_46 rfl rfl ?_
          refine aE_ldc dX11_trade_47 ct_X11_98 ?_
          refine aE_cVi dX11_trade_49 lk_X11_62 mv_X11_found (c_found _) rfl (lt_nn (by decide)) rfl rfl ⟨by decide, by decide⟩ (Nat.le_of_ble_eq_true rfl) ⟨rfl, rfl⟩ ⟨by decide, by decide⟩ ?_
          refine aE_iret dX11_trade_52 rfl ⟨by decide, by decide⟩ ?_
          exact hE K h1 hK hah (Or.inl hle)
        · skip
          refine aE_if_eq (tgt := 46) dX11_trade_32 (by decide) (fun h32 => absurd h32 (by decide)) (fun h32 => ?_)
          refine aE_iload_n dX11_trade_35 rfl rfl ?_
          refine aE_aload_n dX11_trade_36 rfl rfl ?_
          refine aE_getf (v := .ref 80) dX11_trade_37 fw_X11_33 (lt_nn (by decide)) rfl rfl ?_
          refine aE_geti dX11_trade_40 fw_X11_263 (lt_nn (by decide)) rfl (by decide) rfl ?_
          refine aE_icmp_lt (tgt := 53) dX11_trade_43 (by decide) (fun h43 => ?_) (fun h43 => ?_)
          · skip
            have hi0 : ¬ i < 0 := h1
            obtain ⟨ii, hi31, rfl⟩ := nI_of hi0
            have hM := hK.2.2.1
            have h11 := hM.2.2.1
            have hii : ii < l.length := (nI_ltI hi31 (by omega)).mp (by rw [← hM.2.1]; exact h43)
            obtain ⟨n, hn⟩ : ∃ n, l[ii]? = some n := ⟨_, List.getElem?_eq_getElem hii⟩
            obtain ⟨m1, m2, m3, m4, c, m5, m6, m7⟩ := hM.2.2.2 ii n hn
            obtain ⟨ww, hw31, rfl⟩ := nI_of h5
            have hs4 := hW.1.2
            have hww : ww < ns + 2 := (nI_ltI hw31 (by omega)).mp (by
              have h := h18
              rw [hW.1.1, show (2 : Int32) = nI 2 from rfl, nI_add] at h
              rw [Nat.add_comm]; exact h)
            refine aE_iload_n dX11_trade_53 rfl rfl ?_
            match ww, hw31, hww with
            | 0, _, _ =>
              refine aE_lookup (off := 26) (tgt := 80) dX11_trade_54 (by decide) (by decide) (by decide) ?_
              refine aE_aload_n dX11_trade_80 rfl rfl ?_
              refine aE_getf (v := .ref 80) dX11_trade_81 fw_X11_33 (lt_nn (by decide)) rfl rfl ?_
              refine aE_iload_n dX11_trade_84 rfl rfl ?_
              refine aE_cVi dX11_trade_85 lk_X11_264 mv_X2_busesIn (c_busesIn ii n m1 m3) rfl (lt_nn (by decide)) rfl rfl ⟨by decide, by decide⟩ (Nat.le_of_ble_eq_true rfl) ⟨rfl, rfl⟩ ⟨by decide, by decide⟩ ?_
              refine aE_iret dX11_trade_88 rfl ⟨by decide, by decide⟩ ?_
              exact h0 K ii n rfl rfl hK hn hah
            | 1, _, _ =>
              refine aE_lookup (off := 35) (tgt := 89) dX11_trade_54 (by decide) (by decide) (by decide) ?_
              refine aE_aload_n dX11_trade_89 rfl rfl ?_
              refine aE_getf (v := .ref 80) dX11_trade_90 fw_X11_33 (lt_nn (by decide)) rfl rfl ?_
              refine aE_iload_n dX11_trade_93 rfl rfl ?_
              refine aE_cVi dX11_trade_94 lk_X11_267 mv_X2_costIn (c_costIn ii n m1 m2 m3) rfl (lt_nn (by decide)) rfl rfl ⟨by decide, by decide⟩ (Nat.le_of_ble_eq_true rfl) ⟨rfl, rfl⟩ ⟨by decide, by decide⟩ ?_
              refine aE_top m4 ?_
              refine aE_iret dX11_trade_97 rfl ⟨by decide, by decide⟩ ?_
              exact h1c K ii n rfl rfl hK hn hah
            | s + 2, _, hs2 =>
              have hs : s < ns := by omega
              refine aE_lookup (off := 44) (tgt := 98) dX11_trade_54 (by decide) (by
                have key : ∀ s, s < 4 → Op.lookupswitch.offset #[((0 : Int), (26 : Int)), (1, 35)].toList 44 (nI (s + 2)).toInt = 44 := by decide
                exact key s (by omega)) (by decide) ?_
              refine aE_aload_n dX11_trade_98 rfl rfl ?_
              refine aE_getf (v := .ref 80) dX11_trade_99 fw_X11_33 (lt_nn (by decide)) rfl rfl ?_
              refine aE_iload_n dX11_trade_102 rfl rfl ?_
              refine aE_cVq dX11_trade_103 lk_X11_270 mv_X2_bellsIn (c_bellsIn (Q := (fun (r : Option Value) (n' : Nat) (m' : aM) => r = some (.ref 89) ∧ n' = nn true ∧ ∃ K2, m' = MM K2 sp true ∧ (∀ q j, q ≠ 89 → K2 q j = K q j) ∧ (∀ s, s < ns → K2 89 s = nI (dg ns c s)))) ii n c ns m1 m2 m3 m6 hs4 m7 hM.1 (fun K2 a b => ⟨rfl, rfl, K2, rfl, a, b⟩)) rfl (lt_nn (by decide)) rfl rfl ⟨by decide, by decide⟩ (Nat.le_of_ble_eq_true rfl) ⟨rfl, rfl⟩ ⟨by decide, by decide⟩ ?_
              rintro r n' m' ⟨rfl, rfl, K2, rfl, k1, k2⟩
              refine aE_iload_n dX11_trade_106 rfl rfl ?_
              refine aE_iconst (v := 2) dX11_trade_107 rfl ?_
              refine aE_isub dX11_trade_108 ?_
              refine aE_top (x' := nI s) (by rw [show (2 : Int32) = nI 2 from rfl, ← nI_add, Int32.add_sub_cancel]) ?_
              refine aE_ildM dX11_trade_109 (lt_nn (by decide)) rfl (by decide) rfl (by omega) ?_
              refine aE_top (k2 s hs) ?_
              refine aE_iret dX11_trade_110 rfl ⟨by decide, by decide⟩ ?_
              exact h2 K K2 ii n s c rfl rfl hs hK hn hah m5 k1
          · skip
            refine aE_aload_n dX11_trade_46 rfl rfl ?_
            refine aE_ldc dX11_trade_47 ct_X11_98 ?_
            refine aE_cVi dX11_trade_49 lk_X11_62 mv_X11_found (c_found _) rfl (lt_nn (by decide)) rfl rfl ⟨by decide, by decide⟩ (Nat.le_of_ble_eq_true rfl) ⟨rfl, rfl⟩ ⟨by decide, by decide⟩ ?_
            refine aE_iret dX11_trade_52 rfl ⟨by decide, by decide⟩ ?_
            exact hE K h1 hK hah (Or.inr (by rw [← hK.2.2.1.2.1]; exact Int32.not_lt.mp h43))
      · skip
        refine aE_aload_n dX11_trade_21 rfl rfl ?_
        refine aE_ldc dX11_trade_22 ct_X11_78 ?_
        refine aE_cVi dX11_trade_24 lk_X11_62 mv_X11_found (c_found _) rfl (lt_nn (by decide)) rfl rfl ⟨by decide, by decide⟩ (Nat.le_of_ble_eq_true rfl) ⟨rfl, rfl⟩ ⟨by decide, by decide⟩ ?_
        refine aE_iret dX11_trade_27 rfl ⟨by decide, by decide⟩ ?_
        first
          | exact absurd (Or.inl h1) hG
          | exact absurd (Or.inr (Or.inl h5)) hG
          | exact absurd (Or.inr (Or.inr h18)) hG

set_option maxRecDepth 20000 in
theorem c_trade_b (i w : Int32) (hW : CW I sp ns nstr nc d cs fr to) (nr : Nat) (kd : Nat → Nat) (hr : I 75 1 = nI nr) (hr8 : nr ≤ 8) (hrk : ∀ r, r < nr → ¬ I 77 r < 0) (hkd : ∀ s, s < ns → kd s < 4 ∧ I (28 + 4 * s) 0 = nI (kd s)) (hwi : ∀ s, s < ns → 0 ≤ (I (28 + 4 * s) 2).toInt ∧ (I (28 + 4 * s) 2).toInt ≤ 6) (hsl : 0 ≤ (I 1 8).toInt ∧ (I 1 8).toInt ≤ 30) (K7 : Nat) (hK7 : 7 ^ ns = K7) (l : List Nat) (ts : tU) (hts : tS (alN I nr ns) (coN I sp d ns) (nbN d cs (alC I sp d) (I 1 8) ns) K7 = ts) (hl : (lsT ts.1 2000000000 11).2 = l) (htr : ¬ I 0 9 = 0 → ¬ I 0 7 = 0 ∧ MkT I l ts ns) (hb : i < 0 ∨ w < 0 ∨ ¬ w < 2 + I 1 4) (hB : qi Q (-1000001) (fnd I) sp false) : aRuns mX11_trade (rK 7) [.ref 0, .int i, .int w] (nn false) (MM I sp false) Q := by
  refine aRuns_of pn_X11_trade (Nat.le_of_ble_eq_true rfl) (fun z => aE_loc (ls' := [_, _, _]) rfl ?_)
  refine aE_iload_n dX11_trade_0 rfl rfl ?_
  refine aE_if_lt (tgt := 21) dX11_trade_1 (by decide) (fun h1 => ?_) (fun h1 => ?_)
  · skip
    refine aE_aload_n dX11_trade_21 rfl rfl ?_
    refine aE_ldc dX11_trade_22 ct_X11_78 ?_
    refine aE_cVi dX11_trade_24 lk_X11_62 mv_X11_found (c_found _) rfl (lt_nn (by decide)) rfl rfl ⟨by decide, by decide⟩ (Nat.le_of_ble_eq_true rfl) ⟨rfl, rfl⟩ ⟨by decide, by decide⟩ ?_
    refine aE_iret dX11_trade_27 rfl ⟨by decide, by decide⟩ ?_
    exact hB
  · skip
    refine aE_iload_n dX11_trade_4 rfl rfl ?_
    refine aE_if_lt (tgt := 21) dX11_trade_5 (by decide) (fun h5 => ?_) (fun h5 => ?_)
    · skip
      refine aE_aload_n dX11_trade_21 rfl rfl ?_
      refine aE_ldc dX11_trade_22 ct_X11_78 ?_
      refine aE_cVi dX11_trade_24 lk_X11_62 mv_X11_found (c_found _) rfl (lt_nn (by decide)) rfl rfl ⟨by decide, by decide⟩ (Nat.le_of_ble_eq_true rfl) ⟨rfl, rfl⟩ ⟨by decide, by decide⟩ ?_
      refine aE_iret dX11_trade_27 rfl ⟨by decide, by decide⟩ ?_
      exact hB
    · skip
      refine aE_iload_n dX11_trade_8 rfl rfl ?_
      refine aE_iconst (v := 2) dX11_trade_9 rfl ?_
      refine aE_aload_n dX11_trade_10 rfl rfl ?_
      refine aE_getf (v := .ref 1) dX11_trade_11 fw_X11_10 (lt_nn (by decide)) rfl rfl ?_
      refine aE_geti dX11_trade_14 fw_X11_99 (lt_nn (by decide)) rfl (by decide) rfl ?_
      refine aE_iadd dX11_trade_17 ?_
      refine aE_icmp_lt (tgt := 28) dX11_trade_18 (by decide) (fun h18 => ?_) (fun h18 => ?_)
      · skip
        exact absurd hb (fun q => by rcases q with q | q | q; exact h1 q; exact h5 q; exact q h18)
      · skip
        refine aE_aload_n dX11_trade_21 rfl rfl ?_
        refine aE_ldc dX11_trade_22 ct_X11_78 ?_
        refine aE_cVi dX11_trade_24 lk_X11_62 mv_X11_found (c_found _) rfl (lt_nn (by decide)) rfl rfl ⟨by decide, by decide⟩ (Nat.le_of_ble_eq_true rfl) ⟨rfl, rfl⟩ ⟨by decide, by decide⟩ ?_
        refine aE_iret dX11_trade_27 rfl ⟨by decide, by decide⟩ ?_
        exact hB

set_option maxRecDepth 20000 in
theorem c_take_t (i : Int32) (hW : CW I sp ns nstr nc d cs fr to) (nr : Nat) (kd : Nat → Nat) (hr : I 75 1 = nI nr) (hr8 : nr ≤ 8) (hrk : ∀ r, r < nr → ¬ I 77 r < 0) (hkd : ∀ s, s < ns → kd s < 4 ∧ I (28 + 4 * s) 0 = nI (kd s)) (hwi : ∀ s, s < ns → 0 ≤ (I (28 + 4 * s) 2).toInt ∧ (I (28 + 4 * s) 2).toInt ≤ 6) (hsl : 0 ≤ (I 1 8).toInt ∧ (I 1 8).toInt ≤ 30) (K7 : Nat) (hK7 : 7 ^ ns = K7) (l : List Nat) (ts : tU) (hts : tS (alN I nr ns) (coN I sp d ns) (nbN d cs (alC I sp d) (I 1 8) ns) K7 = ts) (hl : (lsT ts.1 2000000000 11).2 = l) (htr : ¬ I 0 9 = 0 → ¬ I 0 7 = 0 ∧ MkT I l ts ns) (hst : ¬ I 0 7 = 0 → PCs I ns d cs (alC I sp d) ∧ FlC I ns d cs (alC I sp d) (I 1 8)) (hB : (i < 0) → qi Q (-1000001) (fnd I) sp true) (hN : ∀ J, 0 ≤ i → DP I J sp ns nstr nc d cs fr to → allH d cs (alC I sp d) ns = false → qi Q (-1000004) (fnd J) sp true) (hE : ∀ K, 0 ≤ i → WT I K sp ns nstr nc d cs fr to l ts → allH d cs (alC I sp d) ns = true → (l = [] ∨ nI l.length ≤ i) → qi Q (-1000004) (fnd K) sp true) (hO : ∀ K K2 ii n c, i = nI ii → WT I K sp ns nstr nc d cs fr to l ts → l[ii]? = some n → allH d cs (alC I sp d) ns = true → ts.2 n = some c → (∀ q j, q ≠ 89 → q ≠ 26 → ¬ (q = 0 ∧ j = 8) → K2 q j = K q j) → (∀ s, s < ns → K2 26 s = nI (dg ns c s)) → (∀ s, ns ≤ s → K2 26 s = K 26 s) → K2 0 8 = 0 → qi Q (nI n) K2 sp true) : aRuns mX11_take (rK 7) [.ref 0, .int i] (nn true) (MM I sp true) Q := by
  refine aRuns_of pn_X11_take (Nat.le_of_ble_eq_true rfl) (fun z => aE_loc (ls' := [_, _]) rfl ?_)
  refine aE_iload_n dX11_take_0 rfl rfl ?_
  refine aE_if_ge (tgt := 11) dX11_take_1 (by decide) (fun h1 => ?_) (fun h1 => ?_)
  · skip
    refine aE_aload_n dX11_take_11 rfl rfl ?_
    refine aE_cVq dX11_take_12 lk_X11_260 mv_X11_weighTrades (c_weighTrades_t (Q := (fun (r : Option Value) (n' : Nat) (m' : aM) => n' = nn true ∧ ((r = some (.int 0) ∧ ∃ J, m' = MM J sp true ∧ DP I J sp ns nstr nc d cs fr to ∧ allH d cs (alC I sp d) ns = false) ∨ (r = some (.int 0) ∧ ∃ K, m' = MM K sp true ∧ WT I K sp ns nstr nc d cs fr to l ts ∧ allH d cs (alC I sp d) ns = true ∧ l = []) ∨ (r = some (.int 1) ∧ ∃ K, m' = MM K sp true ∧ WT I K sp ns nstr nc d cs fr to l ts ∧ allH d cs (alC I sp d) ns = true ∧ l ≠ [])))) hW nr kd hr hr8 hrk hkd hwi hsl K7 hK7 l ts hts hl htr hst (fun J a b => ⟨rfl, Or.inl ⟨rfl, J, rfl, a, b⟩⟩) (fun K a b c => ⟨rfl, Or.inr (Or.inl ⟨rfl, K, rfl, a, b, c⟩)⟩) (fun K a b c => ⟨rfl, Or.inr (Or.inr ⟨rfl, K, rfl, a, b, c⟩)⟩)) rfl (lt_nn (by decide)) rfl rfl ⟨by decide, by decide⟩ (Nat.le_of_ble_eq_true rfl) ⟨rfl, rfl⟩ ⟨by decide, by decide⟩ ?_
    rintro r n' m' ⟨rfl, ⟨rfl, J, rfl, hJ, hah⟩ | ⟨rfl, K, rfl, hK, hah, hle⟩ | ⟨rfl, K, rfl, hK, hah, hle⟩⟩
    · skip
      refine aE_if_eq (tgt := 29) dX11_take_15 (by decide) (fun h15 => ?_) (fun h15 => absurd (rfl) h15)
      refine aE_aload_n dX11_take_29 rfl rfl ?_
      refine aE_ldc dX11_take_30 ct_X11_98 ?_
      refine aE_cVi dX11_take_32 lk_X11_62 mv_X11_found (c_found _) rfl (lt_nn (by decide)) rfl rfl ⟨by decide, by decide⟩ (Nat.le_of_ble_eq_true rfl) ⟨rfl, rfl⟩ ⟨by decide, by decide⟩ ?_
      refine aE_iret dX11_take_35 rfl ⟨by decide, by decide⟩ ?_
      exact hN J h1 hJ hah
    · skip
      refine aE_if_eq (tgt := 29) dX11_take_15 (by decide) (fun h15 => ?_) (fun h15 => absurd (rfl) h15)
      refine aE_aload_n dX11_take_29 rfl rfl ?_
      refine aE_ldc dX11_take_30 ct_X11_98 ?_
      refine aE_cVi dX11_take_32 lk_X11_62 mv_X11_found (c_found _) rfl (lt_nn (by decide)) rfl rfl ⟨by decide, by decide⟩ (Nat.le_of_ble_eq_true rfl) ⟨rfl, rfl⟩ ⟨by decide, by decide⟩ ?_
      refine aE_iret dX11_take_35 rfl ⟨by decide, by decide⟩ ?_
      exact hE K h1 hK hah (Or.inl hle)
    · skip
      refine aE_if_eq (tgt := 29) dX11_take_15 (by decide) (fun h15 => absurd h15 (by decide)) (fun h15 => ?_)
      refine aE_iload_n dX11_take_18 rfl rfl ?_
      refine aE_aload_n dX11_take_19 rfl rfl ?_
      refine aE_getf (v := .ref 80) dX11_take_20 fw_X11_33 (lt_nn (by decide)) rfl rfl ?_
      refine aE_geti dX11_take_23 fw_X11_263 (lt_nn (by decide)) rfl (by decide) rfl ?_
      refine aE_icmp_lt (tgt := 36) dX11_take_26 (by decide) (fun h26 => ?_) (fun h26 => ?_)
      · skip
        have hi0 : ¬ i < 0 := Int32.not_lt.mpr h1
        obtain ⟨ii, hi31, rfl⟩ := nI_of hi0
        have hM := hK.2.2.1
        have h11 := hM.2.2.1
        have hii : ii < l.length := (nI_ltI hi31 (by omega)).mp (by rw [← hM.2.1]; exact h26)
        obtain ⟨n, hn⟩ : ∃ n, l[ii]? = some n := ⟨_, List.getElem?_eq_getElem hii⟩
        obtain ⟨m1, m2, m3, m4, c, m5, m6, m7⟩ := hM.2.2.2 ii n hn
        have hs4 := hW.1.2
        refine aE_aload_n dX11_take_36 rfl rfl ?_
        refine aE_getf (v := .ref 80) dX11_take_37 fw_X11_33 (lt_nn (by decide)) rfl rfl ?_
        refine aE_iload_n dX11_take_40 rfl rfl ?_
        refine aE_cVq dX11_take_41 lk_X11_270 mv_X2_bellsIn (c_bellsIn (Q := (fun (r : Option Value) (n' : Nat) (m' : aM) => r = some (.ref 89) ∧ n' = nn true ∧ ∃ K2, m' = MM K2 sp true ∧ (∀ q j, q ≠ 89 → K2 q j = K q j) ∧ (∀ s, s < ns → K2 89 s = nI (dg ns c s)))) ii n c ns m1 m2 m3 m6 hs4 m7 hM.1 (fun K2 a b => ⟨rfl, rfl, K2, rfl, a, b⟩)) rfl (lt_nn (by decide)) rfl rfl ⟨by decide, by decide⟩ (Nat.le_of_ble_eq_true rfl) ⟨rfl, rfl⟩ ⟨by decide, by decide⟩ ?_
        rintro r n' m' ⟨rfl, rfl, K2, rfl, k1, k2⟩
        have hkn : K2 1 4 = nI ns := (k1 1 4 (by omega)).trans hK.2.2.2.1.1.1
        refine aE_iconst (v := 0) dX11_take_44 rfl ?_
        refine aE_aload_n dX11_take_45 rfl rfl ?_
        refine aE_getf (v := .ref 1) dX11_take_46 fw_X11_10 (lt_nn (by decide)) rfl rfl ?_
        refine aE_getf (v := .ref 26) dX11_take_49 fw_X11_126 (lt_nn (by decide)) rfl rfl ?_
        refine aE_iconst (v := 0) dX11_take_52 rfl ?_
        refine aE_aload_n dX11_take_53 rfl rfl ?_
        refine aE_getf (v := .ref 1) dX11_take_54 fw_X11_10 (lt_nn (by decide)) rfl rfl ?_
        refine aE_geti dX11_take_57 fw_X11_99 (lt_nn (by decide)) rfl (by decide) rfl ?_
        refine aE_top hkn ?_
        refine aE_copyM (p := 0) (q := 0) (len := ns) dX11_take_60 ac_X11_274 (lt_nn (by decide)) (lt_nn (by decide)) (n0 := 4) (n1 := 4) rfl rfl ⟨rfl, rfl, rfl⟩ (by omega) (by omega) ⟨by decide, by decide⟩ ⟨by decide, by decide⟩ ?_
        refine aE_aload_n dX11_take_63 rfl rfl ?_
        refine aE_iconst (v := 0) dX11_take_64 rfl ?_
        refine aE_puti dX11_take_65 fp_X11_142 (Or.inl rfl) (lt_nn (by decide)) rfl (fun _ => a_narZ (by first | exact Or.inl rfl | exact Or.inr rfl | assumption)) (by decide) rfl ?_
        refine aE_aload_n dX11_take_68 rfl rfl ?_
        refine aE_getf (v := .ref 80) dX11_take_69 fw_X11_33 (lt_nn (by decide)) rfl rfl ?_
        refine aE_iload_n dX11_take_72 rfl rfl ?_
        refine aE_cVi dX11_take_73 lk_X11_264 mv_X2_busesIn (c_busesIn ii n m1 (by rw [iu_ne (by omega)]; unfold cpI; rw [if_neg (by omega), k1 81 ii (by omega)]; exact m3)) rfl (lt_nn (by decide)) rfl rfl ⟨by decide, by decide⟩ (Nat.le_of_ble_eq_true rfl) ⟨rfl, rfl⟩ ⟨by decide, by decide⟩ ?_
        refine aE_iret dX11_take_76 rfl ⟨by decide, by decide⟩ ?_
        refine hO K _ ii n c rfl hK hn hah m5 (fun q j a b e => ?_) (fun s hs => ?_) (fun s hs => ?_) iu_eq
        · rw [iu_ne (by omega)]; unfold cpI; rw [if_neg (by omega)]; exact k1 q j a
        · rw [iu_ne (by omega)]; unfold cpI; rw [if_pos ⟨rfl, by omega, by omega⟩, show 0 + (s - 0) = s by omega]; exact k2 s hs
        · rw [iu_ne (by omega)]; unfold cpI; rw [if_neg (by omega)]; exact k1 26 s (by omega)
      · skip
        refine aE_aload_n dX11_take_29 rfl rfl ?_
        refine aE_ldc dX11_take_30 ct_X11_98 ?_
        refine aE_cVi dX11_take_32 lk_X11_62 mv_X11_found (c_found _) rfl (lt_nn (by decide)) rfl rfl ⟨by decide, by decide⟩ (Nat.le_of_ble_eq_true rfl) ⟨rfl, rfl⟩ ⟨by decide, by decide⟩ ?_
        refine aE_iret dX11_take_35 rfl ⟨by decide, by decide⟩ ?_
        exact hE K h1 hK hah (Or.inr (by rw [← hK.2.2.1.2.1]; exact Int32.not_lt.mp h26))
  · skip
    refine aE_aload_n dX11_take_4 rfl rfl ?_
    refine aE_ldc dX11_take_5 ct_X11_78 ?_
    refine aE_cVi dX11_take_7 lk_X11_62 mv_X11_found (c_found _) rfl (lt_nn (by decide)) rfl rfl ⟨by decide, by decide⟩ (Nat.le_of_ble_eq_true rfl) ⟨rfl, rfl⟩ ⟨by decide, by decide⟩ ?_
    refine aE_iret dX11_take_10 rfl ⟨by decide, by decide⟩ ?_
    first
      | exact hB (Int32.not_le.mp h1)

set_option maxRecDepth 20000 in
theorem c_take_f (i : Int32) (hW : CW I sp ns nstr nc d cs fr to) (nr : Nat) (kd : Nat → Nat) (hr : I 75 1 = nI nr) (hr8 : nr ≤ 8) (hrk : ∀ r, r < nr → ¬ I 77 r < 0) (hkd : ∀ s, s < ns → kd s < 4 ∧ I (28 + 4 * s) 0 = nI (kd s)) (hwi : ∀ s, s < ns → 0 ≤ (I (28 + 4 * s) 2).toInt ∧ (I (28 + 4 * s) 2).toInt ≤ 6) (hsl : 0 ≤ (I 1 8).toInt ∧ (I 1 8).toInt ≤ 30) (K7 : Nat) (hK7 : 7 ^ ns = K7) (l : List Nat) (ts : tU) (hts : tS (alN I nr ns) (coN I sp d ns) (nbN d cs (alC I sp d) (I 1 8) ns) K7 = ts) (hl : (lsT ts.1 2000000000 11).2 = l) (htr : ¬ I 0 9 = 0 → ¬ I 0 7 = 0 ∧ MkT I l ts ns) (h07 : I 0 7 = 0) (hG : ¬ (i < 0)) (hN : ∀ J, 0 ≤ i → DP I J sp ns nstr nc d cs fr to → allH d cs (alC I sp d) ns = false → qi Q (-1000004) (fnd J) sp true) (hE : ∀ K, 0 ≤ i → WT I K sp ns nstr nc d cs fr to l ts → allH d cs (alC I sp d) ns = true → (l = [] ∨ nI l.length ≤ i) → qi Q (-1000004) (fnd K) sp true) (hO : ∀ K K2 ii n c, i = nI ii → WT I K sp ns nstr nc d cs fr to l ts → l[ii]? = some n → allH d cs (alC I sp d) ns = true → ts.2 n = some c → (∀ q j, q ≠ 89 → q ≠ 26 → ¬ (q = 0 ∧ j = 8) → K2 q j = K q j) → (∀ s, s < ns → K2 26 s = nI (dg ns c s)) → (∀ s, ns ≤ s → K2 26 s = K 26 s) → K2 0 8 = 0 → qi Q (nI n) K2 sp true) : aRuns mX11_take (rP 7) [.ref 0, .int i] (nn false) (MM I sp false) Q := by
  refine aRuns_of pn_X11_take (Nat.le_of_ble_eq_true rfl) (fun z => aE_loc (ls' := [_, _]) rfl ?_)
  refine aE_iload_n dX11_take_0 rfl rfl ?_
  refine aE_if_ge (tgt := 11) dX11_take_1 (by decide) (fun h1 => ?_) (fun h1 => ?_)
  · skip
    refine aE_aload_n dX11_take_11 rfl rfl ?_
    refine aE_callV dX11_take_12 lk_X11_260 mv_X11_weighTrades (c_weighTrades_f (Q := (fun (r : Option Value) (n' : Nat) (m' : aM) => n' = nn true ∧ ((r = some (.int 0) ∧ ∃ J, m' = MM J sp true ∧ DP I J sp ns nstr nc d cs fr to ∧ allH d cs (alC I sp d) ns = false) ∨ (r = some (.int 0) ∧ ∃ K, m' = MM K sp true ∧ WT I K sp ns nstr nc d cs fr to l ts ∧ allH d cs (alC I sp d) ns = true ∧ l = []) ∨ (r = some (.int 1) ∧ ∃ K, m' = MM K sp true ∧ WT I K sp ns nstr nc d cs fr to l ts ∧ allH d cs (alC I sp d) ns = true ∧ l ≠ [])))) hW nr kd hr hr8 hrk hkd hwi hsl K7 hK7 l ts hts hl htr h07 (fun J a b => ⟨rfl, Or.inl ⟨rfl, J, rfl, a, b⟩⟩) (fun K a b c => ⟨rfl, Or.inr (Or.inl ⟨rfl, K, rfl, a, b, c⟩)⟩) (fun K a b c => ⟨rfl, Or.inr (Or.inr ⟨rfl, K, rfl, a, b, c⟩)⟩)) rfl (lt_nn (by decide)) rfl rfl ⟨by decide, by decide⟩ (Nat.le_of_ble_eq_true rfl) ⟨by decide, by decide⟩ ?_
    rintro r n' m' ⟨rfl, ⟨rfl, J, rfl, hJ, hah⟩ | ⟨rfl, K, rfl, hK, hah, hle⟩ | ⟨rfl, K, rfl, hK, hah, hle⟩⟩
    · skip
      refine aE_if_eq (tgt := 29) dX11_take_15 (by decide) (fun h15 => ?_) (fun h15 => absurd (rfl) h15)
      refine aE_aload_n dX11_take_29 rfl rfl ?_
      refine aE_ldc dX11_take_30 ct_X11_98 ?_
      refine aE_cVi dX11_take_32 lk_X11_62 mv_X11_found (c_found _) rfl (lt_nn (by decide)) rfl rfl ⟨by decide, by decide⟩ (Nat.le_of_ble_eq_true rfl) ⟨rfl, rfl⟩ ⟨by decide, by decide⟩ ?_
      refine aE_iret dX11_take_35 rfl ⟨by decide, by decide⟩ ?_
      exact hN J h1 hJ hah
    · skip
      refine aE_if_eq (tgt := 29) dX11_take_15 (by decide) (fun h15 => ?_) (fun h15 => absurd (rfl) h15)
      refine aE_aload_n dX11_take_29 rfl rfl ?_
      refine aE_ldc dX11_take_30 ct_X11_98 ?_
      refine aE_cVi dX11_take_32 lk_X11_62 mv_X11_found (c_found _) rfl (lt_nn (by decide)) rfl rfl ⟨by decide, by decide⟩ (Nat.le_of_ble_eq_true rfl) ⟨rfl, rfl⟩ ⟨by decide, by decide⟩ ?_
      refine aE_iret dX11_take_35 rfl ⟨by decide, by decide⟩ ?_
      exact hE K h1 hK hah (Or.inl hle)
    · skip
      refine aE_if_eq (tgt := 29) dX11_take_15 (by decide) (fun h15 => absurd h15 (by decide)) (fun h15 => ?_)
      refine aE_iload_n dX11_take_18 rfl rfl ?_
      refine aE_aload_n dX11_take_19 rfl rfl ?_
      refine aE_getf (v := .ref 80) dX11_take_20 fw_X11_33 (lt_nn (by decide)) rfl rfl ?_
      refine aE_geti dX11_take_23 fw_X11_263 (lt_nn (by decide)) rfl (by decide) rfl ?_
      refine aE_icmp_lt (tgt := 36) dX11_take_26 (by decide) (fun h26 => ?_) (fun h26 => ?_)
      · skip
        have hi0 : ¬ i < 0 := Int32.not_lt.mpr h1
        obtain ⟨ii, hi31, rfl⟩ := nI_of hi0
        have hM := hK.2.2.1
        have h11 := hM.2.2.1
        have hii : ii < l.length := (nI_ltI hi31 (by omega)).mp (by rw [← hM.2.1]; exact h26)
        obtain ⟨n, hn⟩ : ∃ n, l[ii]? = some n := ⟨_, List.getElem?_eq_getElem hii⟩
        obtain ⟨m1, m2, m3, m4, c, m5, m6, m7⟩ := hM.2.2.2 ii n hn
        have hs4 := hW.1.2
        refine aE_aload_n dX11_take_36 rfl rfl ?_
        refine aE_getf (v := .ref 80) dX11_take_37 fw_X11_33 (lt_nn (by decide)) rfl rfl ?_
        refine aE_iload_n dX11_take_40 rfl rfl ?_
        refine aE_cVq dX11_take_41 lk_X11_270 mv_X2_bellsIn (c_bellsIn (Q := (fun (r : Option Value) (n' : Nat) (m' : aM) => r = some (.ref 89) ∧ n' = nn true ∧ ∃ K2, m' = MM K2 sp true ∧ (∀ q j, q ≠ 89 → K2 q j = K q j) ∧ (∀ s, s < ns → K2 89 s = nI (dg ns c s)))) ii n c ns m1 m2 m3 m6 hs4 m7 hM.1 (fun K2 a b => ⟨rfl, rfl, K2, rfl, a, b⟩)) rfl (lt_nn (by decide)) rfl rfl ⟨by decide, by decide⟩ (Nat.le_of_ble_eq_true rfl) ⟨rfl, rfl⟩ ⟨by decide, by decide⟩ ?_
        rintro r n' m' ⟨rfl, rfl, K2, rfl, k1, k2⟩
        have hkn : K2 1 4 = nI ns := (k1 1 4 (by omega)).trans hK.2.2.2.1.1.1
        refine aE_iconst (v := 0) dX11_take_44 rfl ?_
        refine aE_aload_n dX11_take_45 rfl rfl ?_
        refine aE_getf (v := .ref 1) dX11_take_46 fw_X11_10 (lt_nn (by decide)) rfl rfl ?_
        refine aE_getf (v := .ref 26) dX11_take_49 fw_X11_126 (lt_nn (by decide)) rfl rfl ?_
        refine aE_iconst (v := 0) dX11_take_52 rfl ?_
        refine aE_aload_n dX11_take_53 rfl rfl ?_
        refine aE_getf (v := .ref 1) dX11_take_54 fw_X11_10 (lt_nn (by decide)) rfl rfl ?_
        refine aE_geti dX11_take_57 fw_X11_99 (lt_nn (by decide)) rfl (by decide) rfl ?_
        refine aE_top hkn ?_
        refine aE_copyM (p := 0) (q := 0) (len := ns) dX11_take_60 ac_X11_274 (lt_nn (by decide)) (lt_nn (by decide)) (n0 := 4) (n1 := 4) rfl rfl ⟨rfl, rfl, rfl⟩ (by omega) (by omega) ⟨by decide, by decide⟩ ⟨by decide, by decide⟩ ?_
        refine aE_aload_n dX11_take_63 rfl rfl ?_
        refine aE_iconst (v := 0) dX11_take_64 rfl ?_
        refine aE_puti dX11_take_65 fp_X11_142 (Or.inl rfl) (lt_nn (by decide)) rfl (fun _ => a_narZ (by first | exact Or.inl rfl | exact Or.inr rfl | assumption)) (by decide) rfl ?_
        refine aE_aload_n dX11_take_68 rfl rfl ?_
        refine aE_getf (v := .ref 80) dX11_take_69 fw_X11_33 (lt_nn (by decide)) rfl rfl ?_
        refine aE_iload_n dX11_take_72 rfl rfl ?_
        refine aE_cVi dX11_take_73 lk_X11_264 mv_X2_busesIn (c_busesIn ii n m1 (by rw [iu_ne (by omega)]; unfold cpI; rw [if_neg (by omega), k1 81 ii (by omega)]; exact m3)) rfl (lt_nn (by decide)) rfl rfl ⟨by decide, by decide⟩ (Nat.le_of_ble_eq_true rfl) ⟨rfl, rfl⟩ ⟨by decide, by decide⟩ ?_
        refine aE_iret dX11_take_76 rfl ⟨by decide, by decide⟩ ?_
        refine hO K _ ii n c rfl hK hn hah m5 (fun q j a b e => ?_) (fun s hs => ?_) (fun s hs => ?_) iu_eq
        · rw [iu_ne (by omega)]; unfold cpI; rw [if_neg (by omega)]; exact k1 q j a
        · rw [iu_ne (by omega)]; unfold cpI; rw [if_pos ⟨rfl, by omega, by omega⟩, show 0 + (s - 0) = s by omega]; exact k2 s hs
        · rw [iu_ne (by omega)]; unfold cpI; rw [if_neg (by omega)]; exact k1 26 s (by omega)
      · skip
        refine aE_aload_n dX11_take_29 rfl rfl ?_
        refine aE_ldc dX11_take_30 ct_X11_98 ?_
        refine aE_cVi dX11_take_32 lk_X11_62 mv_X11_found (c_found _) rfl (lt_nn (by decide)) rfl rfl ⟨by decide, by decide⟩ (Nat.le_of_ble_eq_true rfl) ⟨rfl, rfl⟩ ⟨by decide, by decide⟩ ?_
        refine aE_iret dX11_take_35 rfl ⟨by decide, by decide⟩ ?_
        exact hE K h1 hK hah (Or.inr (by rw [← hK.2.2.1.2.1]; exact Int32.not_lt.mp h26))
  · skip
    refine aE_aload_n dX11_take_4 rfl rfl ?_
    refine aE_ldc dX11_take_5 ct_X11_78 ?_
    refine aE_cVi dX11_take_7 lk_X11_62 mv_X11_found (c_found _) rfl (lt_nn (by decide)) rfl rfl ⟨by decide, by decide⟩ (Nat.le_of_ble_eq_true rfl) ⟨rfl, rfl⟩ ⟨by decide, by decide⟩ ?_
    refine aE_iret dX11_take_10 rfl ⟨by decide, by decide⟩ ?_
    first
      | exact absurd (Int32.not_le.mp h1) hG

set_option maxRecDepth 20000 in
theorem c_take_b (i : Int32) (hW : CW I sp ns nstr nc d cs fr to) (nr : Nat) (kd : Nat → Nat) (hr : I 75 1 = nI nr) (hr8 : nr ≤ 8) (hrk : ∀ r, r < nr → ¬ I 77 r < 0) (hkd : ∀ s, s < ns → kd s < 4 ∧ I (28 + 4 * s) 0 = nI (kd s)) (hwi : ∀ s, s < ns → 0 ≤ (I (28 + 4 * s) 2).toInt ∧ (I (28 + 4 * s) 2).toInt ≤ 6) (hsl : 0 ≤ (I 1 8).toInt ∧ (I 1 8).toInt ≤ 30) (K7 : Nat) (hK7 : 7 ^ ns = K7) (l : List Nat) (ts : tU) (hts : tS (alN I nr ns) (coN I sp d ns) (nbN d cs (alC I sp d) (I 1 8) ns) K7 = ts) (hl : (lsT ts.1 2000000000 11).2 = l) (htr : ¬ I 0 9 = 0 → ¬ I 0 7 = 0 ∧ MkT I l ts ns) (hb : i < 0) (hB : qi Q (-1000001) (fnd I) sp false) : aRuns mX11_take (rK 7) [.ref 0, .int i] (nn false) (MM I sp false) Q := by
  refine aRuns_of pn_X11_take (Nat.le_of_ble_eq_true rfl) (fun z => aE_loc (ls' := [_, _]) rfl ?_)
  refine aE_iload_n dX11_take_0 rfl rfl ?_
  refine aE_if_ge (tgt := 11) dX11_take_1 (by decide) (fun h1 => ?_) (fun h1 => ?_)
  · skip
    exact absurd hb (Int32.not_lt.mpr h1)
  · skip
    refine aE_aload_n dX11_take_4 rfl rfl ?_
    refine aE_ldc dX11_take_5 ct_X11_78 ?_
    refine aE_cVi dX11_take_7 lk_X11_62 mv_X11_found (c_found _) rfl (lt_nn (by decide)) rfl rfl ⟨by decide, by decide⟩ (Nat.le_of_ble_eq_true rfl) ⟨rfl, rfl⟩ ⟨by decide, by decide⟩ ?_
    refine aE_iret dX11_take_10 rfl ⟨by decide, by decide⟩ ?_
    exact hB

end CMKT4
