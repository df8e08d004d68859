theorem MW_fr {I J : Nat → Nat → Int32} {ns nstr nc : Nat} {d : pD} {cs : Nat → pC} {fr to : Nat → Nat} (h : MW I ns nstr nc d cs fr to) (hJ : FrP I J) : MW J ns nstr nc d cs fr to := by
  obtain ⟨w1, w2, w3, w4, w5, w6, w7, w8, w9, w10, w11, w12, w13⟩ := h
  have e : ∀ q i, q < 121 → (q = 101 → i < 29) → J q i = I q i := fun q i h1 h2 => hJ.1 q i (by omega) (by omega)
  have e4 : J 104 = I 104 := funext fun i => e 104 i (by omega) (by omega)
  have e5 : J 105 = I 105 := funext fun i => e 105 i (by omega) (by omega)
  refine ⟨(e 101 2 (by omega) (by omega)).trans w1, w2, (e 101 1 (by omega) (by omega)).trans w3, w4, w5, fun s hs => ?_, by rw [e4, e5]; exact w7, (e 101 3 (by omega) (by omega)).trans w8, w9, fun k hk => ⟨(w10 k hk).1, (e 111 k (by omega) (by omega)).trans (w10 k hk).2⟩, fun k hk => (e 112 k (by omega) (by omega)).trans (w11 k hk), (e 101 7 (by omega) (by omega)).trans w12, fun s hs => ⟨(w13 s hs).1, (e 107 s (by omega) (by omega)).trans (w13 s hs).2.1, by rw [e 106 s (by omega) (by omega), e 101 8 (by omega) (by omega)]; exact (w13 s hs).2.2⟩⟩
  obtain ⟨a, b, c, g⟩ := w6 s hs
  exact ⟨a, b, (e 102 s (by omega) (by omega)).trans c, (e 103 s (by omega) (by omega)).trans g⟩
theorem alM_fr {I J : Nat → Nat → Int32} {d : pD} (hJ : FrP I J) : alM J d = alM I d := by
  have e : J 110 = I 110 := funext fun i => hJ.1 110 i (by omega) (by omega)
  unfold alM; rw [e]
theorem MC_tr {I J K : Nat → Nat → Int32} {ns : Nat} {d : pD} {cs : Nat → pC} (hJ : FrP I J) (h : MC J K ns d cs) : MC I K ns d cs := by
  have e1 := alM_fr (d := d) hJ
  have e2 : (fun s => J 108 s) = (fun s => I 108 s) := funext fun s => hJ.1 108 s (by omega) (by omega)
  have e3 : J 101 9 = I 101 9 := hJ.1 101 9 (by omega) (by omega)
  unfold MC at *
  rw [e1, e2, e3] at h
  obtain ⟨h1, h2, h3, h4, h5, h6⟩ := h
  exact ⟨fun q i a b => (h1 q i a b).trans (hJ.1 q i (by omega) b), h2, h3, fun s hs => (h4 s hs).trans (hJ.1 108 s (by omega) (by omega)), h5, h6⟩
theorem rv_eq {o : Option Nat} {r : Nat} (hr : r < 2 ^ 31) (ho : ∀ b, o = some b → b < 2 ^ 31) : rv o = nI r ↔ o = some r := by
  cases o with
  | none =>
    constructor
    · intro h
      have h2 : (-1 : Int32) = nI r := h
      exact absurd (h2 ▸ nI_pos hr) (by decide)
    · intro h; cases h
  | some b =>
    constructor
    · intro h; rw [(nI_eq (ho b rfl) hr).mp h]
    · intro h; cases h; rfl
theorem rv_neg {o : Option Nat} (ho : ∀ b, o = some b → b < 2 ^ 31) : rv o < 0 ↔ o = none := by
  cases o with
  | none => exact ⟨fun _ => rfl, fun _ => by decide⟩
  | some b => exact ⟨fun h => absurd h (nI_pos (ho b rfl)), fun h => by cases h⟩
/-- one of the routes along the chain has g -/
def anyN (g : Nat → Bool) (nx : Nat → Option Nat) : Nat → Option Nat → Bool
  | 0, _ => false
  | m + 1, o => match o with
    | none => false
    | some r => g r || anyN g nx m (nx r)
theorem anyN_none (g : Nat → Bool) (nx : Nat → Option Nat) : ∀ m, anyN g nx m none = false
  | 0 => rfl
  | _ + 1 => rfl
theorem kth_s (fir : Nat → Bool) (n bb e k : Nat) : kth fir n bb (e + 1) k = if fir (n - (e + 1)) then (if k = bb then some (n - (e + 1)) else kth fir n bb e (k + 1)) else kth fir n bb e k := rfl
def cntP (p : Nat → Bool) : Nat → Nat
  | 0 => 0
  | k + 1 => cntP p k + if p k then 1 else 0
theorem cntP_le (p : Nat → Bool) : ∀ k, cntP p k ≤ k
  | 0 => Nat.le_refl _
  | k + 1 => by
    have := cntP_le p k
    unfold cntP; split <;> omega
section MCH3
variable {z : Nat × (Nat → Int32)} {n : Nat} {mem : aM} {I : Nat → Nat → Int32} {sp : Nat → Nat} {pl : Bool} {Q : Option Value → Nat → aM → Prop} {R : Room}
set_option maxRecDepth 20000 in
theorem m_buses  (ns nstr nc : Nat) (d : pD) (cs : Nat → pC) (fr to : Nat → Nat) (hW : MW I ns nstr nc d cs fr to) (hst : ¬ I 101 29 = 0 → PlM I d cs (alM I d) ns) (hN : ∀ J, FrP I J → MS J ns d cs (alM I d) → allH d cs (alM I d) ns = false → qi Q (-1000004) (fndM J) sp pl) (hO : ∀ K, MC I K ns d cs → allH d cs (alM I d) ns = true → qi Q (nI (RR d cs (alM I d) ns).length - nI (mxF (mayF d cs (fun s => I 108 s) (I 101 9) (RR d cs (alM I d) ns)) (RR d cs (alM I d) ns).length (RR d cs (alM I d) ns).length 0)) K sp pl) : aRuns mX12_buses (rK 6) [.ref 101] (nn pl) (MM I sp pl) Q := by
  refine aRuns_of pn_X12_buses (Nat.le_of_ble_eq_true rfl) (fun z => aE_loc (ls' := [_]) rfl ?_)
  refine aE_aload_n dX12_buses_0 rfl rfl ?_
  refine aE_cVq dX12_buses_1 lk_X12_243 mv_X12_plan (m_planS (Q := (fun (r : Option Value) (n' : Nat) (m' : aM) => r = none ∧ n' = nn pl ∧ ∃ J, m' = MM J sp pl ∧ FrP I J ∧ MS J ns d cs (alM I d))) ns nstr nc d cs fr to hW hst (fun J h1 h2 => ⟨rfl, rfl, J, rfl, h1, h2⟩)) rfl (lt_nn (by decide)) rfl rfl ⟨by decide, by decide⟩ (Nat.le_of_ble_eq_true rfl) ⟨rfl, rfl⟩ ⟨by decide, by decide⟩ ?_
  rintro r n' m' ⟨rfl, rfl, J, rfl, hJ, hM⟩
  have hha : J 101 43 = if allH d cs (alM I d) ns then 1 else 0 := hM.2.2.2.2.1.2.2.2.2
  have hll : J 101 42 = nI (RR d cs (alM I d) ns).length := hM.2.2.2.2.1.2.2.1.1
  have hl10 := hM.2.2.2.2.2.2.1
  refine aE_aload_n dX12_buses_4 rfl rfl ?_
  refine aE_geti dX12_buses_5 fw_X12_233 (lt_nn (by decide)) rfl (by decide) rfl ?_
  refine aE_top hha ?_
  refine aE_if_ne (tgt := 18) dX12_buses_8 (by decide) (fun h8 => ?_) (fun h8 => ?_)
  · skip
    refine aE_aload_n dX12_buses_18 rfl rfl ?_
    refine aE_cVq dX12_buses_19 lk_X12_271 mv_X12_findChains (m_findChains (Q := (fun (r : Option Value) (n' : Nat) (m' : aM) => r = none ∧ n' = nn pl ∧ ∃ K, m' = MM K sp pl ∧ MC I K ns d cs)) ns nstr nc d cs fr to (MW_fr hW hJ) (fun _ => (alM_fr (d := d) hJ).symm ▸ hM.2.2.2.2.1) (fun K h => ⟨rfl, rfl, K, rfl, MC_tr hJ h⟩)) rfl (lt_nn (by decide)) rfl rfl ⟨by decide, by decide⟩ (Nat.le_of_ble_eq_true rfl) ⟨rfl, rfl⟩ ⟨by decide, by decide⟩ ?_
    rintro r n' m' ⟨rfl, rfl, K, rfl, hC⟩
    have hCM := hC.2.2.1
    have hCl : K 101 42 = nI (RR d cs (alM I d) ns).length := hCM.2.2.2.2.1.2.2.1.1
    have hCn := hCM.2.2.2.2.2.2.1
    refine aE_aload_n dX12_buses_22 rfl rfl ?_
    refine aE_geti dX12_buses_23 fw_X12_230 (lt_nn (by decide)) rfl (by decide) rfl ?_
    refine aE_top hCl ?_
    refine aE_aload_n dX12_buses_26 rfl rfl ?_
    refine aE_getf (v := .ref 134) dX12_buses_27 fw_X12_114 (lt_nn (by decide)) rfl rfl ?_
    refine aE_iconst (v := 0) dX12_buses_30 rfl ?_
    refine aE_ildM dX12_buses_31 (lt_nn (by decide)) rfl (by decide) rfl (by decide) ?_
    refine aE_top hC.2.2.2.2.2 ?_
    refine aE_isub dX12_buses_32 ?_
    refine aE_iret dX12_buses_33 rfl ⟨by decide, by decide⟩ ?_
    exact hO K hC (Classical.byContradiction (fun q => by rw [if_neg q] at h8; exact h8 rfl))
  · skip
    refine aE_aload_n dX12_buses_11 rfl rfl ?_
    refine aE_ldc dX12_buses_12 ct_X12_197 ?_
    refine aE_cVi dX12_buses_14 lk_X12_177 mv_X12_finds (c_finds _) rfl (lt_nn (by decide)) rfl rfl ⟨by decide, by decide⟩ (Nat.le_of_ble_eq_true rfl) ⟨rfl, rfl⟩ ⟨by decide, by decide⟩ ?_
    refine aE_iret dX12_buses_17 rfl ⟨by decide, by decide⟩ ?_
    exact hN J hJ hM (Bool.eq_false_iff.mpr (fun q => by rw [if_pos q] at h8; exact absurd (show (1 : Int32) = 0 by first | exact h8 | exact Classical.not_not.mp h8) (by decide)))

theorem l_isFirst (n : Nat) (nx : Nat → Option Nat) (hn : I 101 42 = nI n) (h10 : n ≤ 10) (hnx : ∀ a, a < n → I 135 a = rv (nx a)) (hnb : ∀ a b, a < n → nx a = some b → b < n) (r : Nat) (hr : r < 2 ^ 31) (hQ : qi Q (if isF nx r n then 1 else 0) I sp pl) : ∀ (e a : Nat), a + e = n → isF nx r a = true → aE z mX12_isFirst (rK 0) Q 2 [some (.ref 101), some (.int (nI r)), some (.int (nI a))] [] (nn pl) (MM I sp pl) 0 0 := by
  intro e
  induction e with
  | zero =>
    intro a ha hf
    have ha : a = n := by omega
    subst ha
    rw [if_pos hf] at hQ
    refine aE_iload_n dX12_isFirst_2 rfl rfl ?_
    refine aE_aload_n dX12_isFirst_3 rfl rfl ?_
    refine aE_geti dX12_isFirst_4 fw_X12_230 (lt_nn (by decide)) rfl (by decide) rfl ?_
    refine aE_icmp_ge (tgt := 28) dX12_isFirst_7 (by decide) (fun h7 => ?_) (fun h7 => absurd (by rw [hn]; exact Int32.le_refl _) h7)
    refine aE_iconst (v := 1) dX12_isFirst_28 rfl ?_
    refine aE_zret dX12_isFirst_29 rfl (by first | exact Or.inl rfl | exact Or.inr rfl | exact wi_or _ _ _ | assumption) ⟨by decide, by decide⟩ ?_
    exact hQ
  | succ e ih =>
    intro a ha hf
    have hx := rv_eq (o := nx a) hr (fun b hb => by have := hnb a b (by omega) hb; omega)
    refine aE_iload_n dX12_isFirst_2 rfl rfl ?_
    refine aE_aload_n dX12_isFirst_3 rfl rfl ?_
    refine aE_geti dX12_isFirst_4 fw_X12_230 (lt_nn (by decide)) rfl (by decide) rfl ?_
    refine aE_icmp_ge (tgt := 28) dX12_isFirst_7 (by decide) (fun h7 => absurd h7 (by rw [hn]; exact nI_ge (by omega) (by omega))) (fun h7 => ?_)
    refine aE_aload_n dX12_isFirst_10 rfl rfl ?_
    refine aE_getf (v := .ref 135) dX12_isFirst_11 fw_X12_117 (lt_nn (by decide)) rfl rfl ?_
    refine aE_iload_n dX12_isFirst_14 rfl rfl ?_
    refine aE_ildM dX12_isFirst_15 (lt_nn (by decide)) rfl (by decide) rfl (by omega) ?_
    refine aE_top (hnx a (by omega)) ?_
    refine aE_iload_n dX12_isFirst_16 rfl rfl ?_
    refine aE_icmp_ne (tgt := 22) dX12_isFirst_17 (by decide) (fun h17 => ?_) (fun h17 => ?_)
    · skip
      refine aE_iinc dX12_isFirst_22 rfl (a_inc _) (by decide) rfl (aE_loc (ls' := [_, _, _]) rfl ?_)
      refine aE_goto (tgt := 2) dX12_isFirst_25 (by decide) ?_
      exact ih (a + 1) (by omega) (by unfold isF; rw [hf, Bool.true_and, decide_eq_true_eq]; exact fun q => h17 (hx.mpr q))
    · skip
      refine aE_iconst (v := 0) dX12_isFirst_20 rfl ?_
      refine aE_zret dX12_isFirst_21 rfl (by first | exact Or.inl rfl | exact Or.inr rfl | exact wi_or _ _ _ | assumption) ⟨by decide, by decide⟩ ?_
      have h17' : rv (nx a) = nI r := by first | exact h17 | exact Classical.not_not.mp h17
      have : isF nx r n = false := Bool.eq_false_iff.mpr (fun q => (isF_iff n).mp q a (by omega) (hx.mp h17'))
      rw [this] at hQ
      exact hQ
theorem m_isFirst (n : Nat) (nx : Nat → Option Nat) (hn : I 101 42 = nI n) (h10 : n ≤ 10) (hnx : ∀ a, a < n → I 135 a = rv (nx a)) (hnb : ∀ a b, a < n → nx a = some b → b < n) (r : Nat) (hr : r < 2 ^ 31) : aRuns mX12_isFirst (rK 0) [.ref 101, .int (nI r)] (nn pl) (MM I sp pl) (a_ri (if isF nx r n then 1 else 0) (nn pl) (MM I sp pl)) := by
  refine aRuns_of pn_X12_isFirst (Nat.le_of_ble_eq_true rfl) (fun z => aE_loc (ls' := [_, _, _]) rfl ?_)
  refine aE_iconst (v := 0) dX12_isFirst_0 rfl ?_
  refine aE_istore_n dX12_isFirst_1 rfl (by decide) rfl (aE_loc (ls' := [_, _, _]) rfl ?_)
  exact l_isFirst n nx hn h10 hnx hnb r hr ⟨rfl, rfl, rfl⟩ n 0 (by omega) rfl
theorem l_chain2 (n : Nat) (nx : Nat → Option Nat) (hn : I 101 42 = nI n) (h10 : n ≤ 10) (hnx : ∀ a, a < n → I 135 a = rv (nx a)) (dp : Nat → Nat) (hdp : dpOK nx n dp) (bb ii r0 : Nat) (hii : ii < 2 ^ 31) (x : Int32) (fin : Option Nat) (hQ : qi Q (rv fin) I sp pl) : ∀ (m : Nat) (o : Option Nat) (k : Nat), (∀ r, o = some r → r < n ∧ dp r < m) → k ≤ ii → itN nx (ii - k) o = fin → aE z mX12_chain (rK 6) Q 81 [some (.ref 101), some (.int (nI bb)), some (.int (nI ii)), some (.int x), some (.int (nI r0)), some (.int (rv o)), some (.int (nI k))] [] (nn pl) (MM I sp pl) 0 0 := by
  intro m
  have done : ∀ (o : Option Nat) (k : Nat), k ≤ ii → (o = none ∨ k = ii) → (∀ r, o = some r → r < n) → itN nx (ii - k) o = fin → aE z mX12_chain (rK 6) Q 81 [some (.ref 101), some (.int (nI bb)), some (.int (nI ii)), some (.int x), some (.int (nI r0)), some (.int (rv o)), some (.int (nI k))] [] (nn pl) (MM I sp pl) 0 0 := by
    intro o k hk ho hb hf
    have hfin : o = fin := by
      rcases ho with rfl | rfl
      · rw [itN_none] at hf; exact hf
      · rw [Nat.sub_self] at hf; exact hf
    subst hfin
    refine aE_iload dX12_chain_81 rfl ?_
    refine aE_iload_n dX12_chain_83 rfl rfl ?_
    refine aE_icmp_ge (tgt := 107) dX12_chain_84 (by decide) (fun h84 => ?_) (fun h84 => ?_)
    · skip
      refine aE_iload dX12_chain_107 rfl ?_
      refine aE_iret dX12_chain_109 rfl ⟨by decide, by decide⟩ ?_
      exact hQ
    · skip
      have ho2 : o = none := ho.resolve_right (fun q => h84 (by rw [q]; exact Int32.le_refl _))
      refine aE_iload dX12_chain_87 rfl ?_
      refine aE_if_lt (tgt := 107) dX12_chain_89 (by decide) (fun h89 => ?_) (fun h89 => absurd (by rw [ho2]; decide) h89)
      refine aE_iload dX12_chain_107 rfl ?_
      refine aE_iret dX12_chain_109 rfl ⟨by decide, by decide⟩ ?_
      exact hQ
  induction m with
  | zero =>
    intro o k ho hk hf
    cases o with
    | none => exact done none k hk (Or.inl rfl) (fun r h => by cases h) hf
    | some r => have := (ho r rfl).2; omega
  | succ m ih =>
    intro o k ho hk hf
    cases o with
    | none => exact done none k hk (Or.inl rfl) (fun r h => by cases h) hf
    | some r =>
      by_cases e : k = ii
      · exact done (some r) k hk (Or.inr e) (fun r2 h => (ho r2 h).1) hf
      · have hr := (ho r rfl).1
        have hd := (ho r rfl).2
        rw [show ii - k = (ii - (k + 1)) + 1 by omega] at hf
        have ih2 := ih (nx r) (k + 1) (fun b hb => by have := hdp r b hr hb; omega) (by omega) hf
        refine aE_iload dX12_chain_81 rfl ?_
        refine aE_iload_n dX12_chain_83 rfl rfl ?_
        refine aE_icmp_ge (tgt := 107) dX12_chain_84 (by decide) (fun h84 => absurd h84 (nI_ge (by omega) (by omega))) (fun h84 => ?_)
        refine aE_iload dX12_chain_87 rfl ?_
        refine aE_if_lt (tgt := 107) dX12_chain_89 (by decide) (fun h89 => absurd h89 (nI_pos (by omega))) (fun h89 => ?_)
        refine aE_aload_n dX12_chain_92 rfl rfl ?_
        refine aE_getf (v := .ref 135) dX12_chain_93 fw_X12_117 (lt_nn (by decide)) rfl rfl ?_
        refine aE_iload dX12_chain_96 rfl ?_
        refine aE_ildM dX12_chain_98 (lt_nn (by decide)) rfl (by decide) rfl (by omega) ?_
        refine aE_top (hnx r hr) ?_
        refine aE_istore dX12_chain_99 (by decide) rfl (aE_loc (ls' := [_, _, _, _, _, _, _]) rfl ?_)
        refine aE_iinc dX12_chain_101 rfl (a_inc _) (by decide) rfl (aE_loc (ls' := [_, _, _, _, _, _, _]) rfl ?_)
        refine aE_goto (tgt := 81) dX12_chain_104 (by decide) ?_
        exact ih2
theorem l_chain1 (n : Nat) (nx : Nat → Option Nat) (hn : I 101 42 = nI n) (h10 : n ≤ 10) (hnx : ∀ a, a < n → I 135 a = rv (nx a)) (dp : Nat → Nat) (hdp : dpOK nx n dp) (bb ii : Nat) (hbb : bb < 2 ^ 31) (hii : ii < 2 ^ 31) (hN : kth (fun r => isF nx r n) n bb n 0 = none → qi Q (-1000004) (fndM I) sp pl) (hO : ∀ r, kth (fun r => isF nx r n) n bb n 0 = some r → qi Q (rv (itN nx ii (some r))) I sp pl) : ∀ (e r k : Nat), r + e = n → k ≤ r → kth (fun r => isF nx r n) n bb e k = kth (fun r => isF nx r n) n bb n 0 → ∀ (x : Int32) l5 l6, x = nI k - 1 → aE z mX12_chain (rK 6) Q 42 [some (.ref 101), some (.int (nI bb)), some (.int (nI ii)), some (.int x), some (.int (nI r)), l5, l6] [] (nn pl) (MM I sp pl) 0 0 := by
  intro e
  induction e with
  | zero =>
    intro r k hr hk hq x l5 l6 hx
    have hr : r = n := by omega
    subst hr
    refine aE_iload dX12_chain_42 rfl ?_
    refine aE_aload_n dX12_chain_44 rfl rfl ?_
    refine aE_geti dX12_chain_45 fw_X12_230 (lt_nn (by decide)) rfl (by decide) rfl ?_
    refine aE_icmp_ge (tgt := 116) dX12_chain_48 (by decide) (fun h48 => ?_) (fun h48 => absurd (by rw [hn]; exact Int32.le_refl _) h48)
    refine aE_aload_n dX12_chain_116 rfl rfl ?_
    refine aE_ldc dX12_chain_117 ct_X12_197 ?_
    refine aE_cVi dX12_chain_119 lk_X12_177 mv_X12_finds (c_finds _) rfl (lt_nn (by decide)) rfl rfl ⟨by decide, by decide⟩ (Nat.le_of_ble_eq_true rfl) ⟨rfl, rfl⟩ ⟨by decide, by decide⟩ ?_
    refine aE_iret dX12_chain_122 rfl ⟨by decide, by decide⟩ ?_
    exact hN hq.symm
  | succ e ih =>
    intro r k hr hk hq x l5 l6 hx
    rw [kth_s, show n - (e + 1) = r by omega] at hq
    have hq : (if isF nx r n = true then (if k = bb then some r else kth (fun r => isF nx r n) n bb e (k + 1)) else kth (fun r => isF nx r n) n bb e k) = kth (fun r => isF nx r n) n bb n 0 := hq
    refine aE_iload dX12_chain_42 rfl ?_
    refine aE_aload_n dX12_chain_44 rfl rfl ?_
    refine aE_geti dX12_chain_45 fw_X12_230 (lt_nn (by decide)) rfl (by decide) rfl ?_
    refine aE_icmp_ge (tgt := 116) dX12_chain_48 (by decide) (fun h48 => absurd h48 (by rw [hn]; exact nI_ge (by omega) (by omega))) (fun h48 => ?_)
    refine aE_aload_n dX12_chain_51 rfl rfl ?_
    refine aE_iload dX12_chain_52 rfl ?_
    refine aE_cVi dX12_chain_54 lk_X12_274 mv_X12_isFirst (m_isFirst n nx hn h10 hnx (fun a b ha hb => (hdp a b ha hb).1) r (by omega)) rfl (lt_nn (by decide)) rfl rfl ⟨by decide, by decide⟩ (Nat.le_of_ble_eq_true rfl) ⟨rfl, rfl⟩ ⟨by decide, by decide⟩ ?_
    refine aE_if_ne (tgt := 63) dX12_chain_57 (by decide) (fun h57 => ?_) (fun h57 => ?_)
    · skip
      have hf : isF nx r n = true := Classical.byContradiction (fun q => h57 (by rw [if_neg q]))
      rw [if_pos hf] at hq
      refine aE_iinc dX12_chain_63 rfl (show x + Int32.ofInt 1 = nI k by rw [hx]; exact Int32.sub_add_cancel _ _) (by decide) rfl (aE_loc (ls' := [_, _, _, _, _, _, _]) rfl ?_)
      refine aE_iload_n dX12_chain_66 rfl rfl ?_
      refine aE_iload_n dX12_chain_67 rfl rfl ?_
      refine aE_icmp_eq (tgt := 74) dX12_chain_68 (by decide) (fun h68 => ?_) (fun h68 => ?_)
      · skip
        have hkb : k = bb := (nI_eq (by omega) hbb).mp h68
        rw [if_pos hkb] at hq
        refine aE_iload dX12_chain_74 rfl ?_
        refine aE_istore dX12_chain_76 (by decide) rfl (aE_loc (ls' := [_, _, _, _, _, _, _]) rfl ?_)
        refine aE_iconst (v := 0) dX12_chain_78 rfl ?_
        refine aE_istore dX12_chain_79 (by decide) rfl (aE_loc (ls' := [_, _, _, _, _, _, _]) rfl ?_)
        exact l_chain2 n nx hn h10 hnx dp hdp bb ii r hii _ _ (hO r hq.symm) (dp r + 1) (some r) 0 (fun r2 h => by cases h; omega) (by omega) rfl
      · skip
        have hkb : ¬ k = bb := fun q => h68 (by rw [q])
        rw [if_neg hkb] at hq
        refine aE_goto (tgt := 110) dX12_chain_71 (by decide) ?_
        refine aE_iinc dX12_chain_110 rfl (a_inc _) (by decide) rfl (aE_loc (ls' := [_, _, _, _, _, _, _]) rfl ?_)
        refine aE_goto (tgt := 42) dX12_chain_113 (by decide) ?_
        first | exact ih (r + 1) k (by omega) (by omega) hq _ _ _ hx | exact ih (r + 1) (k + 1) (by omega) (by omega) hq _ _ _ (nI_pred k).symm
    · skip
      have hf : ¬ isF nx r n = true := fun q => by rw [if_pos q] at h57; exact absurd (show (1 : Int32) = 0 by first | exact h57 | exact Classical.not_not.mp h57) (by decide)
      rw [if_neg hf] at hq
      refine aE_goto (tgt := 110) dX12_chain_60 (by decide) ?_
      refine aE_iinc dX12_chain_110 rfl (a_inc _) (by decide) rfl (aE_loc (ls' := [_, _, _, _, _, _, _]) rfl ?_)
      refine aE_goto (tgt := 42) dX12_chain_113 (by decide) ?_
      first | exact ih (r + 1) k (by omega) (by omega) hq _ _ _ hx | exact ih (r + 1) (k + 1) (by omega) (by omega) hq _ _ _ (nI_pred k).symm
set_option maxRecDepth 20000 in
theorem m_chain (v i : Int32) (dp : Nat → Nat) (ns nstr nc : Nat) (d : pD) (cs : Nat → pC) (fr to : Nat → Nat) (hW : MW I ns nstr nc d cs fr to) (hst : ¬ I 101 29 = 0 → PlM I d cs (alM I d) ns) (hdp : dpOK (nxG (mayF d cs (fun s => I 108 s) (I 101 9) (RR d cs (alM I d) ns)) (RR d cs (alM I d) ns).length) (RR d cs (alM I d) ns).length dp) (hB : (v < 0 ∨ i < 0) → qi Q (-1000001) (fndM I) sp pl) (hN0 : ∀ J, ¬ v < 0 → 0 ≤ i → FrP I J → MS J ns d cs (alM I d) → allH d cs (alM I d) ns = false → qi Q (-1000004) (fndM J) sp pl) (hN : ∀ K bb, v = nI bb → MC I K ns d cs → allH d cs (alM I d) ns = true → kth (fun r => isF (nxG (mayF d cs (fun s => I 108 s) (I 101 9) (RR d cs (alM I d) ns)) (RR d cs (alM I d) ns).length) r (RR d cs (alM I d) ns).length) (RR d cs (alM I d) ns).length bb (RR d cs (alM I d) ns).length 0 = none → qi Q (-1000004) (fndM K) sp pl) (hO : ∀ K bb ii r, v = nI bb → i = nI ii → MC I K ns d cs → allH d cs (alM I d) ns = true → kth (fun r => isF (nxG (mayF d cs (fun s => I 108 s) (I 101 9) (RR d cs (alM I d) ns)) (RR d cs (alM I d) ns).length) r (RR d cs (alM I d) ns).length) (RR d cs (alM I d) ns).length bb (RR d cs (alM I d) ns).length 0 = some r → qi Q (rv (itN (nxG (mayF d cs (fun s => I 108 s) (I 101 9) (RR d cs (alM I d) ns)) (RR d cs (alM I d) ns).length) ii (some r))) K sp pl) : aRuns mX12_chain (rK 6) [.ref 101, .int v, .int i] (nn pl) (MM I sp pl) Q := by
  refine aRuns_of pn_X12_chain (Nat.le_of_ble_eq_true rfl) (fun z => aE_loc (ls' := [_, _, _, _, _, _, _]) rfl ?_)
  refine aE_iload_n dX12_chain_0 rfl rfl ?_
  refine aE_if_lt (tgt := 8) dX12_chain_1 (by decide) (fun h1 => ?_) (fun h1 => ?_)
  · skip
    refine aE_aload_n dX12_chain_8 rfl rfl ?_
    refine aE_ldc dX12_chain_9 ct_X12_185 ?_
    refine aE_cVi dX12_chain_11 lk_X12_177 mv_X12_finds (c_finds _) rfl (lt_nn (by decide)) rfl rfl ⟨by decide, by decide⟩ (Nat.le_of_ble_eq_true rfl) ⟨rfl, rfl⟩ ⟨by decide, by decide⟩ ?_
    refine aE_iret dX12_chain_14 rfl ⟨by decide, by decide⟩ ?_
    exact hB (by first | exact Or.inl h1 | exact Or.inr (Int32.not_le.mp h5))
  · skip
    refine aE_iload_n dX12_chain_4 rfl rfl ?_
    refine aE_if_ge (tgt := 15) dX12_chain_5 (by decide) (fun h5 => ?_) (fun h5 => ?_)
    · skip
      refine aE_aload_n dX12_chain_15 rfl rfl ?_
      refine aE_cVq dX12_chain_16 lk_X12_243 mv_X12_plan (m_planS (Q := (fun (r : Option Value) (n' : Nat) (m' : aM) => r = none ∧ n' = nn pl ∧ ∃ J, m' = MM J sp pl ∧ FrP I J ∧ MS J ns d cs (alM I d))) ns nstr nc d cs fr to hW hst (fun J h1 h2 => ⟨rfl, rfl, J, rfl, h1, h2⟩)) rfl (lt_nn (by decide)) rfl rfl ⟨by decide, by decide⟩ (Nat.le_of_ble_eq_true rfl) ⟨rfl, rfl⟩ ⟨by decide, by decide⟩ ?_
      rintro r n' m' ⟨rfl, rfl, J, rfl, hJ, hM⟩
      have hha : J 101 43 = if allH d cs (alM I d) ns then 1 else 0 := hM.2.2.2.2.1.2.2.2.2
      have hll : J 101 42 = nI (RR d cs (alM I d) ns).length := hM.2.2.2.2.1.2.2.1.1
      have hl10 := hM.2.2.2.2.2.2.1
      refine aE_aload_n dX12_chain_19 rfl rfl ?_
      refine aE_geti dX12_chain_20 fw_X12_233 (lt_nn (by decide)) rfl (by decide) rfl ?_
      refine aE_top hha ?_
      refine aE_if_ne (tgt := 33) dX12_chain_23 (by decide) (fun h23 => ?_) (fun h23 => ?_)
      · skip
        refine aE_aload_n dX12_chain_33 rfl rfl ?_
        refine aE_cVq dX12_chain_34 lk_X12_271 mv_X12_findChains (m_findChains (Q := (fun (r : Option Value) (n' : Nat) (m' : aM) => r = none ∧ n' = nn pl ∧ ∃ K, m' = MM K sp pl ∧ MC I K ns d cs)) ns nstr nc d cs fr to (MW_fr hW hJ) (fun _ => (alM_fr (d := d) hJ).symm ▸ hM.2.2.2.2.1) (fun K h => ⟨rfl, rfl, K, rfl, MC_tr hJ h⟩)) rfl (lt_nn (by decide)) rfl rfl ⟨by decide, by decide⟩ (Nat.le_of_ble_eq_true rfl) ⟨rfl, rfl⟩ ⟨by decide, by decide⟩ ?_
        rintro r n' m' ⟨rfl, rfl, K, rfl, hC⟩
        have hCM := hC.2.2.1
        have hCl : K 101 42 = nI (RR d cs (alM I d) ns).length := hCM.2.2.2.2.1.2.2.1.1
        have hCn := hCM.2.2.2.2.2.2.1
        refine aE_iconst (v := -1) dX12_chain_37 rfl ?_
        refine aE_istore_n dX12_chain_38 rfl (by decide) rfl (aE_loc (ls' := [_, _, _, _, _, _, _]) rfl ?_)
        refine aE_iconst (v := 0) dX12_chain_39 rfl ?_
        refine aE_istore dX12_chain_40 (by decide) rfl (aE_loc (ls' := [_, _, _, _, _, _, _]) rfl ?_)
        have hah := (Classical.byContradiction (fun q => by rw [if_neg q] at h23; exact h23 rfl))
        obtain ⟨bb, hbb, rfl⟩ := nI_of h1
        obtain ⟨ii, hii, rfl⟩ := nI_of (Int32.not_lt.mpr h5)
        exact l_chain1 (RR d cs (alM I d) ns).length (nxG (mayF d cs (fun s => I 108 s) (I 101 9) (RR d cs (alM I d) ns)) (RR d cs (alM I d) ns).length) hCl hCn hC.2.2.2.2.1 dp hdp bb ii hbb hii (fun q => hN K bb rfl hC hah q) (fun r q => hO K bb ii r rfl rfl hC hah q) (RR d cs (alM I d) ns).length 0 0 (by omega) (Nat.le_refl _) rfl _ _ _ (by decide)
      · skip
        refine aE_aload_n dX12_chain_26 rfl rfl ?_
        refine aE_ldc dX12_chain_27 ct_X12_197 ?_
        refine aE_cVi dX12_chain_29 lk_X12_177 mv_X12_finds (c_finds _) rfl (lt_nn (by decide)) rfl rfl ⟨by decide, by decide⟩ (Nat.le_of_ble_eq_true rfl) ⟨rfl, rfl⟩ ⟨by decide, by decide⟩ ?_
        refine aE_iret dX12_chain_32 rfl ⟨by decide, by decide⟩ ?_
        exact hN0 J h1 h5 hJ hM (Bool.eq_false_iff.mpr (fun q => by rw [if_pos q] at h23; exact absurd (show (1 : Int32) = 0 by first | exact h23 | exact Classical.not_not.mp h23) (by decide)))
    · skip
      refine aE_aload_n dX12_chain_8 rfl rfl ?_
      refine aE_ldc dX12_chain_9 ct_X12_185 ?_
      refine aE_cVi dX12_chain_11 lk_X12_177 mv_X12_finds (c_finds _) rfl (lt_nn (by decide)) rfl rfl ⟨by decide, by decide⟩ (Nat.le_of_ble_eq_true rfl) ⟨rfl, rfl⟩ ⟨by decide, by decide⟩ ?_
      refine aE_iret dX12_chain_14 rfl ⟨by decide, by decide⟩ ?_
      exact hB (by first | exact Or.inl h1 | exact Or.inr (Int32.not_le.mp h5))

theorem l_aides2 (n : Nat) (nx : Nat → Option Nat) (hn : I 101 42 = nI n) (h10 : n ≤ 10) (hnx : ∀ a, a < n → I 135 a = rv (nx a)) (dp : Nat → Nat) (hdp : dpOK nx n dp) (g : Nat → Bool) (sc : Nat → Nat) (hsc : ∀ r, r < n → sc r < 4 ∧ I 128 r = nI (sc r) ∧ (I 106 (sc r) = 3 ↔ g r = true)) (c r0 : Nat) : ∀ (m : Nat) (o : Option Nat) (b : Bool), (∀ r, o = some r → r < n ∧ dp r < m) → (aE z mX12_aides (rK 6) Q 93 [some (.ref 101), some (.int (nI c)), some (.int (nI r0)), some (.int (if (b || anyN g nx m o) then 1 else 0)), some (.int (-1))] [] (nn pl) (MM I sp pl) 0 0) → aE z mX12_aides (rK 6) Q 50 [some (.ref 101), some (.int (nI c)), some (.int (nI r0)), some (.int (if b then 1 else 0)), some (.int (rv o))] [] (nn pl) (MM I sp pl) 0 0 := by
  intro m
  have done : ∀ (m : Nat) (b : Bool), (aE z mX12_aides (rK 6) Q 93 [some (.ref 101), some (.int (nI c)), some (.int (nI r0)), some (.int (if (b || anyN g nx m none) then 1 else 0)), some (.int (-1))] [] (nn pl) (MM I sp pl) 0 0) → aE z mX12_aides (rK 6) Q 50 [some (.ref 101), some (.int (nI c)), some (.int (nI r0)), some (.int (if b then 1 else 0)), some (.int (rv none))] [] (nn pl) (MM I sp pl) 0 0 := by
    intro m b k0
    rw [anyN_none, Bool.or_false] at k0
    refine aE_iload dX12_aides_50 rfl ?_
    refine aE_if_lt (tgt := 93) dX12_aides_52 (by decide) (fun h52 => ?_) (fun h52 => absurd (by decide) h52)
    exact k0
  induction m with
  | zero =>
    intro o b ho k0
    cases o with
    | none => exact done 0 b k0
    | some r => have := (ho r rfl).2; omega
  | succ m ih =>
    intro o b ho k0
    cases o with
    | none => exact done (m + 1) b k0
    | some r =>
      have hr := (ho r rfl).1
      have hd := (ho r rfl).2
      obtain ⟨s1, s2, s3⟩ := hsc r hr
      have k1 : aE z mX12_aides (rK 6) Q 93 [some (.ref 101), some (.int (nI c)), some (.int (nI r0)), some (.int (if ((b || g r) || anyN g nx m (nx r)) then 1 else 0)), some (.int (-1))] [] (nn pl) (MM I sp pl) 0 0 := by
        rw [Bool.or_assoc]; exact k0
      have ih2 := ih (nx r) (b || g r) (fun b hb => by have := hdp r b hr hb; omega) k1
      refine aE_iload dX12_aides_50 rfl ?_
      refine aE_if_lt (tgt := 93) dX12_aides_52 (by decide) (fun h52 => absurd h52 (nI_pos (by omega))) (fun h52 => ?_)
      refine aE_iload_n dX12_aides_55 rfl rfl ?_
      refine aE_if_ne (tgt := 75) dX12_aides_56 (by decide) (fun h56 => ?_) (fun h56 => ?_)
      · skip
        refine aE_iconst (v := 1) dX12_aides_75 rfl ?_
        refine aE_goto (tgt := 80) dX12_aides_76 (by decide) ?_
        refine aE_top (x' := if (b || g r) then 1 else 0) (by
          first
            | (have hb : b = true := Classical.byContradiction (fun q => h56 (by rw [if_neg q]))
               rw [hb]; rfl)
            | (have hg : g r = true := s3.mp (by first | exact h72 | exact Classical.not_not.mp h72)
               rw [hg, Bool.or_true]; rfl)
            | (have hg : g r = false := Bool.eq_false_iff.mpr (fun q => h72 (s3.mpr q))
               have hb : b = false := Bool.eq_false_iff.mpr (fun q => by rw [if_pos q] at h56; exact absurd (show (1 : Int32) = 0 by first | exact h56 | exact Classical.not_not.mp h56) (by decide))
               rw [hg, hb]; rfl)) ?_
        refine aE_istore_n dX12_aides_80 rfl (by decide) rfl (aE_loc (ls' := [_, _, _, _, _]) rfl ?_)
        refine aE_aload_n dX12_aides_81 rfl rfl ?_
        refine aE_getf (v := .ref 135) dX12_aides_82 fw_X12_117 (lt_nn (by decide)) rfl rfl ?_
        refine aE_iload dX12_aides_85 rfl ?_
        refine aE_ildM dX12_aides_87 (lt_nn (by decide)) rfl (by decide) rfl (by omega) ?_
        refine aE_top (hnx r hr) ?_
        refine aE_istore dX12_aides_88 (by decide) rfl (aE_loc (ls' := [_, _, _, _, _]) rfl ?_)
        refine aE_goto (tgt := 50) dX12_aides_90 (by decide) ?_
        exact ih2
      · skip
        refine aE_aload_n dX12_aides_59 rfl rfl ?_
        refine aE_getf (v := .ref 106) dX12_aides_60 fw_X12_30 (lt_nn (by decide)) rfl rfl ?_
        refine aE_aload_n dX12_aides_63 rfl rfl ?_
        refine aE_getf (v := .ref 128) dX12_aides_64 fw_X12_96 (lt_nn (by decide)) rfl rfl ?_
        refine aE_iload dX12_aides_67 rfl ?_
        refine aE_ildM dX12_aides_69 (lt_nn (by decide)) rfl (by decide) rfl (by omega) ?_
        refine aE_top s2 ?_
        refine aE_ildM dX12_aides_70 (lt_nn (by decide)) rfl (by decide) rfl s1 ?_
        refine aE_iconst (v := 3) dX12_aides_71 rfl ?_
        refine aE_icmp_ne (tgt := 79) dX12_aides_72 (by decide) (fun h72 => ?_) (fun h72 => ?_)
        · skip
          refine aE_iconst (v := 0) dX12_aides_79 rfl ?_
          refine aE_top (x' := if (b || g r) then 1 else 0) (by
            first
              | (have hb : b = true := Classical.byContradiction (fun q => h56 (by rw [if_neg q]))
                 rw [hb]; rfl)
              | (have hg : g r = true := s3.mp (by first | exact h72 | exact Classical.not_not.mp h72)
                 rw [hg, Bool.or_true]; rfl)
              | (have hg : g r = false := Bool.eq_false_iff.mpr (fun q => h72 (s3.mpr q))
                 have hb : b = false := Bool.eq_false_iff.mpr (fun q => by rw [if_pos q] at h56; exact absurd (show (1 : Int32) = 0 by first | exact h56 | exact Classical.not_not.mp h56) (by decide))
                 rw [hg, hb]; rfl)) ?_
          refine aE_istore_n dX12_aides_80 rfl (by decide) rfl (aE_loc (ls' := [_, _, _, _, _]) rfl ?_)
          refine aE_aload_n dX12_aides_81 rfl rfl ?_
          refine aE_getf (v := .ref 135) dX12_aides_82 fw_X12_117 (lt_nn (by decide)) rfl rfl ?_
          refine aE_iload dX12_aides_85 rfl ?_
          refine aE_ildM dX12_aides_87 (lt_nn (by decide)) rfl (by decide) rfl (by omega) ?_
          refine aE_top (hnx r hr) ?_
          refine aE_istore dX12_aides_88 (by decide) rfl (aE_loc (ls' := [_, _, _, _, _]) rfl ?_)
          refine aE_goto (tgt := 50) dX12_aides_90 (by decide) ?_
          exact ih2
        · skip
          refine aE_iconst (v := 1) dX12_aides_75 rfl ?_
          refine aE_goto (tgt := 80) dX12_aides_76 (by decide) ?_
          refine aE_top (x' := if (b || g r) then 1 else 0) (by
            first
              | (have hb : b = true := Classical.byContradiction (fun q => h56 (by rw [if_neg q]))
                 rw [hb]; rfl)
              | (have hg : g r = true := s3.mp (by first | exact h72 | exact Classical.not_not.mp h72)
                 rw [hg, Bool.or_true]; rfl)
              | (have hg : g r = false := Bool.eq_false_iff.mpr (fun q => h72 (s3.mpr q))
                 have hb : b = false := Bool.eq_false_iff.mpr (fun q => by rw [if_pos q] at h56; exact absurd (show (1 : Int32) = 0 by first | exact h56 | exact Classical.not_not.mp h56) (by decide))
                 rw [hg, hb]; rfl)) ?_
          refine aE_istore_n dX12_aides_80 rfl (by decide) rfl (aE_loc (ls' := [_, _, _, _, _]) rfl ?_)
          refine aE_aload_n dX12_aides_81 rfl rfl ?_
          refine aE_getf (v := .ref 135) dX12_aides_82 fw_X12_117 (lt_nn (by decide)) rfl rfl ?_
          refine aE_iload dX12_aides_85 rfl ?_
          refine aE_ildM dX12_aides_87 (lt_nn (by decide)) rfl (by decide) rfl (by omega) ?_
          refine aE_top (hnx r hr) ?_
          refine aE_istore dX12_aides_88 (by decide) rfl (aE_loc (ls' := [_, _, _, _, _]) rfl ?_)
          refine aE_goto (tgt := 50) dX12_aides_90 (by decide) ?_
          exact ih2
theorem l_aides1 (n : Nat) (nx : Nat → Option Nat) (hn : I 101 42 = nI n) (h10 : n ≤ 10) (hnx : ∀ a, a < n → I 135 a = rv (nx a)) (dp : Nat → Nat) (hdp : dpOK nx n dp) (g : Nat → Bool) (sc : Nat → Nat) (hsc : ∀ r, r < n → sc r < 4 ∧ I 128 r = nI (sc r) ∧ (I 106 (sc r) = 3 ↔ g r = true)) (hdn : ∀ r, r < n → dp r < n) (hQ : qi Q (nI (cntP (fun r => isF nx r n && anyN g nx n (some r)) n)) I sp pl) : ∀ (e r : Nat), r + e = n → ∀ l3 l4, aE z mX12_aides (rK 6) Q 26 [some (.ref 101), some (.int (nI (cntP (fun r => isF nx r n && anyN g nx n (some r)) r))), some (.int (nI r)), l3, l4] [] (nn pl) (MM I sp pl) 0 0 := by
  intro e
  induction e with
  | zero =>
    intro r hr l3 l4
    have hr : r = n := by omega
    subst hr
    refine aE_iload_n dX12_aides_26 rfl rfl ?_
    refine aE_aload_n dX12_aides_27 rfl rfl ?_
    refine aE_geti dX12_aides_28 fw_X12_230 (lt_nn (by decide)) rfl (by decide) rfl ?_
    refine aE_icmp_ge (tgt := 111) dX12_aides_31 (by decide) (fun h31 => ?_) (fun h31 => absurd (by rw [hn]; exact Int32.le_refl _) h31)
    refine aE_iload_n dX12_aides_111 rfl rfl ?_
    refine aE_iret dX12_aides_112 rfl ⟨by decide, by decide⟩ ?_
    exact hQ
  | succ e ih =>
    intro r hr l3 l4
    have ih2 := ih (r + 1) (by omega)
    have es : cntP (fun r => isF nx r n && anyN g nx n (some r)) (r + 1) = cntP (fun r => isF nx r n && anyN g nx n (some r)) r + if (isF nx r n && anyN g nx n (some r)) then 1 else 0 := rfl
    refine aE_iload_n dX12_aides_26 rfl rfl ?_
    refine aE_aload_n dX12_aides_27 rfl rfl ?_
    refine aE_geti dX12_aides_28 fw_X12_230 (lt_nn (by decide)) rfl (by decide) rfl ?_
    refine aE_icmp_ge (tgt := 111) dX12_aides_31 (by decide) (fun h31 => absurd h31 (by rw [hn]; exact nI_ge (by omega) (by omega))) (fun h31 => ?_)
    refine aE_aload_n dX12_aides_34 rfl rfl ?_
    refine aE_iload_n dX12_aides_35 rfl rfl ?_
    refine aE_cVi dX12_aides_36 lk_X12_274 mv_X12_isFirst (m_isFirst n nx hn h10 hnx (fun a b ha hb => (hdp a b ha hb).1) r (by omega)) rfl (lt_nn (by decide)) rfl rfl ⟨by decide, by decide⟩ (Nat.le_of_ble_eq_true rfl) ⟨rfl, rfl⟩ ⟨by decide, by decide⟩ ?_
    refine aE_if_ne (tgt := 45) dX12_aides_39 (by decide) (fun h39 => ?_) (fun h39 => ?_)
    · skip
      have hf : isF nx r n = true := Classical.byContradiction (fun q => h39 (by rw [if_neg q]))
      rw [hf, Bool.true_and] at es
      rw [es] at ih2
      refine aE_iconst (v := 0) dX12_aides_45 rfl ?_
      refine aE_istore_n dX12_aides_46 rfl (by decide) rfl (aE_loc (ls' := [_, _, _, _, _]) rfl ?_)
      refine aE_iload_n dX12_aides_47 rfl rfl ?_
      refine aE_istore dX12_aides_48 (by decide) rfl (aE_loc (ls' := [_, _, _, _, _]) rfl ?_)
      refine l_aides2 n nx hn h10 hnx dp hdp g sc hsc _ _ n (some r) false (fun r2 h => by cases h; exact ⟨by omega, hdn r (by omega)⟩) ?_
      rw [Bool.false_or]
      refine aE_iload_n dX12_aides_93 rfl rfl ?_
      refine aE_iload_n dX12_aides_94 rfl rfl ?_
      refine aE_if_eq (tgt := 102) dX12_aides_95 (by decide) (fun h95 => ?_) (fun h95 => ?_)
      · skip
        refine aE_iconst (v := 0) dX12_aides_102 rfl ?_
        refine aE_iadd dX12_aides_103 ?_
        refine aE_top (x' := nI (cntP (fun r => isF nx r n && anyN g nx n (some r)) r + if anyN g nx n (some r) = true then 1 else 0)) (by
          first
            | (have hx : anyN g nx n (some r) = true := Classical.byContradiction (fun q => h95 (by rw [if_neg q]))
               rw [if_pos hx]; exact nI_add _ 1)
            | (have hx : ¬ anyN g nx n (some r) = true := fun q => by rw [if_pos q] at h95; exact absurd h95 (by decide)
               rw [if_neg hx]; exact nI_add _ 0)) ?_
        refine aE_istore_n dX12_aides_104 rfl (by decide) rfl (aE_loc (ls' := [_, _, _, _, _]) rfl ?_)
        refine aE_iinc dX12_aides_105 rfl (a_inc _) (by decide) rfl (aE_loc (ls' := [_, _, _, _, _]) rfl ?_)
        refine aE_goto (tgt := 26) dX12_aides_108 (by decide) ?_
        exact ih2 _ _
      · skip
        refine aE_iconst (v := 1) dX12_aides_98 rfl ?_
        refine aE_goto (tgt := 103) dX12_aides_99 (by decide) ?_
        refine aE_iadd dX12_aides_103 ?_
        refine aE_top (x' := nI (cntP (fun r => isF nx r n && anyN g nx n (some r)) r + if anyN g nx n (some r) = true then 1 else 0)) (by
          first
            | (have hx : anyN g nx n (some r) = true := Classical.byContradiction (fun q => h95 (by rw [if_neg q]))
               rw [if_pos hx]; exact nI_add _ 1)
            | (have hx : ¬ anyN g nx n (some r) = true := fun q => by rw [if_pos q] at h95; exact absurd h95 (by decide)
               rw [if_neg hx]; exact nI_add _ 0)) ?_
        refine aE_istore_n dX12_aides_104 rfl (by decide) rfl (aE_loc (ls' := [_, _, _, _, _]) rfl ?_)
        refine aE_iinc dX12_aides_105 rfl (a_inc _) (by decide) rfl (aE_loc (ls' := [_, _, _, _, _]) rfl ?_)
        refine aE_goto (tgt := 26) dX12_aides_108 (by decide) ?_
        exact ih2 _ _
    · skip
      have hf : isF nx r n = false := Bool.eq_false_iff.mpr (fun q => by rw [if_pos q] at h39; exact absurd (show (1 : Int32) = 0 by first | exact h39 | exact Classical.not_not.mp h39) (by decide))
      rw [hf, Bool.false_and] at es
      rw [es] at ih2
      refine aE_goto (tgt := 105) dX12_aides_42 (by decide) ?_
      refine aE_iinc dX12_aides_105 rfl (a_inc _) (by decide) rfl (aE_loc (ls' := [_, _, _, _, _]) rfl ?_)
      refine aE_goto (tgt := 26) dX12_aides_108 (by decide) ?_
      exact ih2 _ _
set_option maxRecDepth 20000 in
theorem m_aides (dp : Nat → Nat) (ns nstr nc : Nat) (d : pD) (cs : Nat → pC) (fr to : Nat → Nat) (hW : MW I ns nstr nc d cs fr to) (hst : ¬ I 101 29 = 0 → PlM I d cs (alM I d) ns) (hdp : dpOK (nxG (mayF d cs (fun s => I 108 s) (I 101 9) (RR d cs (alM I d) ns)) (RR d cs (alM I d) ns).length) (RR d cs (alM I d) ns).length dp) (hdn : ∀ r, r < (RR d cs (alM I d) ns).length → dp r < (RR d cs (alM I d) ns).length) (hN : ∀ J, FrP I J → MS J ns d cs (alM I d) → allH d cs (alM I d) ns = false → qi Q (-1000004) (fndM J) sp pl) (hO : ∀ K, MC I K ns d cs → allH d cs (alM I d) ns = true → qi Q (nI (cntP (fun r => isF (nxG (mayF d cs (fun s => I 108 s) (I 101 9) (RR d cs (alM I d) ns)) (RR d cs (alM I d) ns).length) r (RR d cs (alM I d) ns).length && anyN (fun r => decide (I 106 (rt0 (RR d cs (alM I d) ns) r).1 = 3)) (nxG (mayF d cs (fun s => I 108 s) (I 101 9) (RR d cs (alM I d) ns)) (RR d cs (alM I d) ns).length) (RR d cs (alM I d) ns).length (some r)) (RR d cs (alM I d) ns).length)) K sp pl) : aRuns mX12_aides (rK 6) [.ref 101] (nn pl) (MM I sp pl) Q := by
  refine aRuns_of pn_X12_aides (Nat.le_of_ble_eq_true rfl) (fun z => aE_loc (ls' := [_, _, _, _, _]) rfl ?_)
  refine aE_aload_n dX12_aides_0 rfl rfl ?_
  refine aE_cVq dX12_aides_1 lk_X12_243 mv_X12_plan (m_planS (Q := (fun (r : Option Value) (n' : Nat) (m' : aM) => r = none ∧ n' = nn pl ∧ ∃ J, m' = MM J sp pl ∧ FrP I J ∧ MS J ns d cs (alM I d))) ns nstr nc d cs fr to hW hst (fun J h1 h2 => ⟨rfl, rfl, J, rfl, h1, h2⟩)) rfl (lt_nn (by decide)) rfl rfl ⟨by decide, by decide⟩ (Nat.le_of_ble_eq_true rfl) ⟨rfl, rfl⟩ ⟨by decide, by decide⟩ ?_
  rintro r n' m' ⟨rfl, rfl, J, rfl, hJ, hM⟩
  have hha : J 101 43 = if allH d cs (alM I d) ns then 1 else 0 := hM.2.2.2.2.1.2.2.2.2
  have hll : J 101 42 = nI (RR d cs (alM I d) ns).length := hM.2.2.2.2.1.2.2.1.1
  have hl10 := hM.2.2.2.2.2.2.1
  refine aE_aload_n dX12_aides_4 rfl rfl ?_
  refine aE_geti dX12_aides_5 fw_X12_233 (lt_nn (by decide)) rfl (by decide) rfl ?_
  refine aE_top hha ?_
  refine aE_if_ne (tgt := 18) dX12_aides_8 (by decide) (fun h8 => ?_) (fun h8 => ?_)
  · skip
    refine aE_aload_n dX12_aides_18 rfl rfl ?_
    refine aE_cVq dX12_aides_19 lk_X12_271 mv_X12_findChains (m_findChains (Q := (fun (r : Option Value) (n' : Nat) (m' : aM) => r = none ∧ n' = nn pl ∧ ∃ K, m' = MM K sp pl ∧ MC I K ns d cs)) ns nstr nc d cs fr to (MW_fr hW hJ) (fun _ => (alM_fr (d := d) hJ).symm ▸ hM.2.2.2.2.1) (fun K h => ⟨rfl, rfl, K, rfl, MC_tr hJ h⟩)) rfl (lt_nn (by decide)) rfl rfl ⟨by decide, by decide⟩ (Nat.le_of_ble_eq_true rfl) ⟨rfl, rfl⟩ ⟨by decide, by decide⟩ ?_
    rintro r n' m' ⟨rfl, rfl, K, rfl, hC⟩
    have hCM := hC.2.2.1
    have hCl : K 101 42 = nI (RR d cs (alM I d) ns).length := hCM.2.2.2.2.1.2.2.1.1
    have hCn := hCM.2.2.2.2.2.2.1
    refine aE_iconst (v := 0) dX12_aides_22 rfl ?_
    refine aE_istore_n dX12_aides_23 rfl (by decide) rfl (aE_loc (ls' := [_, _, _, _, _]) rfl ?_)
    refine aE_iconst (v := 0) dX12_aides_24 rfl ?_
    refine aE_istore_n dX12_aides_25 rfl (by decide) rfl (aE_loc (ls' := [_, _, _, _, _]) rfl ?_)
    have hah := (Classical.byContradiction (fun q => by rw [if_neg q] at h8; exact h8 rfl))
    exact l_aides1 (RR d cs (alM I d) ns).length (nxG (mayF d cs (fun s => I 108 s) (I 101 9) (RR d cs (alM I d) ns)) (RR d cs (alM I d) ns).length) hCl hCn hC.2.2.2.2.1 dp hdp (fun r => decide (I 106 (rt0 (RR d cs (alM I d) ns) r).1 = 3)) (fun r => (rt0 (RR d cs (alM I d) ns) r).1) (fun r hr => by
      have hx := MS_rt (s := (rt0 (RR d cs (alM I d) ns) r).1) (S := (rt0 (RR d cs (alM I d) ns) r).2) hCM (rt0_ex hr)
      exact ⟨by have := hx.1; have := hCM.2.1; omega, hx.2.2.2.2.2.2.2.1, by rw [hC.1 106 _ (by omega) (by omega), decide_eq_true_eq]⟩) hdn (hO K hC hah) (RR d cs (alM I d) ns).length 0 (by omega) _ _
  · skip
    refine aE_aload_n dX12_aides_11 rfl rfl ?_
    refine aE_ldc dX12_aides_12 ct_X12_197 ?_
    refine aE_cVi dX12_aides_14 lk_X12_177 mv_X12_finds (c_finds _) rfl (lt_nn (by decide)) rfl rfl ⟨by decide, by decide⟩ (Nat.le_of_ble_eq_true rfl) ⟨rfl, rfl⟩ ⟨by decide, by decide⟩ ?_
    refine aE_iret dX12_aides_17 rfl ⟨by decide, by decide⟩ ?_
    exact hN J hJ hM (Bool.eq_false_iff.mpr (fun q => by rw [if_pos q] at h8; exact absurd (show (1 : Int32) = 0 by first | exact h8 | exact Classical.not_not.mp h8) (by decide)))

end MCH3
