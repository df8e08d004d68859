section CB4
variable {z : Nat × (Nat → Int32)} {y : aY} {R : Room} {Q : Option Value → Nat → aM → Prop} {pc : Nat} {ls : List (Option Value)} {st : List Value} {n : Nat} {k1 k2 : Nat} {I : Nat → Nat → Int32} {sp : Nat → Nat} {pl : Bool}
def spu (sp : Nat → Nat) (j r : Nat) : Nat → Nat := fun i => if i = j then r else sp i
theorem mm_ups {j r : Nat} : a_up (MM I sp pl) 27 j (.ref r) = MM I (spu sp j r) pl := by
  funext q i
  unfold a_up MM
  by_cases hq : q = 27
  · subst hq
    by_cases hi : i = j
    · subst hi; simp [spu]
    · simp [spu, hi]
  · simp [hq]
theorem aE_astS {j r : Nat} {i : Int32} (hd : decode y.2.2.1 pc = .ok (.aastore, 1)) (hr : 44 ≤ r ∧ r < 54) (hi : i = nI j) (hj : j < 10) (k : aE z y R Q (pc + 1) ls st (nn pl) (MM I (spu sp j r) pl) k1 k2) : aE z y R Q pc ls (.ref r :: .int i :: .ref 27 :: st) (nn pl) (MM I sp pl) k1 k2 :=
  aE_aast (t := 3) (ci := 9) hd (lt_nn (by decide)) (lt_nn (by omega)) (Or.inr (Or.inl ⟨rfl, rfl⟩)) rfl (sh_stop hr) (T := TX9) ⟨rfl, by decide⟩ (by decide) hi hj (aE_mem mm_ups k)
/-- the stops from t on, up to k, moved down by one -/
def rs (sp : Nat → Nat) (t k : Nat) : Nat → Nat := fun i => if t ≤ i ∧ i < k then sp (i + 1) else sp i
theorem rs_0 (sp : Nat → Nat) (t : Nat) : rs sp t t = sp := by
  funext i; unfold rs; rw [if_neg (by omega)]
theorem rs_s (sp : Nat → Nat) {t k : Nat} (h : t ≤ k) : spu (rs sp t k) k (sp (k + 1)) = rs sp t (k + 1) := by
  funext i
  unfold spu rs
  by_cases hi : i = k
  · subst hi; rw [if_pos rfl, if_pos (by omega)]
  · rw [if_neg hi]
    by_cases h2 : t ≤ i ∧ i < k
    · rw [if_pos h2, if_pos (by omega)]
    · rw [if_neg h2, if_neg (by omega)]
theorem rs_at (sp : Nat → Nat) {t k : Nat} : rs sp t k (k + 1) = sp (k + 1) := by
  unfold rs; rw [if_neg (by omega)]
theorem l_removeStop (t nst t' : Nat) (hn : I 1 5 = nI nst) (ht : t < nst) (h10 : nst ≤ 10) (ht' : nst = t' + 1) (hsp : ∀ k, k < 10 → 44 ≤ sp k ∧ sp k < 54) (hQ : Q none (nn pl) (MM (iu I 1 5 (nI t')) (spu (rs sp t t') t' (sp t)) pl)) : ∀ (m k : Nat), t ≤ k → k + m = t' → aE z mX0_removeStop (rK 0) Q 9 [some (.ref 1), some (.int (nI t)), some (.ref (sp t)), some (.int (nI k))] [] (nn pl) (MM I (rs sp t k) pl) 0 0 := by
  intro m
  induction m with
  | zero =>
    intro k hk hkm
    refine aE_iload_n dX0_removeStop_9 rfl rfl ?_
    refine aE_iconst (v := 1) dX0_removeStop_10 rfl ?_
    refine aE_iadd dX0_removeStop_11 ?_
    refine aE_aload_n dX0_removeStop_12 rfl rfl ?_
    refine aE_geti dX0_removeStop_13 fw_X0_50 (lt_nn (by decide)) rfl (by decide) rfl ?_
    refine aE_icmp_ge (tgt := 39) dX0_removeStop_16 (by decide) (fun h16 => ?_) (fun h16 => absurd (by rw [hn, nI_1]; exact nI_le (by omega) (by omega)) h16)
    refine aE_aload_n dX0_removeStop_39 rfl rfl ?_
    refine aE_dup dX0_removeStop_40 rfl ?_
    refine aE_geti dX0_removeStop_41 fw_X0_50 (lt_nn (by decide)) rfl (by decide) rfl ?_
    refine aE_iconst (v := 1) dX0_removeStop_44 rfl ?_
    refine aE_isub dX0_removeStop_45 ?_
    refine aE_puti dX0_removeStop_46 fp_X0_50 (Or.inl rfl) (lt_nn (by decide)) rfl (fun _ => ⟨rfl, rfl⟩) (by decide) rfl ?_
    refine aE_I (I' := iu I 1 5 (nI t')) (by rw [hn, show nst = t' + 1 by omega, nI_pred]) ?_
    refine aE_aload_n dX0_removeStop_49 rfl rfl ?_
    refine aE_getf (v := .ref 27) dX0_removeStop_50 fw_X0_30 (lt_nn (by decide)) rfl rfl ?_
    refine aE_aload_n dX0_removeStop_53 rfl rfl ?_
    refine aE_geti dX0_removeStop_54 fw_X0_50 (lt_nn (by decide)) rfl (by decide) rfl ?_
    refine aE_aload_n dX0_removeStop_57 rfl rfl ?_
    refine aE_astS dX0_removeStop_58 (hsp t (by omega)) rfl (by omega) ?_
    refine aE_vret dX0_removeStop_59 rfl ⟨by decide, by decide⟩ ?_
    rw [show k = t' by omega]; exact hQ
  | succ m ih =>
    intro k hk hkm
    refine aE_iload_n dX0_removeStop_9 rfl rfl ?_
    refine aE_iconst (v := 1) dX0_removeStop_10 rfl ?_
    refine aE_iadd dX0_removeStop_11 ?_
    refine aE_aload_n dX0_removeStop_12 rfl rfl ?_
    refine aE_geti dX0_removeStop_13 fw_X0_50 (lt_nn (by decide)) rfl (by decide) rfl ?_
    refine aE_icmp_ge (tgt := 39) dX0_removeStop_16 (by decide) (fun h16 => absurd h16 (by rw [hn, nI_1]; exact nI_ge (by omega) (by omega))) (fun h16 => ?_)
    refine aE_aload_n dX0_removeStop_19 rfl rfl ?_
    refine aE_getf (v := .ref 27) dX0_removeStop_20 fw_X0_30 (lt_nn (by decide)) rfl rfl ?_
    refine aE_iload_n dX0_removeStop_23 rfl rfl ?_
    refine aE_aload_n dX0_removeStop_24 rfl rfl ?_
    refine aE_getf (v := .ref 27) dX0_removeStop_25 fw_X0_30 (lt_nn (by decide)) rfl rfl ?_
    refine aE_iload_n dX0_removeStop_28 rfl rfl ?_
    refine aE_iconst (v := 1) dX0_removeStop_29 rfl ?_
    refine aE_iadd dX0_removeStop_30 ?_
    refine aE_top (nI_1 k) ?_
    refine aE_aald (t := 103) dX0_removeStop_31 (lt_nn (by decide)) ⟨by decide, by decide⟩ rfl (by decide) rfl (show k + 1 < 10 by omega) mm_stop ?_
    rw [rs_at]
    refine aE_astS dX0_removeStop_32 (hsp (k + 1) (by omega)) rfl (show k < 10 by omega) ?_
    rw [rs_s sp hk]
    refine aE_iinc dX0_removeStop_33 rfl (a_inc _) (by decide) rfl (aE_loc (ls' := [_, _, _, _]) rfl ?_)
    refine aE_goto (tgt := 9) dX0_removeStop_36 (by decide) ?_
    exact ih (k + 1) (by omega) (by omega)
theorem c_removeStop (t nst t' : Nat) (hn : I 1 5 = nI nst) (ht : t < nst) (h10 : nst ≤ 10) (ht' : nst = t' + 1) (hsp : ∀ k, k < 10 → 44 ≤ sp k ∧ sp k < 54) : aRuns mX0_removeStop (rK 0) [.ref 1, .int (nI t)] (nn pl) (MM I sp pl) (a_rv (nn pl) (MM (iu I 1 5 (nI t')) (spu (rs sp t t') t' (sp t)) pl)) := by
  refine aRuns_of pn_X0_removeStop (Nat.le_of_ble_eq_true rfl) (fun z => aE_loc (ls' := [_, _, _, _]) rfl ?_)
  refine aE_aload_n dX0_removeStop_0 rfl rfl ?_
  refine aE_getf (v := .ref 27) dX0_removeStop_1 fw_X0_30 (lt_nn (by decide)) rfl rfl ?_
  refine aE_iload_n dX0_removeStop_4 rfl rfl ?_
  refine aE_aald (t := 103) dX0_removeStop_5 (lt_nn (by decide)) ⟨by decide, by decide⟩ rfl (by decide) rfl (show t < 10 by omega) mm_stop ?_
  refine aE_astore_n dX0_removeStop_6 rfl (by decide) rfl (aE_loc (ls' := [_, _, _, _]) rfl ?_)
  refine aE_iload_n dX0_removeStop_7 rfl rfl ?_
  refine aE_istore_n dX0_removeStop_8 rfl (by decide) rfl (aE_loc (ls' := [_, _, _, _]) rfl ?_)
  refine aE_mem (mem' := MM I (rs sp t t) pl) (by rw [rs_0]) ?_
  exact l_removeStop t nst t' hn ht h10 ht' hsp ⟨rfl, rfl, rfl⟩ (t' - t) t (by omega) (by omega)
set_option maxRecDepth 20000 in
theorem c_gone (v : Int32) (nst : Nat) (hn : I 1 5 = nI nst) (h10 : nst ≤ 10) (hsp : ∀ k, k < 10 → 44 ≤ sp k ∧ sp k < 54) (hB : wi v 0 (I 1 5 - 1) = 0 → qi Q (-1000001) (fnd I) sp pl) (hO : ∀ t t', t < nst → v = nI t → nst = t' + 1 → qi Q (nI t') (iu (fall I) 1 5 (nI t')) (spu (rs sp t t') t' (sp t)) pl) : aRuns mX11_gone (rK 2) [.ref 0, .int v] (nn pl) (MM I sp pl) (Q) := by
  refine aRuns_of pn_X11_gone (Nat.le_of_ble_eq_true rfl) (fun z => aE_loc (ls' := [_, _]) rfl ?_)
  refine aE_aload_n dX11_gone_0 rfl rfl ?_
  refine aE_getf (v := .ref 1) dX11_gone_1 fw_X11_10 (lt_nn (by decide)) rfl rfl ?_
  refine aE_iload_n dX11_gone_4 rfl rfl ?_
  refine aE_cVi dX11_gone_5 lk_X11_156 mv_X0_hasStop (c_hasStop _) rfl (lt_nn (by decide)) rfl rfl ⟨by decide, by decide⟩ (Nat.le_of_ble_eq_true rfl) ⟨rfl, rfl⟩ ⟨by decide, by decide⟩ ?_
  refine aE_if_ne (tgt := 18) dX11_gone_8 (by decide) (fun h8 => ?_) (fun h8 => ?_)
  · skip
    obtain ⟨t, ht, rfl⟩ := wi_ix (by omega) (hn ▸ h8)
    obtain ⟨t', ht'⟩ : ∃ t', nst = t' + 1 := ⟨nst - 1, by omega⟩
    refine aE_aload_n dX11_gone_18 rfl rfl ?_
    refine aE_cVv dX11_gone_19 lk_X11_82 mv_X11_plansFall (c_plansFall ) rfl (lt_nn (by decide)) rfl rfl ⟨by decide, by decide⟩ (Nat.le_of_ble_eq_true rfl) ⟨rfl, rfl⟩ ⟨by decide, by decide⟩ ?_
    refine aE_aload_n dX11_gone_22 rfl rfl ?_
    refine aE_getf (v := .ref 1) dX11_gone_23 fw_X11_10 (lt_nn (by decide)) rfl rfl ?_
    refine aE_iload_n dX11_gone_26 rfl rfl ?_
    refine aE_cVv dX11_gone_27 lk_X11_168 mv_X0_removeStop (c_removeStop (I := fall I) t nst t' hn ht h10 ht' hsp) rfl (lt_nn (by decide)) rfl rfl ⟨by decide, by decide⟩ (Nat.le_of_ble_eq_true rfl) ⟨rfl, rfl⟩ ⟨by decide, by decide⟩ ?_
    refine aE_aload_n dX11_gone_30 rfl rfl ?_
    refine aE_getf (v := .ref 1) dX11_gone_31 fw_X11_10 (lt_nn (by decide)) rfl rfl ?_
    refine aE_geti dX11_gone_34 fw_X11_149 (lt_nn (by decide)) rfl (by decide) rfl ?_
    refine aE_iret dX11_gone_37 rfl ⟨by decide, by decide⟩ ?_
    exact hO t t' ht rfl ht'
  · skip
    refine aE_aload_n dX11_gone_11 rfl rfl ?_
    refine aE_ldc dX11_gone_12 ct_X11_78 ?_
    refine aE_cVi dX11_gone_14 lk_X11_62 mv_X11_found (c_found _) rfl (lt_nn (by decide)) rfl rfl ⟨by decide, by decide⟩ (Nat.le_of_ble_eq_true rfl) ⟨rfl, rfl⟩ ⟨by decide, by decide⟩ ?_
    refine aE_iret dX11_gone_17 rfl ⟨by decide, by decide⟩ ?_
    exact hB h8

end CB4
