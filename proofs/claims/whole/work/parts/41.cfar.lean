/-- the town's two tables: the outer array, the first row -/
def tbOK (tb bs : Nat) : Prop := (tb = 7 ∧ bs = 8) ∨ (tb = 16 ∧ bs = 17)
theorem tb_lt {tb bs : Nat} {pl : Bool} (h : tbOK tb bs) : tb < nn pl := by
  rcases h with ⟨rfl, rfl⟩ | ⟨rfl, rfl⟩ <;> exact lt_nn (by decide)
theorem sh_tb {tb bs : Nat} (h : tbOK tb bs) : a_sh tb = (105, 8) := by
  rcases h with ⟨rfl, rfl⟩ | ⟨rfl, rfl⟩ <;> rfl
theorem mm_tb {I : Nat → Nat → Int32} {sp : Nat → Nat} {pl : Bool} {tb bs j : Nat} (h : tbOK tb bs) (hj : j < 8) : MM I sp pl tb j = .ref (bs + j) := by
  rcases h with ⟨rfl, rfl⟩ | ⟨rfl, rfl⟩
  · exact mm_plain hj
  · exact mm_snowy hj
theorem trow_lt {tb bs j : Nat} {pl : Bool} (h : tbOK tb bs) (hj : j < 8) : bs + j < nn pl := by
  rcases h with ⟨rfl, rfl⟩ | ⟨rfl, rfl⟩ <;> exact lt_nn (by omega)
theorem sh_trow {tb bs j : Nat} (h : tbOK tb bs) (hj : j < 8) : a_sh (bs + j) = (100, 8) := by
  rcases h with ⟨rfl, rfl⟩ | ⟨rfl, rfl⟩
  · exact sh_plain hj
  · exact sh_snowy hj
/-- n rows of a table laid at bs -/
def putT (I : Nat → Nat → Int32) (bs n : Nat) (T : tT) : Nat → Nat → Int32 := fun q i => if bs ≤ q ∧ q < bs + n ∧ i < 8 then T (q - bs) i else I q i
theorem putT_o {I : Nat → Nat → Int32} {bs n q i : Nat} {T : tT} (h : q < bs ∨ bs + n ≤ q) : putT I bs n T q i = I q i := by
  unfold putT; rw [if_neg (by omega)]
theorem putT_at {I : Nat → Nat → Int32} {bs n a b : Nat} {T : tT} (ha : a < n) (hb : b < 8) : putT I bs n T (bs + a) b = T a b := by
  unfold putT; rw [if_pos (by omega), show bs + a - bs = a by omega]
theorem putT_set {I : Nat → Nat → Int32} {bs n a b : Nat} {T : tT} {x : Int32} (ha : a < n) (hb : b < 8) : iu (putT I bs n T) (bs + a) b x = putT I bs n (tset T a b x) := by
  funext q i
  unfold iu putT tset
  by_cases h : q = bs + a ∧ i = b
  · obtain ⟨rfl, rfl⟩ := h
    rw [if_pos ⟨rfl, rfl⟩, if_pos (by omega), if_pos ⟨by omega, rfl⟩]
  · rw [if_neg h]
    by_cases h2 : bs ≤ q ∧ q < bs + n ∧ i < 8
    · rw [if_pos h2, if_pos h2, if_neg (by omega)]
    · rw [if_neg h2, if_neg h2]
theorem putT_0 {I : Nat → Nat → Int32} {bs : Nat} {T : tT} : putT I bs 0 T = I := by
  funext q i; unfold putT; rw [if_neg (by omega)]
theorem putT_row {I : Nat → Nat → Int32} {bs k : Nat} (hk : k < 8) : iu (fillI (putT I bs k T0) (bs + k) 1000000 8) (bs + k) k 0 = putT I bs (k + 1) T0 := by
  rw [fillI_eq]
  funext q i
  unfold iu putT T0
  by_cases h : q = bs + k ∧ i = k
  · obtain ⟨rfl, rfl⟩ := h
    rw [if_pos ⟨rfl, rfl⟩, if_pos (by omega), if_pos (by omega)]
  · rw [if_neg h]
    dsimp only
    by_cases h2 : q = bs + k ∧ i < 8
    · rw [if_pos h2, if_pos (by omega), if_neg (by omega)]
    · rw [if_neg h2]
      by_cases h3 : bs ≤ q ∧ q < bs + k ∧ i < 8
      · rw [if_pos h3, if_pos (show bs ≤ q ∧ q < bs + (k + 1) ∧ i < 8 by omega)]
      · rw [if_neg h3, if_neg (by omega)]
section CFAR
variable {z : Nat × (Nat → Int32)} {n : Nat} {mem : aM} {I : Nat → Nat → Int32} {sp : Nat → Nat} {pl : Bool} {Q : Option Value → Nat → aM → Prop} {R : Room}
theorem l_meas1 {ls4 ls5 : Option Value} (tb bs nc : Nat) (snow : Int32) (htb : tbOK tb bs) (hnc : I 2 0 = nI nc) (h8 : nc ≤ 8) (k0 : aE z mX10_measure (rK 1) Q 30 [some (.ref 2), some (.ref tb), some (.int snow), some (.int (nI nc)), ls4, ls5] [] (nn pl) (MM (putT I bs nc T0) sp pl) 0 0) : ∀ (d k : Nat), k + d = nc → aE z mX10_measure (rK 1) Q 2 [some (.ref 2), some (.ref tb), some (.int snow), some (.int (nI k)), ls4, ls5] [] (nn pl) (MM (putT I bs k T0) sp pl) 0 0 := by
  intro d
  induction d with
  | zero =>
    intro k hk
    have hk : k = nc := by omega
    subst hk
    refine aE_iload_n dX10_measure_2 rfl rfl ?_
    refine aE_aload_n dX10_measure_3 rfl rfl ?_
    refine aE_geti dX10_measure_4 fw_X10_33 (lt_nn (by decide)) rfl (by decide) rfl ?_
    refine aE_icmp_ge (tgt := 30) dX10_measure_7 (by decide) (fun h7 => ?_) (fun h7 => absurd (by rw [(show putT I bs k T0 2 0 = nI k from (putT_o (by rcases htb with ⟨rfl, rfl⟩ | ⟨rfl, rfl⟩ <;> omega)).trans hnc)]; exact Int32.le_refl _) h7)
    exact k0
  | succ d ih =>
    intro k hk
    have hk8 : k < 8 := by omega
    refine aE_iload_n dX10_measure_2 rfl rfl ?_
    refine aE_aload_n dX10_measure_3 rfl rfl ?_
    refine aE_geti dX10_measure_4 fw_X10_33 (lt_nn (by decide)) rfl (by decide) rfl ?_
    refine aE_icmp_ge (tgt := 30) dX10_measure_7 (by decide) (fun h7 => absurd h7 (by rw [(show putT I bs k T0 2 0 = nI nc from (putT_o (by rcases htb with ⟨rfl, rfl⟩ | ⟨rfl, rfl⟩ <;> omega)).trans hnc)]; exact nI_ge (by omega) (by omega))) (fun h7 => ?_)
    refine aE_aload_n dX10_measure_10 rfl rfl ?_
    refine aE_iload_n dX10_measure_11 rfl rfl ?_
    refine aE_aald (t := 105) dX10_measure_12 (tb_lt htb) ⟨by decide, by decide⟩ (sh_tb htb) (by decide) rfl hk8 (mm_tb htb hk8) ?_
    refine aE_ldc dX10_measure_13 ct_X10_52 ?_
    refine aE_cSv dX10_measure_15 lk_X10_53 ms_J7_fill_53178 (c_fill (bs + k) 8 1000000 (trow_lt htb hk8) (sh_trow htb hk8) (by decide)) rfl rfl ⟨by decide, by decide⟩ (Nat.le_of_ble_eq_true rfl) ⟨rfl, rfl⟩ ⟨by decide, by decide⟩ ?_
    refine aE_aload_n dX10_measure_18 rfl rfl ?_
    refine aE_iload_n dX10_measure_19 rfl rfl ?_
    refine aE_aald (t := 105) dX10_measure_20 (tb_lt htb) ⟨by decide, by decide⟩ (sh_tb htb) (by decide) rfl hk8 (mm_tb htb hk8) ?_
    refine aE_iload_n dX10_measure_21 rfl rfl ?_
    refine aE_iconst (v := 0) dX10_measure_22 rfl ?_
    refine aE_istM dX10_measure_23 (trow_lt htb hk8) (sh_trow htb hk8) (by decide) rfl hk8 ?_
    refine aE_I (putT_row hk8) ?_
    refine aE_iinc dX10_measure_24 rfl (a_inc _) (by decide) rfl (aE_loc (ls' := [_, _, _, _, _, _]) rfl ?_)
    refine aE_goto (tgt := 2) dX10_measure_27 (by decide) ?_
    exact ih (k + 1) (by omega)
theorem l_meas2 {ls5 : Option Value} (tb bs nc : Nat) (snow : Int32) (htb : tbOK tb bs) (hnc : I 2 0 = nI nc) (h8 : nc ≤ 8) (ns : Nat) (fr to : Nat → Nat) (hns : I 2 1 = nI ns) (h14 : ns ≤ 14) (hst : ∀ s, s < ns → fr s < nc ∧ to s < nc ∧ I 3 s = nI (fr s) ∧ I 4 s = nI (to s)) (k0 : ∀ ls4, aE z mX10_measure (rK 1) Q 117 [some (.ref 2), some (.ref tb), some (.int snow), some (.int (nI ns)), ls4, ls5] [] (nn pl) (MM (putT I bs nc (stT fr to (I 5) (I 6) snow ns)) sp pl) 0 0) : ∀ (d k : Nat), k + d = ns → ∀ ls4, aE z mX10_measure (rK 1) Q 32 [some (.ref 2), some (.ref tb), some (.int snow), some (.int (nI k)), ls4, ls5] [] (nn pl) (MM (putT I bs nc (stT fr to (I 5) (I 6) snow k)) sp pl) 0 0 := by
  intro d
  induction d with
  | zero =>
    intro k hk ls4
    have hk : k = ns := by omega
    subst hk
    refine aE_iload_n dX10_measure_32 rfl rfl ?_
    refine aE_aload_n dX10_measure_33 rfl rfl ?_
    refine aE_geti dX10_measure_34 fw_X10_45 (lt_nn (by decide)) rfl (by decide) rfl ?_
    refine aE_icmp_ge (tgt := 117) dX10_measure_37 (by decide) (fun h37 => ?_) (fun h37 => absurd (by rw [show (putT I bs nc (stT fr to (I 5) (I 6) snow k)) 2 1 = nI k from (putT_o (by rcases htb with ⟨rfl, rfl⟩ | ⟨rfl, rfl⟩ <;> omega)).trans hns]; exact Int32.le_refl _) h37)
    exact k0 ls4
  | succ d ih =>
    intro k hk ls4
    obtain ⟨hf, ht, hk3, hk4⟩ := hst k (by omega)
    have hf8 : fr k < 8 := by omega
    have ht8 : to k < 8 := by omega
    obtain ⟨T, hT⟩ : ∃ T, stT fr to (I 5) (I 6) snow k = T := ⟨_, rfl⟩
    rw [hT]
    refine aE_iload_n dX10_measure_32 rfl rfl ?_
    refine aE_aload_n dX10_measure_33 rfl rfl ?_
    refine aE_geti dX10_measure_34 fw_X10_45 (lt_nn (by decide)) rfl (by decide) rfl ?_
    refine aE_icmp_ge (tgt := 117) dX10_measure_37 (by decide) (fun h37 => absurd h37 (by rw [show (putT I bs nc T) 2 1 = nI ns from (putT_o (by rcases htb with ⟨rfl, rfl⟩ | ⟨rfl, rfl⟩ <;> omega)).trans hns]; exact nI_ge (by omega) (by omega))) (fun h37 => ?_)
    refine aE_aload_n dX10_measure_40 rfl rfl ?_
    refine aE_getf (v := .ref 6) dX10_measure_41 fw_X10_21 (lt_nn (by decide)) rfl rfl ?_
    refine aE_iload_n dX10_measure_44 rfl rfl ?_
    refine aE_zldM dX10_measure_45 (lt_nn (by decide)) rfl (by decide) rfl (by omega) ?_
    refine aE_top (x' := I 6 k) (putT_o (by rcases htb with ⟨rfl, rfl⟩ | ⟨rfl, rfl⟩ <;> omega)) ?_
    refine aE_if_ne (tgt := 111) dX10_measure_46 (by decide) (fun h46 => ?_) (fun h46 => ?_)
    · skip
      refine aE_iinc dX10_measure_111 rfl (a_inc _) (by decide) rfl (aE_loc (ls' := [_, _, _, _, _, _]) rfl ?_)
      refine aE_goto (tgt := 32) dX10_measure_114 (by decide) ?_
      first
        | (refine aE_I (I' := putT I bs nc (stT fr to (I 5) (I 6) snow (k + 1))) (by simp only [stT]; rw [if_neg h46, hT]) ?_; exact ih (k + 1) (by omega) _)
        | (refine aE_I (I' := putT I bs nc (stT fr to (I 5) (I 6) snow (k + 1))) (by simp only [stT]; rw [if_pos (by first | exact h46 | exact Classical.not_not.mp h46), hT]; rfl) ?_; exact ih (k + 1) (by omega) _)
    · skip
      refine aE_aload_n dX10_measure_49 rfl rfl ?_
      refine aE_aload_n dX10_measure_50 rfl rfl ?_
      refine aE_getf (v := .ref 3) dX10_measure_51 fw_X10_9 (lt_nn (by decide)) rfl rfl ?_
      refine aE_iload_n dX10_measure_54 rfl rfl ?_
      refine aE_ildM dX10_measure_55 (lt_nn (by decide)) rfl (by decide) rfl (by omega) ?_
      refine aE_top (x' := nI (fr k)) ((putT_o (by rcases htb with ⟨rfl, rfl⟩ | ⟨rfl, rfl⟩ <;> omega)).trans hk3) ?_
      refine aE_aald (t := 105) dX10_measure_56 (tb_lt htb) ⟨by decide, by decide⟩ (sh_tb htb) (by decide) rfl hf8 (mm_tb htb hf8) ?_
      refine aE_aload_n dX10_measure_57 rfl rfl ?_
      refine aE_getf (v := .ref 4) dX10_measure_58 fw_X10_15 (lt_nn (by decide)) rfl rfl ?_
      refine aE_iload_n dX10_measure_61 rfl rfl ?_
      refine aE_ildM dX10_measure_62 (lt_nn (by decide)) rfl (by decide) rfl (by omega) ?_
      refine aE_top (x' := nI (to k)) ((putT_o (by rcases htb with ⟨rfl, rfl⟩ | ⟨rfl, rfl⟩ <;> omega)).trans hk4) ?_
      refine aE_ildM dX10_measure_63 (trow_lt htb hf8) (sh_trow htb hf8) (by decide) rfl ht8 ?_
      refine aE_top (x' := T (fr k) (to k)) (putT_at hf ht8) ?_
      refine aE_aload_n dX10_measure_64 rfl rfl ?_
      refine aE_getf (v := .ref 5) dX10_measure_65 fw_X10_18 (lt_nn (by decide)) rfl rfl ?_
      refine aE_iload_n dX10_measure_68 rfl rfl ?_
      refine aE_ildM dX10_measure_69 (lt_nn (by decide)) rfl (by decide) rfl (by omega) ?_
      refine aE_top (x' := I 5 k) (putT_o (by rcases htb with ⟨rfl, rfl⟩ | ⟨rfl, rfl⟩ <;> omega)) ?_
      refine aE_iload_n dX10_measure_70 rfl rfl ?_
      refine aE_iadd dX10_measure_71 ?_
      refine aE_min dX10_measure_72 mm_X10_59 ⟨by decide, by decide⟩ ⟨by decide, by decide⟩ (Nat.le_of_ble_eq_true rfl) ?_
      refine aE_top (x' := (mn (I 5 k + snow) (T (fr k) (to k)))) rfl ?_
      refine aE_istore dX10_measure_75 (by decide) rfl (aE_loc (ls' := [_, _, _, _, _, _]) rfl ?_)
      refine aE_aload_n dX10_measure_77 rfl rfl ?_
      refine aE_aload_n dX10_measure_78 rfl rfl ?_
      refine aE_getf (v := .ref 3) dX10_measure_79 fw_X10_9 (lt_nn (by decide)) rfl rfl ?_
      refine aE_iload_n dX10_measure_82 rfl rfl ?_
      refine aE_ildM dX10_measure_83 (lt_nn (by decide)) rfl (by decide) rfl (by omega) ?_
      refine aE_top (x' := nI (fr k)) ((putT_o (by rcases htb with ⟨rfl, rfl⟩ | ⟨rfl, rfl⟩ <;> omega)).trans hk3) ?_
      refine aE_aald (t := 105) dX10_measure_84 (tb_lt htb) ⟨by decide, by decide⟩ (sh_tb htb) (by decide) rfl hf8 (mm_tb htb hf8) ?_
      refine aE_aload_n dX10_measure_85 rfl rfl ?_
      refine aE_getf (v := .ref 4) dX10_measure_86 fw_X10_15 (lt_nn (by decide)) rfl rfl ?_
      refine aE_iload_n dX10_measure_89 rfl rfl ?_
      refine aE_ildM dX10_measure_90 (lt_nn (by decide)) rfl (by decide) rfl (by omega) ?_
      refine aE_top (x' := nI (to k)) ((putT_o (by rcases htb with ⟨rfl, rfl⟩ | ⟨rfl, rfl⟩ <;> omega)).trans hk4) ?_
      refine aE_iload dX10_measure_91 rfl ?_
      refine aE_istM dX10_measure_93 (trow_lt htb hf8) (sh_trow htb hf8) (by decide) rfl ht8 ?_
      refine aE_I (putT_set hf ht8) ?_
      refine aE_aload_n dX10_measure_94 rfl rfl ?_
      refine aE_aload_n dX10_measure_95 rfl rfl ?_
      refine aE_getf (v := .ref 4) dX10_measure_96 fw_X10_15 (lt_nn (by decide)) rfl rfl ?_
      refine aE_iload_n dX10_measure_99 rfl rfl ?_
      refine aE_ildM dX10_measure_100 (lt_nn (by decide)) rfl (by decide) rfl (by omega) ?_
      refine aE_top (x' := nI (to k)) ((putT_o (by rcases htb with ⟨rfl, rfl⟩ | ⟨rfl, rfl⟩ <;> omega)).trans hk4) ?_
      refine aE_aald (t := 105) dX10_measure_101 (tb_lt htb) ⟨by decide, by decide⟩ (sh_tb htb) (by decide) rfl ht8 (mm_tb htb ht8) ?_
      refine aE_aload_n dX10_measure_102 rfl rfl ?_
      refine aE_getf (v := .ref 3) dX10_measure_103 fw_X10_9 (lt_nn (by decide)) rfl rfl ?_
      refine aE_iload_n dX10_measure_106 rfl rfl ?_
      refine aE_ildM dX10_measure_107 (lt_nn (by decide)) rfl (by decide) rfl (by omega) ?_
      refine aE_top (x' := nI (fr k)) ((putT_o (by rcases htb with ⟨rfl, rfl⟩ | ⟨rfl, rfl⟩ <;> omega)).trans hk3) ?_
      refine aE_iload dX10_measure_108 rfl ?_
      refine aE_istM dX10_measure_110 (trow_lt htb ht8) (sh_trow htb ht8) (by decide) rfl hf8 ?_
      refine aE_I (putT_set ht hf8) ?_
      refine aE_iinc dX10_measure_111 rfl (a_inc _) (by decide) rfl (aE_loc (ls' := [_, _, _, _, _, _]) rfl ?_)
      refine aE_goto (tgt := 32) dX10_measure_114 (by decide) ?_
      first
        | (refine aE_I (I' := putT I bs nc (stT fr to (I 5) (I 6) snow (k + 1))) (by simp only [stT]; rw [if_neg h46, hT]) ?_; exact ih (k + 1) (by omega) _)
        | (refine aE_I (I' := putT I bs nc (stT fr to (I 5) (I 6) snow (k + 1))) (by simp only [stT]; rw [if_pos (by first | exact h46 | exact Classical.not_not.mp h46), hT]; rfl) ?_; exact ih (k + 1) (by omega) _)
theorem l_meas5 (tb bs nc m a : Nat) (snow : Int32) (T : tT) (htb : tbOK tb bs) (hnc : I 2 0 = nI nc) (h8 : nc ≤ 8) (hm : m < nc) (ha : a < nc) (k0 : aE z mX10_measure (rK 1) Q 187 [some (.ref 2), some (.ref tb), some (.int snow), some (.int (nI m)), some (.int (nI a)), some (.int (nI nc))] [] (nn pl) (MM (putT I bs nc (fwB T m a nc)) sp pl) 0 0) : ∀ (d k : Nat), k + d = nc → aE z mX10_measure (rK 1) Q 142 [some (.ref 2), some (.ref tb), some (.int snow), some (.int (nI m)), some (.int (nI a)), some (.int (nI k))] [] (nn pl) (MM (putT I bs nc (fwB T m a k)) sp pl) 0 0 := by
  intro d
  induction d with
  | zero =>
    intro k hk
    have hk : k = nc := by omega
    subst hk
    refine aE_iload dX10_measure_142 rfl ?_
    refine aE_aload_n dX10_measure_144 rfl rfl ?_
    refine aE_geti dX10_measure_145 fw_X10_33 (lt_nn (by decide)) rfl (by decide) rfl ?_
    refine aE_icmp_ge (tgt := 187) dX10_measure_148 (by decide) (fun h148 => ?_) (fun h148 => absurd (by rw [(show putT I bs k (fwB T m a k) 2 0 = nI k from (putT_o (by rcases htb with ⟨rfl, rfl⟩ | ⟨rfl, rfl⟩ <;> omega)).trans hnc)]; exact Int32.le_refl _) h148)
    exact k0
  | succ d ih =>
    intro k hk
    refine aE_iload dX10_measure_142 rfl ?_
    refine aE_aload_n dX10_measure_144 rfl rfl ?_
    refine aE_geti dX10_measure_145 fw_X10_33 (lt_nn (by decide)) rfl (by decide) rfl ?_
    refine aE_icmp_ge (tgt := 187) dX10_measure_148 (by decide) (fun h148 => absurd h148 (by rw [(show putT I bs nc (fwB T m a k) 2 0 = nI nc from (putT_o (by rcases htb with ⟨rfl, rfl⟩ | ⟨rfl, rfl⟩ <;> omega)).trans hnc)]; exact nI_ge (by omega) (by omega))) (fun h148 => ?_)
    refine aE_aload_n dX10_measure_151 rfl rfl ?_
    refine aE_iload dX10_measure_152 rfl ?_
    refine aE_aald (t := 105) dX10_measure_154 (tb_lt htb) ⟨by decide, by decide⟩ (sh_tb htb) (by decide) rfl (show a < 8 by omega) (mm_tb htb (show a < 8 by omega)) ?_
    refine aE_iload dX10_measure_155 rfl ?_
    refine aE_aload_n dX10_measure_157 rfl rfl ?_
    refine aE_iload dX10_measure_158 rfl ?_
    refine aE_aald (t := 105) dX10_measure_160 (tb_lt htb) ⟨by decide, by decide⟩ (sh_tb htb) (by decide) rfl (show a < 8 by omega) (mm_tb htb (show a < 8 by omega)) ?_
    refine aE_iload dX10_measure_161 rfl ?_
    refine aE_ildM dX10_measure_163 (trow_lt htb (show a < 8 by omega)) (sh_trow htb (show a < 8 by omega)) (by decide) rfl (show k < 8 by omega) ?_
    refine aE_top (x' := fwB T m a k a k) (putT_at (by omega) (by omega)) ?_
    refine aE_aload_n dX10_measure_164 rfl rfl ?_
    refine aE_iload dX10_measure_165 rfl ?_
    refine aE_aald (t := 105) dX10_measure_167 (tb_lt htb) ⟨by decide, by decide⟩ (sh_tb htb) (by decide) rfl (show a < 8 by omega) (mm_tb htb (show a < 8 by omega)) ?_
    refine aE_iload_n dX10_measure_168 rfl rfl ?_
    refine aE_ildM dX10_measure_169 (trow_lt htb (show a < 8 by omega)) (sh_trow htb (show a < 8 by omega)) (by decide) rfl (show m < 8 by omega) ?_
    refine aE_top (x' := fwB T m a k a m) (putT_at (by omega) (by omega)) ?_
    refine aE_aload_n dX10_measure_170 rfl rfl ?_
    refine aE_iload_n dX10_measure_171 rfl rfl ?_
    refine aE_aald (t := 105) dX10_measure_172 (tb_lt htb) ⟨by decide, by decide⟩ (sh_tb htb) (by decide) rfl (show m < 8 by omega) (mm_tb htb (show m < 8 by omega)) ?_
    refine aE_iload dX10_measure_173 rfl ?_
    refine aE_ildM dX10_measure_175 (trow_lt htb (show m < 8 by omega)) (sh_trow htb (show m < 8 by omega)) (by decide) rfl (show k < 8 by omega) ?_
    refine aE_top (x' := fwB T m a k m k) (putT_at (by omega) (by omega)) ?_
    refine aE_iadd dX10_measure_176 ?_
    refine aE_min dX10_measure_177 mm_X10_59 ⟨by decide, by decide⟩ ⟨by decide, by decide⟩ (Nat.le_of_ble_eq_true rfl) ?_
    refine aE_istM dX10_measure_180 (trow_lt htb (show a < 8 by omega)) (sh_trow htb (show a < 8 by omega)) (by decide) rfl (show k < 8 by omega) ?_
    refine aE_I (putT_set (by omega) (by omega)) ?_
    refine aE_iinc dX10_measure_181 rfl (a_inc _) (by decide) rfl (aE_loc (ls' := [_, _, _, _, _, _]) rfl ?_)
    refine aE_goto (tgt := 142) dX10_measure_184 (by decide) ?_
    exact ih (k + 1) (by omega)
theorem l_meas4 (tb bs nc m : Nat) (snow : Int32) (T : tT) (htb : tbOK tb bs) (hnc : I 2 0 = nI nc) (h8 : nc ≤ 8) (hm : m < nc) (k0 : ∀ ls5, aE z mX10_measure (rK 1) Q 193 [some (.ref 2), some (.ref tb), some (.int snow), some (.int (nI m)), some (.int (nI nc)), ls5] [] (nn pl) (MM (putT I bs nc (fwA T m nc nc)) sp pl) 0 0) : ∀ (d a : Nat), a + d = nc → ∀ ls5, aE z mX10_measure (rK 1) Q 130 [some (.ref 2), some (.ref tb), some (.int snow), some (.int (nI m)), some (.int (nI a)), ls5] [] (nn pl) (MM (putT I bs nc (fwA T m nc a)) sp pl) 0 0 := by
  intro d
  induction d with
  | zero =>
    intro a ha ls5
    have ha : a = nc := by omega
    subst ha
    refine aE_iload dX10_measure_130 rfl ?_
    refine aE_aload_n dX10_measure_132 rfl rfl ?_
    refine aE_geti dX10_measure_133 fw_X10_33 (lt_nn (by decide)) rfl (by decide) rfl ?_
    refine aE_icmp_ge (tgt := 193) dX10_measure_136 (by decide) (fun h136 => ?_) (fun h136 => absurd (by rw [(show putT I bs a (fwA T m a a) 2 0 = nI a from (putT_o (by rcases htb with ⟨rfl, rfl⟩ | ⟨rfl, rfl⟩ <;> omega)).trans hnc)]; exact Int32.le_refl _) h136)
    exact k0 ls5
  | succ d ih =>
    intro a ha ls5
    refine aE_iload dX10_measure_130 rfl ?_
    refine aE_aload_n dX10_measure_132 rfl rfl ?_
    refine aE_geti dX10_measure_133 fw_X10_33 (lt_nn (by decide)) rfl (by decide) rfl ?_
    refine aE_icmp_ge (tgt := 193) dX10_measure_136 (by decide) (fun h136 => absurd h136 (by rw [(show putT I bs nc (fwA T m nc a) 2 0 = nI nc from (putT_o (by rcases htb with ⟨rfl, rfl⟩ | ⟨rfl, rfl⟩ <;> omega)).trans hnc)]; exact nI_ge (by omega) (by omega))) (fun h136 => ?_)
    refine aE_iconst (v := 0) dX10_measure_139 rfl ?_
    refine aE_istore dX10_measure_140 (by decide) rfl (aE_loc (ls' := [_, _, _, _, _, _]) rfl ?_)
    refine l_meas5 tb bs nc m a snow (fwA T m nc a) htb hnc h8 hm (by omega) ?_ nc 0 (by omega)
    refine aE_iinc dX10_measure_187 rfl (a_inc _) (by decide) rfl (aE_loc (ls' := [_, _, _, _, _, _]) rfl ?_)
    refine aE_goto (tgt := 130) dX10_measure_190 (by decide) ?_
    exact ih (a + 1) (by omega) _
theorem l_meas3 (tb bs nc : Nat) (snow : Int32) (T : tT) (htb : tbOK tb bs) (hnc : I 2 0 = nI nc) (h8 : nc ≤ 8) (hQ : Q none (nn pl) (MM (putT I bs nc (fwM T nc nc)) sp pl)) : ∀ (d m : Nat), m + d = nc → ∀ ls4 ls5, aE z mX10_measure (rK 1) Q 119 [some (.ref 2), some (.ref tb), some (.int snow), some (.int (nI m)), ls4, ls5] [] (nn pl) (MM (putT I bs nc (fwM T nc m)) sp pl) 0 0 := by
  intro d
  induction d with
  | zero =>
    intro m hm ls4 ls5
    have hm : m = nc := by omega
    subst hm
    refine aE_iload_n dX10_measure_119 rfl rfl ?_
    refine aE_aload_n dX10_measure_120 rfl rfl ?_
    refine aE_geti dX10_measure_121 fw_X10_33 (lt_nn (by decide)) rfl (by decide) rfl ?_
    refine aE_icmp_ge (tgt := 199) dX10_measure_124 (by decide) (fun h124 => ?_) (fun h124 => absurd (by rw [(show putT I bs m (fwM T m m) 2 0 = nI m from (putT_o (by rcases htb with ⟨rfl, rfl⟩ | ⟨rfl, rfl⟩ <;> omega)).trans hnc)]; exact Int32.le_refl _) h124)
    refine aE_vret dX10_measure_199 rfl ⟨by decide, by decide⟩ ?_
    exact hQ
  | succ d ih =>
    intro m hm ls4 ls5
    refine aE_iload_n dX10_measure_119 rfl rfl ?_
    refine aE_aload_n dX10_measure_120 rfl rfl ?_
    refine aE_geti dX10_measure_121 fw_X10_33 (lt_nn (by decide)) rfl (by decide) rfl ?_
    refine aE_icmp_ge (tgt := 199) dX10_measure_124 (by decide) (fun h124 => absurd h124 (by rw [(show putT I bs nc (fwM T nc m) 2 0 = nI nc from (putT_o (by rcases htb with ⟨rfl, rfl⟩ | ⟨rfl, rfl⟩ <;> omega)).trans hnc)]; exact nI_ge (by omega) (by omega))) (fun h124 => ?_)
    refine aE_iconst (v := 0) dX10_measure_127 rfl ?_
    refine aE_istore dX10_measure_128 (by decide) rfl (aE_loc (ls' := [_, _, _, _, _, _]) rfl ?_)
    refine l_meas4 tb bs nc m snow (fwM T nc m) htb hnc h8 (by omega) (fun ls5 => ?_) nc 0 (by omega) _
    refine aE_iinc dX10_measure_193 rfl (a_inc _) (by decide) rfl (aE_loc (ls' := [_, _, _, _, _, _]) rfl ?_)
    refine aE_goto (tgt := 119) dX10_measure_196 (by decide) ?_
    exact ih (m + 1) (by omega) _ _
theorem c_measure (tb bs nc : Nat) (snow : Int32) (htb : tbOK tb bs) (hnc : I 2 0 = nI nc) (h8 : nc ≤ 8) (ns : Nat) (fr to : Nat → Nat) (hns : I 2 1 = nI ns) (h14 : ns ≤ 14) (hst : ∀ s, s < ns → fr s < nc ∧ to s < nc ∧ I 3 s = nI (fr s) ∧ I 4 s = nI (to s)) (hD : ∀ s, s < ns → fr s ≠ to s ∧ 0 ≤ (I 5 s + snow).toInt ∧ fr s < nc ∧ to s < nc) : aRuns mX10_measure (rK 1) [.ref 2, .ref tb, .int snow] (nn pl) (MM I sp pl) (a_rv (nn pl) (MM (putT I bs nc (dTab fr to (I 5) (I 6) snow ns)) sp pl)) := by
  refine aRuns_of pn_X10_measure (Nat.le_of_ble_eq_true rfl) (fun z => aE_loc (ls' := [_, _, _, _, _, _]) rfl ?_)
  refine aE_iconst (v := 0) dX10_measure_0 rfl ?_
  refine aE_istore_n dX10_measure_1 rfl (by decide) rfl (aE_loc (ls' := [_, _, _, _, _, _]) rfl ?_)
  refine aE_I (I' := putT I bs 0 T0) putT_0.symm ?_
  refine l_meas1 tb bs nc snow htb hnc h8 ?_ nc 0 (by omega)
  refine aE_iconst (v := 0) dX10_measure_30 rfl ?_
  refine aE_istore_n dX10_measure_31 rfl (by decide) rfl (aE_loc (ls' := [_, _, _, _, _, _]) rfl ?_)
  refine l_meas2 tb bs nc snow htb hnc h8 ns fr to hns h14 hst (fun ls4 => ?_) ns 0 (by omega) _
  refine aE_iconst (v := 0) dX10_measure_117 rfl ?_
  refine aE_istore_n dX10_measure_118 rfl (by decide) rfl (aE_loc (ls' := [_, _, _, _, _, _]) rfl ?_)
  refine l_meas3 tb bs nc snow (stT fr to (I 5) (I 6) snow ns) htb hnc h8 ?_ nc 0 (by omega) _ _
  rw [dTab_class h8 hD]
  exact ⟨rfl, rfl, rfl⟩
/-- the town with its plain table found -/
def tabI (I : Nat → Nat → Int32) (nc : Nat) (D : tT) : Nat → Nat → Int32 := if I 2 8 = 0 then iu (putT I 8 nc D) 2 8 1 else I
theorem tabI_o {I : Nat → Nat → Int32} {nc q i : Nat} {D : tT} (hn : nc ≤ 8) (h : (q < 8 ∨ 16 ≤ q) ∧ (q ≠ 2 ∨ i ≠ 8)) : tabI I nc D q i = I q i := by
  unfold tabI; split
  · rw [iu_ne h.2, putT_o (by omega)]
  · rfl
theorem tabI_at {I : Nat → Nat → Int32} {nc a b : Nat} {D : tT} (hm : ¬ I 2 8 = 0 → ∀ a b, a < nc → b < nc → I (8 + a) b = D a b) (ha : a < nc) (hb : b < nc) (h8 : nc ≤ 8) : tabI I nc D (8 + a) b = D a b := by
  unfold tabI; split
  · rw [iu_ne (by omega), putT_at ha (by omega)]
  · rename_i h; exact hm h a b ha hb
theorem c_table (nc : Nat) (hnc : I 2 0 = nI nc) (h8 : nc ≤ 8) (ns : Nat) (fr to : Nat → Nat) (hns : I 2 1 = nI ns) (h14 : ns ≤ 14) (hst : ∀ s, s < ns → fr s < nc ∧ to s < nc ∧ I 3 s = nI (fr s) ∧ I 4 s = nI (to s)) (hD : ∀ s, s < ns → fr s ≠ to s ∧ 0 ≤ (I 5 s + 0).toInt ∧ fr s < nc ∧ to s < nc) : aRuns mX10_table (rK 2) [.ref 2] (nn pl) (MM I sp pl) (a_rr 7 (nn pl) (MM (tabI I nc (dTab fr to (I 5) (I 6) 0 ns)) sp pl)) := by
  refine aRuns_of pn_X10_table (Nat.le_of_ble_eq_true rfl) (fun z => aE_loc (ls' := [_]) rfl ?_)
  unfold tabI
  refine aE_aload_n dX10_table_0 rfl rfl ?_
  refine aE_geti dX10_table_1 fw_X10_41 (lt_nn (by decide)) rfl (by decide) rfl ?_
  refine aE_if_ne (tgt := 21) dX10_table_4 (by decide) (fun h4 => ?_) (fun h4 => ?_)
  · skip
    rw [if_neg h4]
    refine aE_aload_n dX10_table_21 rfl rfl ?_
    refine aE_getf (v := .ref 7) dX10_table_22 fw_X10_27 (lt_nn (by decide)) rfl rfl ?_
    refine aE_aret dX10_table_25 rfl (by first | exact Or.inl ⟨_, rfl⟩ | exact Or.inr ⟨_, rfl⟩) ⟨by decide, by decide⟩ ?_
    exact ⟨rfl, rfl, rfl⟩
  · skip
    rw [if_pos h4]
    refine aE_aload_n dX10_table_7 rfl rfl ?_
    refine aE_aload_n dX10_table_8 rfl rfl ?_
    refine aE_getf (v := .ref 7) dX10_table_9 fw_X10_27 (lt_nn (by decide)) rfl rfl ?_
    refine aE_iconst (v := 0) dX10_table_12 rfl ?_
    refine aE_cVv dX10_table_13 lk_X10_48 mv_X10_measure (c_measure 7 8 nc 0 (Or.inl ⟨rfl, rfl⟩) hnc h8 ns fr to hns h14 hst hD) rfl (lt_nn (by decide)) rfl rfl ⟨by decide, by decide⟩ (Nat.le_of_ble_eq_true rfl) ⟨rfl, rfl⟩ ⟨by decide, by decide⟩ ?_
    refine aE_aload_n dX10_table_16 rfl rfl ?_
    refine aE_iconst (v := 1) dX10_table_17 rfl ?_
    refine aE_puti dX10_table_18 fp_X10_41 (Or.inl rfl) (lt_nn (by decide)) rfl (fun _ => a_narZ (by first | exact Or.inl rfl | exact Or.inr rfl | assumption)) (by decide) rfl ?_
    refine aE_aload_n dX10_table_21 rfl rfl ?_
    refine aE_getf (v := .ref 7) dX10_table_22 fw_X10_27 (lt_nn (by decide)) rfl rfl ?_
    refine aE_aret dX10_table_25 rfl (by first | exact Or.inl ⟨_, rfl⟩ | exact Or.inr ⟨_, rfl⟩) ⟨by decide, by decide⟩ ?_
    exact ⟨rfl, rfl, rfl⟩
theorem c_tableWith (nc : Nat) (snow : Int32) (hnc : I 2 0 = nI nc) (h8 : nc ≤ 8) (ns : Nat) (fr to : Nat → Nat) (hns : I 2 1 = nI ns) (h14 : ns ≤ 14) (hst : ∀ s, s < ns → fr s < nc ∧ to s < nc ∧ I 3 s = nI (fr s) ∧ I 4 s = nI (to s)) (hD : ∀ s, s < ns → fr s ≠ to s ∧ 0 ≤ (I 5 s + snow).toInt ∧ fr s < nc ∧ to s < nc) : aRuns mX10_tableWith (rK 2) [.ref 2, .int snow] (nn pl) (MM I sp pl) (a_rr 16 (nn pl) (MM (putT I 17 nc (dTab fr to (I 5) (I 6) snow ns)) sp pl)) := by
  refine aRuns_of pn_X10_tableWith (Nat.le_of_ble_eq_true rfl) (fun z => aE_loc (ls' := [_, _]) rfl ?_)
  refine aE_aload_n dX10_tableWith_0 rfl rfl ?_
  refine aE_aload_n dX10_tableWith_1 rfl rfl ?_
  refine aE_getf (v := .ref 16) dX10_tableWith_2 fw_X10_30 (lt_nn (by decide)) rfl rfl ?_
  refine aE_iload_n dX10_tableWith_5 rfl rfl ?_
  refine aE_cVv dX10_tableWith_6 lk_X10_48 mv_X10_measure (c_measure 16 17 nc snow (Or.inr ⟨rfl, rfl⟩) hnc h8 ns fr to hns h14 hst hD) rfl (lt_nn (by decide)) rfl rfl ⟨by decide, by decide⟩ (Nat.le_of_ble_eq_true rfl) ⟨rfl, rfl⟩ ⟨by decide, by decide⟩ ?_
  refine aE_aload_n dX10_tableWith_9 rfl rfl ?_
  refine aE_getf (v := .ref 16) dX10_tableWith_10 fw_X10_30 (lt_nn (by decide)) rfl rfl ?_
  refine aE_aret dX10_tableWith_13 rfl (by first | exact Or.inl ⟨_, rfl⟩ | exact Or.inr ⟨_, rfl⟩) ⟨by decide, by decide⟩ ?_
  exact ⟨rfl, rfl, rfl⟩
set_option maxRecDepth 20000 in
theorem c_far (a b : Int32) (nc : Nat) (hnc : I 2 0 = nI nc) (h8 : nc ≤ 8) (ns : Nat) (fr to : Nat → Nat) (hns : I 2 1 = nI ns) (h14 : ns ≤ 14) (hst : ∀ s, s < ns → fr s < nc ∧ to s < nc ∧ I 3 s = nI (fr s) ∧ I 4 s = nI (to s)) (hD : ∀ s, s < ns → fr s ≠ to s ∧ 0 ≤ (I 5 s + 0).toInt ∧ fr s < nc ∧ to s < nc) (hm : ¬ I 2 8 = 0 → ∀ a b, a < nc → b < nc → I (8 + a) b = dTab fr to (I 5) (I 6) 0 ns a b) (hB : (wi a 0 (I 2 0 - 1) = 0 ∨ wi b 0 (I 2 0 - 1) = 0) → qi Q (-1000001) (fnd I) sp pl) (hN : ∀ x y, x < nc → y < nc → a = nI x → b = nI y → ¬ dTab fr to (I 5) (I 6) 0 ns x y < 1000000 → qi Q (-1000004) (fnd (tabI I nc (dTab fr to (I 5) (I 6) 0 ns))) sp pl) (hO : ∀ x y, x < nc → y < nc → a = nI x → b = nI y → dTab fr to (I 5) (I 6) 0 ns x y < 1000000 → qi Q (dTab fr to (I 5) (I 6) 0 ns x y) (tabI I nc (dTab fr to (I 5) (I 6) 0 ns)) sp pl) : aRuns mX11_far (rK 3) [.ref 0, .int a, .int b] (nn pl) (MM I sp pl) (Q) := by
  refine aRuns_of pn_X11_far (Nat.le_of_ble_eq_true rfl) (fun z => aE_loc (ls' := [_, _, _, _]) rfl ?_)
  refine aE_aload_n dX11_far_0 rfl rfl ?_
  refine aE_getf (v := .ref 1) dX11_far_1 fw_X11_10 (lt_nn (by decide)) rfl rfl ?_
  refine aE_getf (v := .ref 2) dX11_far_4 fw_X11_51 (lt_nn (by decide)) rfl rfl ?_
  refine aE_iload_n dX11_far_7 rfl rfl ?_
  refine aE_cVi dX11_far_8 lk_X11_70 mv_X10_hasCorner (c_hasCorner _) rfl (lt_nn (by decide)) rfl rfl ⟨by decide, by decide⟩ (Nat.le_of_ble_eq_true rfl) ⟨rfl, rfl⟩ ⟨by decide, by decide⟩ ?_
  refine aE_if_eq (tgt := 28) dX11_far_11 (by decide) (fun h11 => ?_) (fun h11 => ?_)
  · skip
    refine aE_aload_n dX11_far_28 rfl rfl ?_
    refine aE_ldc dX11_far_29 ct_X11_78 ?_
    refine aE_cVi dX11_far_31 lk_X11_62 mv_X11_found (c_found _) rfl (lt_nn (by decide)) rfl rfl ⟨by decide, by decide⟩ (Nat.le_of_ble_eq_true rfl) ⟨rfl, rfl⟩ ⟨by decide, by decide⟩ ?_
    refine aE_iret dX11_far_34 rfl ⟨by decide, by decide⟩ ?_
    refine hB ?_
    first | exact Or.inl ‹_› | exact Or.inr ‹_›
  · skip
    refine aE_aload_n dX11_far_14 rfl rfl ?_
    refine aE_getf (v := .ref 1) dX11_far_15 fw_X11_10 (lt_nn (by decide)) rfl rfl ?_
    refine aE_getf (v := .ref 2) dX11_far_18 fw_X11_51 (lt_nn (by decide)) rfl rfl ?_
    refine aE_iload_n dX11_far_21 rfl rfl ?_
    refine aE_cVi dX11_far_22 lk_X11_70 mv_X10_hasCorner (c_hasCorner _) rfl (lt_nn (by decide)) rfl rfl ⟨by decide, by decide⟩ (Nat.le_of_ble_eq_true rfl) ⟨rfl, rfl⟩ ⟨by decide, by decide⟩ ?_
    refine aE_if_ne (tgt := 35) dX11_far_25 (by decide) (fun h25 => ?_) (fun h25 => ?_)
    · skip
      obtain ⟨x, hx, rfl⟩ := wi_ix (by omega) (hnc ▸ h11)
      obtain ⟨y, hy, rfl⟩ := wi_ix (by omega) (hnc ▸ h25)
      refine aE_aload_n dX11_far_35 rfl rfl ?_
      refine aE_getf (v := .ref 1) dX11_far_36 fw_X11_10 (lt_nn (by decide)) rfl rfl ?_
      refine aE_getf (v := .ref 2) dX11_far_39 fw_X11_51 (lt_nn (by decide)) rfl rfl ?_
      refine aE_cVr dX11_far_42 lk_X11_93 mv_X10_table (c_table nc hnc h8 ns fr to hns h14 hst hD) rfl (lt_nn (by decide)) rfl rfl ⟨by decide, by decide⟩ (Nat.le_of_ble_eq_true rfl) ⟨rfl, rfl⟩ ⟨by decide, by decide⟩ ?_
      refine aE_iload_n dX11_far_45 rfl rfl ?_
      refine aE_aald (t := 105) dX11_far_46 (lt_nn (by decide)) ⟨by decide, by decide⟩ rfl (by decide) rfl (show x < 8 by omega) (mm_plain (show x < 8 by omega)) ?_
      refine aE_iload_n dX11_far_47 rfl rfl ?_
      refine aE_ildM dX11_far_48 (lt_nn (by omega)) (sh_plain (show x < 8 by omega)) (by decide) rfl (show y < 8 by omega) ?_
      refine aE_top (x' := dTab fr to (I 5) (I 6) 0 ns x y) (tabI_at hm hx hy h8) ?_
      refine aE_istore_n dX11_far_49 rfl (by decide) rfl (aE_loc (ls' := [_, _, _, _]) rfl ?_)
      refine aE_iload_n dX11_far_50 rfl rfl ?_
      refine aE_ldc dX11_far_51 ct_X11_97 ?_
      refine aE_icmp_lt (tgt := 65) dX11_far_53 (by decide) (fun h53 => ?_) (fun h53 => ?_)
      · skip
        refine aE_iload_n dX11_far_65 rfl rfl ?_
        refine aE_iret dX11_far_66 rfl ⟨by decide, by decide⟩ ?_
        first | exact hN x y hx hy rfl rfl h53 | exact hO x y hx hy rfl rfl h53
      · skip
        refine aE_aload_n dX11_far_56 rfl rfl ?_
        refine aE_ldc dX11_far_57 ct_X11_98 ?_
        refine aE_cVi dX11_far_59 lk_X11_62 mv_X11_found (c_found _) rfl (lt_nn (by decide)) rfl rfl ⟨by decide, by decide⟩ (Nat.le_of_ble_eq_true rfl) ⟨rfl, rfl⟩ ⟨by decide, by decide⟩ ?_
        refine aE_goto (tgt := 66) dX11_far_62 (by decide) ?_
        refine aE_iret dX11_far_66 rfl ⟨by decide, by decide⟩ ?_
        first | exact hN x y hx hy rfl rfl h53 | exact hO x y hx hy rfl rfl h53
    · skip
      refine aE_aload_n dX11_far_28 rfl rfl ?_
      refine aE_ldc dX11_far_29 ct_X11_78 ?_
      refine aE_cVi dX11_far_31 lk_X11_62 mv_X11_found (c_found _) rfl (lt_nn (by decide)) rfl rfl ⟨by decide, by decide⟩ (Nat.le_of_ble_eq_true rfl) ⟨rfl, rfl⟩ ⟨by decide, by decide⟩ ?_
      refine aE_iret dX11_far_34 rfl ⟨by decide, by decide⟩ ?_
      refine hB ?_
      first | exact Or.inl ‹_› | exact Or.inr ‹_›

end CFAR
