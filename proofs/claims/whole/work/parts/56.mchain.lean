/-- rows of most that are found: those behind a, and the first T of a's -/
def DPI (K0 : Nat → Nat → Int32) (f : Nat → Nat → Bool) (n a T : Nat) (K : Nat → Nat → Int32) : Prop := (∀ q i, q ≠ 134 → K q i = K0 q i) ∧ (∀ a', a < a' → a' ≤ n → ∀ S, S < 2 ^ n → K 134 (1024 * a' + S) = nI (mxF f n (n - a') S)) ∧ ∀ S, S < T → K 134 (1024 * a + S) = nI (mxF f n (n - a) S)
/-- followers of the first k routes are found -/
def GRI (K0 : Nat → Nat → Int32) (f : Nat → Nat → Bool) (n k : Nat) (K : Nat → Nat → Int32) : Prop := (∀ q i, q ≠ 135 → K q i = K0 q i) ∧ ∀ a, a < k → K 135 a = rv (nxG f n a)
section MCH
variable {z : Nat × (Nat → Int32)} {n : Nat} {mem : aM} {I : Nat → Nat → Int32} {sp : Nat → Nat} {pl : Bool} {Q : Option Value → Nat → aM → Prop} {R : Room}
theorem l_ch1 (n : Nat) (hn : I 101 42 = nI n) (h10 : n ≤ 10) (l2 l3 l4 l5 : Option Value) (k0 : aE z mX12_findChains (rK 5) Q 43 [some (.ref 101), some (.int (nI 1024)), l2, l3, l4, l5] [] (nn pl) (MM (zrI I 134 (1024 * n) 1024) sp pl) 0 0) : ∀ (e k : Nat), k + e = 1024 → aE z mX12_findChains (rK 5) Q 14 [some (.ref 101), some (.int (nI k)), l2, l3, l4, l5] [] (nn pl) (MM (zrI I 134 (1024 * n) k) sp pl) 0 0 := by
  intro e
  induction e with
  | zero =>
    intro k hk
    have hk : k = 1024 := by omega
    subst hk
    refine aE_iload_n dX12_findChains_14 rfl rfl ?_
    refine aE_sipush (v := 1024) dX12_findChains_15 (by decide) ?_
    refine aE_icmp_ge (tgt := 43) dX12_findChains_18 (by decide) (fun h18 => ?_) (fun h18 => absurd (Int32.le_refl _) h18)
    exact k0
  | succ e ih =>
    intro k hk
    refine aE_iload_n dX12_findChains_14 rfl rfl ?_
    refine aE_sipush (v := 1024) dX12_findChains_15 (by decide) ?_
    refine aE_icmp_ge (tgt := 43) dX12_findChains_18 (by decide) (fun h18 => absurd h18 (nI_ge (b := 1024) (by omega) (by omega))) (fun h18 => ?_)
    refine aE_aload_n dX12_findChains_21 rfl rfl ?_
    refine aE_getf (v := .ref 134) dX12_findChains_22 fw_X12_114 (lt_nn (by decide)) rfl rfl ?_
    refine aE_sipush (v := 1024) dX12_findChains_25 (by decide) ?_
    refine aE_aload_n dX12_findChains_28 rfl rfl ?_
    refine aE_geti dX12_findChains_29 fw_X12_230 (lt_nn (by decide)) rfl (by decide) rfl ?_
    refine aE_top (x' := nI n) ((zrI_o (by decide)).trans hn) ?_
    refine aE_imul dX12_findChains_32 ?_
    refine aE_top (x' := nI (1024 * n)) (by rw [show (1024 : Int32) = nI 1024 from rfl, pk_mul]) ?_
    refine aE_iload_n dX12_findChains_33 rfl rfl ?_
    refine aE_iadd dX12_findChains_34 ?_
    refine aE_top (nI_add _ _) ?_
    refine aE_iconst (v := 0) dX12_findChains_35 rfl ?_
    refine aE_istM dX12_findChains_36 (lt_nn (by decide)) rfl (by decide) rfl (by omega) ?_
    refine aE_I (zrI_s _ _ _ _) ?_
    refine aE_iinc dX12_findChains_37 rfl (a_inc _) (by decide) rfl (aE_loc (ls' := [_, _, _, _, _, _]) rfl ?_)
    refine aE_goto (tgt := 14) dX12_findChains_40 (by decide) ?_
    exact ih (k + 1) (by omega)
theorem l_ch4 (f : Nat → Nat → Bool) (n a e0 S : Nat) (hn : I 101 42 = nI n) (h10 : n ≤ 10) (ha : a + (e0 + 1) = n) (hmay : I 133 a = nI (setB (f a) n)) (hrow : ∀ S, S < 2 ^ n → I 134 (1024 * (a + 1) + S) = nI (mxF f n e0 S)) (hS : S < 2 ^ n) (hS2 : 2 ^ n ≤ 1024) (k0 : ∀ l5, aE z mX12_findChains (rK 5) Q 161 [some (.ref 101), some (.int (nI a)), some (.int (nI S)), some (.int (nI (mxB (fun b => f a b && !S.testBit b) (fun b => 1 + mxF f n e0 (S ||| 2 ^ b)) (mxF f n e0 S) n))), some (.int (nI n)), l5] [] (nn pl) (MM I sp pl) 0 0) : ∀ (e b : Nat), b + e = n → ∀ l5, aE z mX12_findChains (rK 5) Q 84 [some (.ref 101), some (.int (nI a)), some (.int (nI S)), some (.int (nI (mxB (fun b => f a b && !S.testBit b) (fun b => 1 + mxF f n e0 (S ||| 2 ^ b)) (mxF f n e0 S) b))), some (.int (nI b)), l5] [] (nn pl) (MM I sp pl) 0 0 := by
  intro e
  induction e with
  | zero =>
    intro b hb l5
    have hb : b = n := by omega
    subst hb
    refine aE_iload dX12_findChains_84 rfl ?_
    refine aE_aload_n dX12_findChains_86 rfl rfl ?_
    refine aE_geti dX12_findChains_87 fw_X12_230 (lt_nn (by decide)) rfl (by decide) rfl ?_
    refine aE_icmp_ge (tgt := 161) dX12_findChains_90 (by decide) (fun h90 => ?_) (fun h90 => absurd (by rw [hn]; exact Int32.le_refl _) h90)
    exact k0 _
  | succ e ih =>
    intro b hb l5
    have hbn : b < n := by omega
    have ih2 := ih (b + 1) (by omega)
    have hmb : (setB (f a) n).testBit b = f a b := by rw [setB_tb]; simp [hbn]
    have hsl := setB_lt (f a) n
    have hor : S ||| 2 ^ b < 2 ^ n := Nat.or_lt_two_pow hS (Nat.pow_lt_pow_right (by decide) hbn)
    have hwb := mxF_le f n e0 (S ||| 2 ^ b)
    have hv0 : (mxB (fun b => f a b && !S.testBit b) (fun b => 1 + mxF f n e0 (S ||| 2 ^ b)) (mxF f n e0 S) b) ≤ e0 + 1 := mxB_le (by have := mxF_le f n e0 S; omega) b (fun b _ _ => by have := mxF_le f n e0 (S ||| 2 ^ b); omega)
    rw [mxB_s] at ih2
    have no : ¬ (f a b && !S.testBit b) = true → ∀ l5, aE z mX12_findChains (rK 5) Q 155 [some (.ref 101), some (.int (nI a)), some (.int (nI S)), some (.int (nI (mxB (fun b => f a b && !S.testBit b) (fun b => 1 + mxF f n e0 (S ||| 2 ^ b)) (mxF f n e0 S) b))), some (.int (nI b)), l5] [] (nn pl) (MM I sp pl) 0 0 := by
      intro q l5
      rw [if_neg q] at ih2
      refine aE_iinc dX12_findChains_155 rfl (a_inc _) (by decide) rfl (aE_loc (ls' := [_, _, _, _, _, _]) rfl ?_)
      refine aE_goto (tgt := 84) dX12_findChains_158 (by decide) ?_
      exact ih2 _
    have yes : (f a b && !S.testBit b) = true → ∀ l5, aE z mX12_findChains (rK 5) Q 155 [some (.ref 101), some (.int (nI a)), some (.int (nI S)), some (.int (nI (max ((fun b => 1 + mxF f n e0 (S ||| 2 ^ b)) b) (mxB (fun b => f a b && !S.testBit b) (fun b => 1 + mxF f n e0 (S ||| 2 ^ b)) (mxF f n e0 S) b)))), some (.int (nI b)), l5] [] (nn pl) (MM I sp pl) 0 0 := by
      intro q l5
      rw [if_pos q] at ih2
      refine aE_iinc dX12_findChains_155 rfl (a_inc _) (by decide) rfl (aE_loc (ls' := [_, _, _, _, _, _]) rfl ?_)
      refine aE_goto (tgt := 84) dX12_findChains_158 (by decide) ?_
      exact ih2 _
    refine aE_iload dX12_findChains_84 rfl ?_
    refine aE_aload_n dX12_findChains_86 rfl rfl ?_
    refine aE_geti dX12_findChains_87 fw_X12_230 (lt_nn (by decide)) rfl (by decide) rfl ?_
    refine aE_icmp_ge (tgt := 161) dX12_findChains_90 (by decide) (fun h90 => absurd h90 (by rw [hn]; exact nI_ge (by omega) (by omega))) (fun h90 => ?_)
    refine aE_aload_n dX12_findChains_93 rfl rfl ?_
    refine aE_getf (v := .ref 133) dX12_findChains_94 fw_X12_111 (lt_nn (by decide)) rfl rfl ?_
    refine aE_iload_n dX12_findChains_97 rfl rfl ?_
    refine aE_ildM dX12_findChains_98 (lt_nn (by decide)) rfl (by decide) rfl (by omega) ?_
    refine aE_top hmay ?_
    refine aE_iload dX12_findChains_99 rfl ?_
    refine aE_cSi dX12_findChains_101 lk_X12_206 ms_X12_has (m_has (setB (f a) n) b (by omega) (by omega)) rfl rfl ⟨by decide, by decide⟩ (Nat.le_of_ble_eq_true rfl) ⟨rfl, rfl⟩ ⟨by decide, by decide⟩ ?_
    rw [hmb]
    refine aE_if_eq (tgt := 155) dX12_findChains_104 (by decide) (fun h104 => ?_) (fun h104 => ?_)
    · skip
      first
        | exact no (fun q => by rw [Bool.and_eq_true] at q; rw [if_pos q.1] at h104; exact absurd h104 (by decide)) _
        | exact no (fun q => by rw [Bool.and_eq_true, Bool.not_eq_true'] at q; have q2 := tb_of h113; rw [q.2] at q2; cases q2) _
        | exact yes hpb _
    · skip
      refine aE_iload_n dX12_findChains_107 rfl rfl ?_
      refine aE_iload dX12_findChains_108 rfl ?_
      refine aE_cSi dX12_findChains_110 lk_X12_206 ms_X12_has (m_has S b (by omega) (by omega)) rfl rfl ⟨by decide, by decide⟩ (Nat.le_of_ble_eq_true rfl) ⟨rfl, rfl⟩ ⟨by decide, by decide⟩ ?_
      refine aE_if_eq (tgt := 119) dX12_findChains_113 (by decide) (fun h113 => ?_) (fun h113 => ?_)
      · skip
        have hpb : (f a b && !S.testBit b) = true := by
          have q1 : f a b = true := Classical.byContradiction (fun q => h104 (by rw [if_neg q]))
          have q2 := tb_no (by first | exact h113 | exact Classical.not_not.mp h113)
          rw [q1, Bool.eq_false_iff.mpr q2]; rfl
        refine aE_iconst (v := 1) dX12_findChains_119 rfl ?_
        refine aE_aload_n dX12_findChains_120 rfl rfl ?_
        refine aE_getf (v := .ref 134) dX12_findChains_121 fw_X12_114 (lt_nn (by decide)) rfl rfl ?_
        refine aE_sipush (v := 1024) dX12_findChains_124 (by decide) ?_
        refine aE_iload_n dX12_findChains_127 rfl rfl ?_
        refine aE_iconst (v := 1) dX12_findChains_128 rfl ?_
        refine aE_iadd dX12_findChains_129 ?_
        refine aE_top (nI_add a 1) ?_
        refine aE_imul dX12_findChains_130 ?_
        refine aE_top (x' := nI (1024 * (a + 1))) (by rw [show (1024 : Int32) = nI 1024 from rfl, pk_mul]) ?_
        refine aE_iload_n dX12_findChains_131 rfl rfl ?_
        refine aE_iconst (v := 1) dX12_findChains_132 rfl ?_
        refine aE_iload dX12_findChains_133 rfl ?_
        refine aE_ishl dX12_findChains_135 ?_
        refine aE_top (nb_1shl (by omega)) ?_
        refine aE_ior dX12_findChains_136 ?_
        refine aE_top (nb_or _ _) ?_
        refine aE_iadd dX12_findChains_137 ?_
        refine aE_top (nI_add _ _) ?_
        refine aE_ildM dX12_findChains_138 (lt_nn (by decide)) rfl (by decide) rfl (by omega) ?_
        refine aE_top (hrow _ hor) ?_
        refine aE_iadd dX12_findChains_139 ?_
        refine aE_top (x' := nI ((fun b => 1 + mxF f n e0 (S ||| 2 ^ b)) b)) (nI_add 1 _) ?_
        refine aE_istore dX12_findChains_140 (by decide) rfl (aE_loc (ls' := [_, _, _, _, _, _]) rfl ?_)
        refine aE_iload dX12_findChains_142 rfl ?_
        refine aE_iload_n dX12_findChains_144 rfl rfl ?_
        refine aE_icmp_le (tgt := 153) dX12_findChains_145 (by decide) (fun h145 => ?_) (fun h145 => ?_)
        · skip
          refine aE_iload_n dX12_findChains_153 rfl rfl ?_
          refine aE_top (x' := nI (max ((fun b => 1 + mxF f n e0 (S ||| 2 ^ b)) b) (mxB (fun b => f a b && !S.testBit b) (fun b => 1 + mxF f n e0 (S ||| 2 ^ b)) (mxF f n e0 S) b))) (by
            first
              | exact congrArg nI (Nat.max_eq_right ((nI_leI (by show 1 + mxF f n e0 (S ||| 2 ^ b) < 2 ^ 31; omega) (by omega)).mp h145)).symm
              | exact congrArg nI (Nat.max_eq_left (Nat.le_of_not_le (fun q => h145 ((nI_leI (by show 1 + mxF f n e0 (S ||| 2 ^ b) < 2 ^ 31; omega) (by omega)).mpr q)))).symm) ?_
          refine aE_istore_n dX12_findChains_154 rfl (by decide) rfl (aE_loc (ls' := [_, _, _, _, _, _]) rfl ?_)
          first
            | exact no (fun q => by rw [Bool.and_eq_true] at q; rw [if_pos q.1] at h104; exact absurd h104 (by decide)) _
            | exact no (fun q => by rw [Bool.and_eq_true, Bool.not_eq_true'] at q; have q2 := tb_of h113; rw [q.2] at q2; cases q2) _
            | exact yes hpb _
        · skip
          refine aE_iload dX12_findChains_148 rfl ?_
          refine aE_goto (tgt := 154) dX12_findChains_150 (by decide) ?_
          refine aE_top (x' := nI (max ((fun b => 1 + mxF f n e0 (S ||| 2 ^ b)) b) (mxB (fun b => f a b && !S.testBit b) (fun b => 1 + mxF f n e0 (S ||| 2 ^ b)) (mxF f n e0 S) b))) (by
            first
              | exact congrArg nI (Nat.max_eq_right ((nI_leI (by show 1 + mxF f n e0 (S ||| 2 ^ b) < 2 ^ 31; omega) (by omega)).mp h145)).symm
              | exact congrArg nI (Nat.max_eq_left (Nat.le_of_not_le (fun q => h145 ((nI_leI (by show 1 + mxF f n e0 (S ||| 2 ^ b) < 2 ^ 31; omega) (by omega)).mpr q)))).symm) ?_
          refine aE_istore_n dX12_findChains_154 rfl (by decide) rfl (aE_loc (ls' := [_, _, _, _, _, _]) rfl ?_)
          first
            | exact no (fun q => by rw [Bool.and_eq_true] at q; rw [if_pos q.1] at h104; exact absurd h104 (by decide)) _
            | exact no (fun q => by rw [Bool.and_eq_true, Bool.not_eq_true'] at q; have q2 := tb_of h113; rw [q.2] at q2; cases q2) _
            | exact yes hpb _
      · skip
        refine aE_goto (tgt := 155) dX12_findChains_116 (by decide) ?_
        first
          | exact no (fun q => by rw [Bool.and_eq_true] at q; rw [if_pos q.1] at h104; exact absurd h104 (by decide)) _
          | exact no (fun q => by rw [Bool.and_eq_true, Bool.not_eq_true'] at q; have q2 := tb_of h113; rw [q.2] at q2; cases q2) _
          | exact yes hpb _
end MCH
