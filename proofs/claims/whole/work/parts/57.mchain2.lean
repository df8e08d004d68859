theorem mxF_s (f : Nat → Nat → Bool) (n e T : Nat) : mxF f n (e + 1) T = mxB (fun b => f (n - (e + 1)) b && !T.testBit b) (fun b => 1 + mxF f n e (T ||| 2 ^ b)) (mxF f n e T) n := rfl
theorem a_dec (x : Int32) : x + Int32.ofInt (-1) = x - 1 := by
  rw [Int32.sub_eq_add_neg, show Int32.ofInt (-1) = -(1 : Int32) by decide]
theorem DPI_s {K0 K : Nat → Nat → Int32} {f : Nat → Nat → Bool} {n a S : Nat} (hS : S < 2 ^ n) (h10 : 2 ^ n ≤ 1024) (h : DPI K0 f n a S K) : DPI K0 f n a (S + 1) (iu K 134 (1024 * a + S) (nI (mxF f n (n - a) S))) :=
  ⟨fun q i hq => (iu_ne (by omega)).trans (h.1 q i hq), fun a' h1 h2 S' h3 => (iu_ne (by omega)).trans (h.2.1 a' h1 h2 S' h3), fun S' h3 => by
    by_cases e : S' = S
    · subst e; exact iu_eq
    · exact (iu_ne (by omega)).trans (h.2.2 S' (by omega))⟩
section MCH2
variable {z : Nat × (Nat → Int32)} {n : Nat} {mem : aM} {I : Nat → Nat → Int32} {sp : Nat → Nat} {pl : Bool} {Q : Option Value → Nat → aM → Prop} {R : Room}
theorem l_ch3 (f : Nat → Nat → Bool) (n : Nat) (K0 : Nat → Nat → Int32) (hn : K0 101 42 = nI n) (h10 : n ≤ 10) (hmay : ∀ a, a < n → K0 133 a = nI (setB (f a) n)) (a : Nat) (ha : a < n) (k0 : ∀ K l3 l4 l5, DPI K0 f n a (2 ^ n) K → aE z mX12_findChains (rK 5) Q 180 [some (.ref 101), some (.int (nI a)), some (.int (nI (2 ^ n))), l3, l4, l5] [] (nn pl) (MM K sp pl) 0 0) : ∀ (e S : Nat), S + e = 2 ^ n → ∀ (I : Nat → Nat → Int32) l3 l4 l5, DPI K0 f n a S I → aE z mX12_findChains (rK 5) Q 56 [some (.ref 101), some (.int (nI a)), some (.int (nI S)), l3, l4, l5] [] (nn pl) (MM I sp pl) 0 0 := by
  have hp := pow10' h10
  intro e
  induction e with
  | zero =>
    intro S hS I l3 l4 l5 hI
    have hS : S = 2 ^ n := by omega
    subst hS
    refine aE_iload_n dX12_findChains_56 rfl rfl ?_
    refine aE_iconst (v := 1) dX12_findChains_57 rfl ?_
    refine aE_aload_n dX12_findChains_58 rfl rfl ?_
    refine aE_geti dX12_findChains_59 fw_X12_230 (lt_nn (by decide)) rfl (by decide) rfl ?_
    refine aE_top (x' := nI n) ((hI.1 101 42 (by decide)).trans hn) ?_
    refine aE_ishl dX12_findChains_62 ?_
    refine aE_top (nb_1shl (by omega)) ?_
    refine aE_icmp_ge (tgt := 180) dX12_findChains_63 (by decide) (fun h63 => ?_) (fun h63 => absurd (Int32.le_refl _) h63)
    exact k0 I _ _ _ hI
  | succ e ih =>
    intro S hS I l3 l4 l5 hI
    obtain ⟨e0, he0⟩ : ∃ e0, n - a = e0 + 1 := ⟨n - a - 1, by omega⟩
    have hrow : ∀ S, S < 2 ^ n → I 134 (1024 * (a + 1) + S) = nI (mxF f n e0 S) := fun S h => by
      have := hI.2.1 (a + 1) (by omega) (by omega) S h
      rw [this, show n - (a + 1) = e0 by omega]
    refine aE_iload_n dX12_findChains_56 rfl rfl ?_
    refine aE_iconst (v := 1) dX12_findChains_57 rfl ?_
    refine aE_aload_n dX12_findChains_58 rfl rfl ?_
    refine aE_geti dX12_findChains_59 fw_X12_230 (lt_nn (by decide)) rfl (by decide) rfl ?_
    refine aE_top (x' := nI n) ((hI.1 101 42 (by decide)).trans hn) ?_
    refine aE_ishl dX12_findChains_62 ?_
    refine aE_top (nb_1shl (by omega)) ?_
    refine aE_icmp_ge (tgt := 180) dX12_findChains_63 (by decide) (fun h63 => absurd h63 (nI_ge (by omega) (by omega))) (fun h63 => ?_)
    refine aE_aload_n dX12_findChains_66 rfl rfl ?_
    refine aE_getf (v := .ref 134) dX12_findChains_67 fw_X12_114 (lt_nn (by decide)) rfl rfl ?_
    refine aE_sipush (v := 1024) dX12_findChains_70 (by decide) ?_
    refine aE_iload_n dX12_findChains_73 rfl rfl ?_
    refine aE_iconst (v := 1) dX12_findChains_74 rfl ?_
    refine aE_iadd dX12_findChains_75 ?_
    refine aE_top (nI_add a 1) ?_
    refine aE_imul dX12_findChains_76 ?_
    refine aE_top (x' := nI (1024 * (a + 1))) (by rw [show (1024 : Int32) = nI 1024 from rfl, pk_mul]) ?_
    refine aE_iload_n dX12_findChains_77 rfl rfl ?_
    refine aE_iadd dX12_findChains_78 ?_
    refine aE_top (nI_add _ _) ?_
    refine aE_ildM dX12_findChains_79 (lt_nn (by decide)) rfl (by decide) rfl (by omega) ?_
    refine aE_top (hrow S (by omega)) ?_
    refine aE_istore_n dX12_findChains_80 rfl (by decide) rfl (aE_loc (ls' := [_, _, _, _, _, _]) rfl ?_)
    refine aE_iconst (v := 0) dX12_findChains_81 rfl ?_
    refine aE_istore dX12_findChains_82 (by decide) rfl (aE_loc (ls' := [_, _, _, _, _, _]) rfl ?_)
    refine l_ch4 f n a e0 S ((hI.1 101 42 (by decide)).trans hn) h10 (by omega) ((hI.1 133 a (by decide)).trans (hmay a ha)) hrow (by omega) hp (fun l5 => ?_) n 0 (by omega) _
    refine aE_loc (ls' := [some (.ref 101), some (.int (nI a)), some (.int (nI S)), some (.int (nI (mxF f n (n - a) S))), some (.int (nI n)), l5]) (by rw [he0, mxF_s, show n - (e0 + 1) = a by omega]) ?_
    refine aE_aload_n dX12_findChains_161 rfl rfl ?_
    refine aE_getf (v := .ref 134) dX12_findChains_162 fw_X12_114 (lt_nn (by decide)) rfl rfl ?_
    refine aE_sipush (v := 1024) dX12_findChains_165 (by decide) ?_
    refine aE_iload_n dX12_findChains_168 rfl rfl ?_
    refine aE_imul dX12_findChains_169 ?_
    refine aE_top (x' := nI (1024 * a)) (by rw [show (1024 : Int32) = nI 1024 from rfl, pk_mul]) ?_
    refine aE_iload_n dX12_findChains_170 rfl rfl ?_
    refine aE_iadd dX12_findChains_171 ?_
    refine aE_top (nI_add _ _) ?_
    refine aE_iload_n dX12_findChains_172 rfl rfl ?_
    refine aE_istM dX12_findChains_173 (lt_nn (by decide)) rfl (by decide) rfl (by omega) ?_
    refine aE_iinc dX12_findChains_174 rfl (a_inc _) (by decide) rfl (aE_loc (ls' := [_, _, _, _, _, _]) rfl ?_)
    refine aE_goto (tgt := 56) dX12_findChains_177 (by decide) ?_
    exact ih (S + 1) (by omega) _ _ _ _ (DPI_s (by omega) hp hI)
theorem l_ch2 (f : Nat → Nat → Bool) (n : Nat) (K0 : Nat → Nat → Int32) (hn : K0 101 42 = nI n) (h10 : n ≤ 10) (hmay : ∀ a, a < n → K0 133 a = nI (setB (f a) n)) (k0 : ∀ K l1 l2 l3 l4 l5, (∀ q i, q ≠ 134 → K q i = K0 q i) → (∀ a, a ≤ n → ∀ S, S < 2 ^ n → K 134 (1024 * a + S) = nI (mxF f n (n - a) S)) → aE z mX12_findChains (rK 5) Q 186 [some (.ref 101), l1, l2, l3, l4, l5] [] (nn pl) (MM K sp pl) 0 0) : ∀ (c : Nat), c ≤ n → ∀ (I : Nat → Nat → Int32) x l2 l3 l4 l5, x = nI c - 1 → (∀ q i, q ≠ 134 → I q i = K0 q i) → (∀ a, c ≤ a → a ≤ n → ∀ S, S < 2 ^ n → I 134 (1024 * a + S) = nI (mxF f n (n - a) S)) → aE z mX12_findChains (rK 5) Q 50 [some (.ref 101), some (.int x), l2, l3, l4, l5] [] (nn pl) (MM I sp pl) 0 0 := by
  intro c
  induction c with
  | zero =>
    intro hc I x l2 l3 l4 l5 hx h1 h2
    subst hx
    refine aE_iload_n dX12_findChains_50 rfl rfl ?_
    refine aE_if_lt (tgt := 186) dX12_findChains_51 (by decide) (fun h51 => ?_) (fun h51 => absurd (by decide) h51)
    exact k0 I _ _ _ _ _ h1 (fun a ha => h2 a (Nat.zero_le _) ha)
  | succ a ih =>
    intro hc I x l2 l3 l4 l5 hx h1 h2
    rw [nI_pred] at hx
    subst hx
    refine aE_iload_n dX12_findChains_50 rfl rfl ?_
    refine aE_if_lt (tgt := 186) dX12_findChains_51 (by decide) (fun h51 => absurd h51 (nI_pos (by omega))) (fun h51 => ?_)
    refine aE_iconst (v := 0) dX12_findChains_54 rfl ?_
    refine aE_istore_n dX12_findChains_55 rfl (by decide) rfl (aE_loc (ls' := [_, _, _, _, _, _]) rfl ?_)
    refine l_ch3 f n K0 hn h10 hmay a (by omega) (fun K l3 l4 l5 hK => ?_) (2 ^ n) 0 (by omega) I _ _ _ ⟨h1, fun a' q1 q2 => h2 a' (by omega) q2, fun S h => absurd h (by omega)⟩
    refine aE_iinc dX12_findChains_180 rfl (a_dec _) (by decide) rfl (aE_loc (ls' := [_, _, _, _, _, _]) rfl ?_)
    refine aE_goto (tgt := 50) dX12_findChains_183 (by decide) ?_
    refine ih (by omega) K _ _ _ _ _ rfl hK.1 (fun a' q1 q2 S q3 => ?_)
    by_cases e : a' = a
    · subst e; exact hK.2.2 S q3
    · exact hK.2.1 a' (by omega) q2 S q3
theorem l_ch6 (f : Nat → Nat → Bool) (n : Nat) (hn : I 101 42 = nI n) (h10 : n ≤ 10) (hmay : ∀ a, a < n → I 133 a = nI (setB (f a) n)) (hrows : ∀ a, a ≤ n → ∀ S, S < 2 ^ n → I 134 (1024 * a + S) = nI (mxF f n (n - a) S)) (a S : Nat) (ha : a < n) (hS : S < 2 ^ n) (l4 l5 : Option Value) (k0 : ∀ b, (b < n ∧ stG f n a S = some b) ∨ (b = n ∧ stG f n a S = none) → aE z mX12_findChains (rK 5) Q 270 [some (.ref 101), some (.int (nI S)), some (.int (nI a)), some (.int (nI b)), l4, l5] [] (nn pl) (MM I sp pl) 0 0) : ∀ (e b : Nat), b + e = n → stG f n a S = fstB (pG f n a S) n e → aE z mX12_findChains (rK 5) Q 200 [some (.ref 101), some (.int (nI S)), some (.int (nI a)), some (.int (nI b)), l4, l5] [] (nn pl) (MM I sp pl) 0 0 := by
  have hp := pow10' h10
  intro e
  induction e with
  | zero =>
    intro b hb hst
    have hb : b = n := by omega
    subst hb
    refine aE_iload_n dX12_findChains_200 rfl rfl ?_
    refine aE_aload_n dX12_findChains_201 rfl rfl ?_
    refine aE_geti dX12_findChains_202 fw_X12_230 (lt_nn (by decide)) rfl (by decide) rfl ?_
    refine aE_icmp_ge (tgt := 270) dX12_findChains_205 (by decide) (fun h205 => ?_) (fun h205 => absurd (by rw [hn]; exact Int32.le_refl _) h205)
    exact k0 _ (Or.inr ⟨rfl, hst⟩)
  | succ e ih =>
    intro b hb hst
    have hbn : b < n := by omega
    unfold fstB at hst
    rw [show n - (e + 1) = b by omega] at hst
    have hmb : (setB (f a) n).testBit b = f a b := by rw [setB_tb]; simp [hbn]
    have hsl := setB_lt (f a) n
    have hor : S ||| 2 ^ b < 2 ^ n := Nat.or_lt_two_pow hS (Nat.pow_lt_pow_right (by decide) hbn)
    have m1 := mxF_le f n (n - (a + 1)) (S ||| 2 ^ b)
    have m2 := mxF_le f n (n - a) S
    have no : ¬ pG f n a S b = true → aE z mX12_findChains (rK 5) Q 264 [some (.ref 101), some (.int (nI S)), some (.int (nI a)), some (.int (nI b)), l4, l5] [] (nn pl) (MM I sp pl) 0 0 := by
      intro q
      rw [if_neg q] at hst
      refine aE_iinc dX12_findChains_264 rfl (a_inc _) (by decide) rfl (aE_loc (ls' := [_, _, _, _, _, _]) rfl ?_)
      refine aE_goto (tgt := 200) dX12_findChains_267 (by decide) ?_
      exact ih (b + 1) (by omega) hst
    refine aE_iload_n dX12_findChains_200 rfl rfl ?_
    refine aE_aload_n dX12_findChains_201 rfl rfl ?_
    refine aE_geti dX12_findChains_202 fw_X12_230 (lt_nn (by decide)) rfl (by decide) rfl ?_
    refine aE_icmp_ge (tgt := 270) dX12_findChains_205 (by decide) (fun h205 => absurd h205 (by rw [hn]; exact nI_ge (by omega) (by omega))) (fun h205 => ?_)
    refine aE_aload_n dX12_findChains_208 rfl rfl ?_
    refine aE_getf (v := .ref 133) dX12_findChains_209 fw_X12_111 (lt_nn (by decide)) rfl rfl ?_
    refine aE_iload_n dX12_findChains_212 rfl rfl ?_
    refine aE_ildM dX12_findChains_213 (lt_nn (by decide)) rfl (by decide) rfl (by omega) ?_
    refine aE_top (hmay a ha) ?_
    refine aE_iload_n dX12_findChains_214 rfl rfl ?_
    refine aE_cSi dX12_findChains_215 lk_X12_206 ms_X12_has (m_has (setB (f a) n) b (by omega) (by omega)) rfl rfl ⟨by decide, by decide⟩ (Nat.le_of_ble_eq_true rfl) ⟨rfl, rfl⟩ ⟨by decide, by decide⟩ ?_
    rw [hmb]
    refine aE_if_eq (tgt := 264) dX12_findChains_218 (by decide) (fun h218 => ?_) (fun h218 => ?_)
    · skip
      first
        | exact no (fun q => by rw [Bool.and_eq_true, Bool.and_eq_true] at q; rw [if_pos q.1.1] at h218; exact absurd h218 (by decide))
        | exact no (fun q => by rw [Bool.and_eq_true, Bool.and_eq_true, Bool.not_eq_true'] at q; have q2 := tb_of h226; rw [q.1.2] at q2; cases q2)
        | exact no (fun q => by rw [Bool.and_eq_true, decide_eq_true_eq] at q; exact h261 ((nI_leI (by omega) (by omega)).mpr q.2))
    · skip
      refine aE_iload_n dX12_findChains_221 rfl rfl ?_
      refine aE_iload_n dX12_findChains_222 rfl rfl ?_
      refine aE_cSi dX12_findChains_223 lk_X12_206 ms_X12_has (m_has S b (by omega) (by omega)) rfl rfl ⟨by decide, by decide⟩ (Nat.le_of_ble_eq_true rfl) ⟨rfl, rfl⟩ ⟨by decide, by decide⟩ ?_
      refine aE_if_ne (tgt := 264) dX12_findChains_226 (by decide) (fun h226 => ?_) (fun h226 => ?_)
      · skip
        first
          | exact no (fun q => by rw [Bool.and_eq_true, Bool.and_eq_true] at q; rw [if_pos q.1.1] at h218; exact absurd h218 (by decide))
          | exact no (fun q => by rw [Bool.and_eq_true, Bool.and_eq_true, Bool.not_eq_true'] at q; have q2 := tb_of h226; rw [q.1.2] at q2; cases q2)
          | exact no (fun q => by rw [Bool.and_eq_true, decide_eq_true_eq] at q; exact h261 ((nI_leI (by omega) (by omega)).mpr q.2))
      · skip
        have hq1 : f a b = true := Classical.byContradiction (fun q => h218 (by rw [if_neg q]))
        have hq2 : S.testBit b = false := Bool.eq_false_iff.mpr (tb_no (by first | exact h226 | exact Classical.not_not.mp h226))
        refine aE_iconst (v := 1) dX12_findChains_229 rfl ?_
        refine aE_aload_n dX12_findChains_230 rfl rfl ?_
        refine aE_getf (v := .ref 134) dX12_findChains_231 fw_X12_114 (lt_nn (by decide)) rfl rfl ?_
        refine aE_sipush (v := 1024) dX12_findChains_234 (by decide) ?_
        refine aE_iload_n dX12_findChains_237 rfl rfl ?_
        refine aE_iconst (v := 1) dX12_findChains_238 rfl ?_
        refine aE_iadd dX12_findChains_239 ?_
        refine aE_top (nI_add a 1) ?_
        refine aE_imul dX12_findChains_240 ?_
        refine aE_top (x' := nI (1024 * (a + 1))) (by rw [show (1024 : Int32) = nI 1024 from rfl, pk_mul]) ?_
        refine aE_iload_n dX12_findChains_241 rfl rfl ?_
        refine aE_iconst (v := 1) dX12_findChains_242 rfl ?_
        refine aE_iload_n dX12_findChains_243 rfl rfl ?_
        refine aE_ishl dX12_findChains_244 ?_
        refine aE_top (nb_1shl (by omega)) ?_
        refine aE_ior dX12_findChains_245 ?_
        refine aE_top (nb_or _ _) ?_
        refine aE_iadd dX12_findChains_246 ?_
        refine aE_top (nI_add _ _) ?_
        refine aE_ildM dX12_findChains_247 (lt_nn (by decide)) rfl (by decide) rfl (by omega) ?_
        refine aE_top (hrows (a + 1) (by omega) _ hor) ?_
        refine aE_iadd dX12_findChains_248 ?_
        refine aE_top (x' := nI (1 + mxF f n (n - (a + 1)) (S ||| 2 ^ b))) (nI_add 1 _) ?_
        refine aE_aload_n dX12_findChains_249 rfl rfl ?_
        refine aE_getf (v := .ref 134) dX12_findChains_250 fw_X12_114 (lt_nn (by decide)) rfl rfl ?_
        refine aE_sipush (v := 1024) dX12_findChains_253 (by decide) ?_
        refine aE_iload_n dX12_findChains_256 rfl rfl ?_
        refine aE_imul dX12_findChains_257 ?_
        refine aE_top (x' := nI (1024 * a)) (by rw [show (1024 : Int32) = nI 1024 from rfl, pk_mul]) ?_
        refine aE_iload_n dX12_findChains_258 rfl rfl ?_
        refine aE_iadd dX12_findChains_259 ?_
        refine aE_top (nI_add _ _) ?_
        refine aE_ildM dX12_findChains_260 (lt_nn (by decide)) rfl (by decide) rfl (by omega) ?_
        refine aE_top (hrows a (by omega) _ hS) ?_
        refine aE_icmp_ge (tgt := 270) dX12_findChains_261 (by decide) (fun h261 => ?_) (fun h261 => ?_)
        · skip
          have hpg : pG f n a S b = true := by
            show ((f a b && !S.testBit b) && decide _) = true
            rw [hq1, hq2, decide_eq_true ((nI_leI (by omega) (by omega)).mp h261)]; rfl
          rw [if_pos hpg] at hst
          exact k0 b (Or.inl ⟨hbn, hst⟩)
        · skip
          first
            | exact no (fun q => by rw [Bool.and_eq_true, Bool.and_eq_true] at q; rw [if_pos q.1.1] at h218; exact absurd h218 (by decide))
            | exact no (fun q => by rw [Bool.and_eq_true, Bool.and_eq_true, Bool.not_eq_true'] at q; have q2 := tb_of h226; rw [q.1.2] at q2; cases q2)
            | exact no (fun q => by rw [Bool.and_eq_true, decide_eq_true_eq] at q; exact h261 ((nI_leI (by omega) (by omega)).mpr q.2))
theorem l_ch5 (f : Nat → Nat → Bool) (n : Nat) (K0 : Nat → Nat → Int32) (hn : K0 101 42 = nI n) (h10 : n ≤ 10) (hmay : ∀ a, a < n → K0 133 a = nI (setB (f a) n)) (hrows : ∀ a, a ≤ n → ∀ S, S < 2 ^ n → K0 134 (1024 * a + S) = nI (mxF f n (n - a) S)) (hQ : ∀ K, GRI K0 f n n K → Q none (nn pl) (MM K sp pl)) : ∀ (e a : Nat), a + e = n → ∀ (I : Nat → Nat → Int32) l3 l4 l5, GRI K0 f n a I → aE z mX12_findChains (rK 5) Q 190 [some (.ref 101), some (.int (nI (tkG f n a))), some (.int (nI a)), l3, l4, l5] [] (nn pl) (MM I sp pl) 0 0 := by
  intro e
  induction e with
  | zero =>
    intro a ha I l3 l4 l5 hI
    have ha : a = n := by omega
    subst ha
    refine aE_iload_n dX12_findChains_190 rfl rfl ?_
    refine aE_aload_n dX12_findChains_191 rfl rfl ?_
    refine aE_geti dX12_findChains_192 fw_X12_230 (lt_nn (by decide)) rfl (by decide) rfl ?_
    refine aE_icmp_ge (tgt := 313) dX12_findChains_195 (by decide) (fun h195 => ?_) (fun h195 => absurd (by rw [hI.1 101 42 (by decide), hn]; exact Int32.le_refl _) h195)
    refine aE_vret dX12_findChains_313 rfl ⟨by decide, by decide⟩ ?_
    exact hQ I hI
  | succ e ih =>
    intro a ha I l3 l4 l5 hI
    have hn2 : I 101 42 = nI n := (hI.1 101 42 (by decide)).trans hn
    have htl := tkG_lt f n a
    have fin : ∀ x, x = rv (nxG f n a) → ∀ T, T = tkG f n (a + 1) → ∀ l3 l4 l5, aE z mX12_findChains (rK 5) Q 307 [some (.ref 101), some (.int (nI T)), some (.int (nI a)), l3, l4, l5] [] (nn pl) (MM (iu I 135 a x) sp pl) 0 0 := by
      intro x hx T hT l3 l4 l5
      subst hx hT
      have hG : GRI K0 f n (a + 1) (iu I 135 a (rv (nxG f n a))) := ⟨fun q i hq => (iu_ne (by omega)).trans (hI.1 q i hq), fun b hb => by
        by_cases e : b = a
        · subst e; exact iu_eq
        · exact (iu_ne (by omega)).trans (hI.2 b (by omega))⟩
      refine aE_iinc dX12_findChains_307 rfl (a_inc _) (by decide) rfl (aE_loc (ls' := [_, _, _, _, _, _]) rfl ?_)
      refine aE_goto (tgt := 190) dX12_findChains_310 (by decide) ?_
      exact ih (a + 1) (by omega) _ _ _ _ hG
    refine aE_iload_n dX12_findChains_190 rfl rfl ?_
    refine aE_aload_n dX12_findChains_191 rfl rfl ?_
    refine aE_geti dX12_findChains_192 fw_X12_230 (lt_nn (by decide)) rfl (by decide) rfl ?_
    refine aE_icmp_ge (tgt := 313) dX12_findChains_195 (by decide) (fun h195 => absurd h195 (by rw [hn2]; exact nI_ge (by omega) (by omega))) (fun h195 => ?_)
    refine aE_iconst (v := 0) dX12_findChains_198 rfl ?_
    refine aE_istore_n dX12_findChains_199 rfl (by decide) rfl (aE_loc (ls' := [_, _, _, _, _, _]) rfl ?_)
    refine l_ch6 f n hn2 h10 (fun a ha => (hI.1 133 a (by decide)).trans (hmay a ha)) (fun a ha S hS => (hI.1 134 _ (by decide)).trans (hrows a ha S hS)) a _ (by omega) htl _ _ (fun b hb => ?_) n 0 (by omega) rfl
    rcases hb with ⟨hbn, hst⟩ | ⟨rfl, hst⟩
    · have e1 : nxG f n a = some b := hst
      have e2 : tkG f n (a + 1) = tkG f n a ||| 2 ^ b := by
        show (match stG f n a (tkG f n a) with | none => tkG f n a | some b => tkG f n a ||| 2 ^ b) = _
        rw [hst]
      refine aE_aload_n dX12_findChains_270 rfl rfl ?_
      refine aE_getf (v := .ref 135) dX12_findChains_271 fw_X12_117 (lt_nn (by decide)) rfl rfl ?_
      refine aE_iload_n dX12_findChains_274 rfl rfl ?_
      refine aE_iload_n dX12_findChains_275 rfl rfl ?_
      refine aE_aload_n dX12_findChains_276 rfl rfl ?_
      refine aE_geti dX12_findChains_277 fw_X12_230 (lt_nn (by decide)) rfl (by decide) rfl ?_
      refine aE_icmp_ge (tgt := 287) dX12_findChains_280 (by decide) (fun h280 => absurd h280 (by rw [hn2]; exact nI_ge (by omega) (by omega))) (fun h280 => ?_)
      refine aE_iload_n dX12_findChains_283 rfl rfl ?_
      refine aE_goto (tgt := 288) dX12_findChains_284 (by decide) ?_
      refine aE_istM dX12_findChains_288 (lt_nn (by decide)) rfl (by decide) rfl (by omega) ?_
      refine aE_iload_n dX12_findChains_289 rfl rfl ?_
      refine aE_iload_n dX12_findChains_290 rfl rfl ?_
      refine aE_aload_n dX12_findChains_291 rfl rfl ?_
      refine aE_geti dX12_findChains_292 fw_X12_230 (lt_nn (by decide)) rfl (by decide) rfl ?_
      refine aE_icmp_ge (tgt := 304) dX12_findChains_295 (by decide) (fun h295 => absurd h295 (by rw [iu_ne (by omega), hn2]; exact nI_ge (by omega) (by omega))) (fun h295 => ?_)
      refine aE_iconst (v := 1) dX12_findChains_298 rfl ?_
      refine aE_iload_n dX12_findChains_299 rfl rfl ?_
      refine aE_ishl dX12_findChains_300 ?_
      refine aE_top (nb_1shl (by omega)) ?_
      refine aE_goto (tgt := 305) dX12_findChains_301 (by decide) ?_
      refine aE_ior dX12_findChains_305 ?_
      refine aE_top (nb_or _ _) ?_
      refine aE_istore_n dX12_findChains_306 rfl (by decide) rfl (aE_loc (ls' := [_, _, _, _, _, _]) rfl ?_)
      exact fin _ (by rw [e1]; rfl) _ e2.symm _ _ _
    · have e1 : nxG f b a = none := hst
      have e2 : tkG f b (a + 1) = tkG f b a := by
        show (match stG f b a (tkG f b a) with | none => tkG f b a | some c => tkG f b a ||| 2 ^ c) = _
        rw [hst]
      refine aE_aload_n dX12_findChains_270 rfl rfl ?_
      refine aE_getf (v := .ref 135) dX12_findChains_271 fw_X12_117 (lt_nn (by decide)) rfl rfl ?_
      refine aE_iload_n dX12_findChains_274 rfl rfl ?_
      refine aE_iload_n dX12_findChains_275 rfl rfl ?_
      refine aE_aload_n dX12_findChains_276 rfl rfl ?_
      refine aE_geti dX12_findChains_277 fw_X12_230 (lt_nn (by decide)) rfl (by decide) rfl ?_
      refine aE_icmp_ge (tgt := 287) dX12_findChains_280 (by decide) (fun h280 => ?_) (fun h280 => absurd (by rw [hn2]; exact Int32.le_refl _) h280)
      refine aE_iconst (v := -1) dX12_findChains_287 rfl ?_
      refine aE_istM dX12_findChains_288 (lt_nn (by decide)) rfl (by decide) rfl (by omega) ?_
      refine aE_iload_n dX12_findChains_289 rfl rfl ?_
      refine aE_iload_n dX12_findChains_290 rfl rfl ?_
      refine aE_aload_n dX12_findChains_291 rfl rfl ?_
      refine aE_geti dX12_findChains_292 fw_X12_230 (lt_nn (by decide)) rfl (by decide) rfl ?_
      refine aE_icmp_ge (tgt := 304) dX12_findChains_295 (by decide) (fun h295 => ?_) (fun h295 => absurd (by rw [iu_ne (by omega), hn2]; exact Int32.le_refl _) h295)
      refine aE_iconst (v := 0) dX12_findChains_304 rfl ?_
      refine aE_ior dX12_findChains_305 ?_
      refine aE_top (x' := nI (tkG f b a)) (by have := nb_or (tkG f b a) 0; rw [Nat.or_zero] at this; exact this) ?_
      refine aE_istore_n dX12_findChains_306 rfl (by decide) rfl (aE_loc (ls' := [_, _, _, _, _, _]) rfl ?_)
      exact fin _ (by rw [e1]; rfl) _ e2.symm _ _ _
/-- the model's chains stand: nx who follows, mx how many -/
def MC (I J : Nat → Nat → Int32) (ns : Nat) (d : pD) (cs : Nat → pC) : Prop := (∀ q i, ¬ (121 ≤ q ∧ q ≤ 135) → ¬ (q = 101 ∧ (i = 29 ∨ i = 42 ∨ i = 43)) → J q i = I q i) ∧ ¬ J 101 29 = 0 ∧ MS J ns d cs (alM I d) ∧ (∀ s, s < 4 → J 132 s = I 108 s) ∧ (∀ a, a < (RR d cs (alM I d) ns).length → J 135 a = rv (nxG (mayF d cs (fun s => I 108 s) (I 101 9) (RR d cs (alM I d) ns)) (RR d cs (alM I d) ns).length a)) ∧ J 134 0 = nI (mxF (mayF d cs (fun s => I 108 s) (I 101 9) (RR d cs (alM I d) ns)) (RR d cs (alM I d) ns).length (RR d cs (alM I d) ns).length 0)
theorem m_findChains (ns nstr nc : Nat) (d : pD) (cs : Nat → pC) (fr to : Nat → Nat) (hW : MW I ns nstr nc d cs fr to) (hst : ¬ I 101 29 = 0 → PlM I d cs (alM I d) ns) (hQ : ∀ J, MC I J ns d cs → Q none (nn pl) (MM J sp pl)) : aRuns mX12_findChains (rK 5) [.ref 101] (nn pl) (MM I sp pl) Q := by
  refine aRuns_of pn_X12_findChains (Nat.le_of_ble_eq_true rfl) (fun z => aE_loc (ls' := [_, _, _, _, _, _]) rfl ?_)
  refine aE_aload_n dX12_findChains_0 rfl rfl ?_
  refine aE_cVq dX12_findChains_1 lk_X12_243 mv_X12_plan (m_planS (Q := (fun (r : Option Value) (n' : Nat) (m' : aM) => r = none ∧ n' = nn pl ∧ ∃ J, m' = MM J sp pl ∧ FrP I J ∧ MS J ns d cs (alM I d))) ns nstr nc d cs fr to hW hst (fun J h1 h2 => ⟨rfl, rfl, J, rfl, h1, h2⟩)) rfl (lt_nn (by decide)) rfl rfl ⟨by decide, by decide⟩ (Nat.le_of_ble_eq_true rfl) ⟨rfl, rfl⟩ ⟨by decide, by decide⟩ ?_
  rintro r n' m' ⟨rfl, rfl, J, rfl, hJ, hM⟩
  refine aE_aload_n dX12_findChains_4 rfl rfl ?_
  refine aE_cVv dX12_findChains_5 lk_X12_262 mv_X12_asTheyAre (m_ata) rfl (lt_nn (by decide)) rfl rfl ⟨by decide, by decide⟩ (Nat.le_of_ble_eq_true rfl) ⟨rfl, rfl⟩ ⟨by decide, by decide⟩ ?_
  refine aE_aload_n dX12_findChains_8 rfl rfl ?_
  refine aE_cVv dX12_findChains_9 lk_X12_268 mv_X12_findMay (m_findMay ns d cs (alM I d) (fun s => I 108 s) (fun s hs => (ataI_at 4 s hs).trans (hJ.1 108 s (by omega) (by omega))) (I 101 9) ((ataI_ne (by decide) 4).trans (hJ.1 101 9 (by omega) (by omega))) (ataI_MS hM)) rfl (lt_nn (by decide)) rfl rfl ⟨by decide, by decide⟩ (Nat.le_of_ble_eq_true rfl) ⟨rfl, rfl⟩ ⟨by decide, by decide⟩ ?_
  refine aE_iconst (v := 0) dX12_findChains_12 rfl ?_
  refine aE_istore_n dX12_findChains_13 rfl (by decide) rfl (aE_loc (ls' := [_, _, _, _, _, _]) rfl ?_)
  obtain ⟨f, hf⟩ : ∃ f, (mayF d cs (fun s => I 108 s) (I 101 9) (RR d cs (alM I d) ns)) = f := ⟨_, rfl⟩
  obtain ⟨n, hn⟩ : ∃ n, (RR d cs (alM I d) ns).length = n := ⟨_, rfl⟩
  have h10 : n ≤ 10 := hn ▸ hM.2.2.2.2.2.2.1
  have hp := pow10' h10
  rw [hf, hn]
  obtain ⟨K0, hK0⟩ : ∃ K0, mayI (ataI J 4) f n n = K0 := ⟨_, rfl⟩
  have g1 : ∀ q i, ¬ (121 ≤ q ∧ q ≤ 133) → ¬ (q = 101 ∧ (i = 29 ∨ i = 42 ∨ i = 43)) → K0 q i = I q i := fun q i h1 h2 => by
    rw [← hK0, mayI_o (by omega), ataI_ne (by omega) 4]; exact hJ.1 q i (by omega) h2
  have g2 : ∀ q i, q < 132 → K0 q i = J q i := fun q i h1 => by
    rw [← hK0, mayI_o (by omega), ataI_ne (by omega) 4]
  have g3 : ∀ a, a < n → K0 133 a = nI (setB (f a) n) := fun a ha => by rw [← hK0]; exact mayI_at ha
  have g4 : K0 101 42 = nI n := by rw [g2 101 42 (by decide), ← hn]; exact hM.2.2.2.2.1.2.2.1.1
  have g5 : ∀ s, s < 4 → K0 132 s = I 108 s := fun s hs => by rw [← hK0, mayI_o (by decide), ataI_at 4 s hs]; exact hJ.1 108 s (by omega) (by omega)
  refine aE_I hK0 ?_
  refine aE_I (I' := zrI K0 134 (1024 * n) 0) (zrI_0 _ _ _).symm ?_
  refine l_ch1 n g4 h10 _ _ _ _ ?_ 1024 0 (by omega)
  refine aE_aload_n dX12_findChains_43 rfl rfl ?_
  refine aE_geti dX12_findChains_44 fw_X12_230 (lt_nn (by decide)) rfl (by decide) rfl ?_
  refine aE_top (x' := nI n) ((zrI_o (by decide)).trans g4) ?_
  refine aE_iconst (v := 1) dX12_findChains_47 rfl ?_
  refine aE_isub dX12_findChains_48 ?_
  refine aE_istore_n dX12_findChains_49 rfl (by decide) rfl (aE_loc (ls' := [_, _, _, _, _, _]) rfl ?_)
  refine l_ch2 f n K0 g4 h10 g3 (fun K l1 l2 l3 l4 l5 q1 q2 => ?_) n (Nat.le_refl _) _ _ _ _ _ _ rfl (fun q i hq => zrI_o hq) (fun a h1 h2 S hS => ?_)
  · skip
    refine aE_iconst (v := 0) dX12_findChains_186 rfl ?_
    refine aE_istore_n dX12_findChains_187 rfl (by decide) rfl (aE_loc (ls' := [_, _, _, _, _, _]) rfl ?_)
    refine aE_iconst (v := 0) dX12_findChains_188 rfl ?_
    refine aE_istore_n dX12_findChains_189 rfl (by decide) rfl (aE_loc (ls' := [_, _, _, _, _, _]) rfl ?_)
    refine l_ch5 f n K ((q1 101 42 (by decide)).trans g4) h10 (fun a ha => (q1 133 a (by decide)).trans (g3 a ha)) q2 (fun K2 hK2 => ?_) n 0 (by omega) K _ _ _ ⟨fun _ _ _ => rfl, fun a ha => absurd ha (by omega)⟩
    have fr : ∀ q i, q ≠ 134 → q ≠ 135 → K2 q i = K0 q i := fun q i h1 h2 => (hK2.1 q i h2).trans (q1 q i h1)
    refine hQ K2 ⟨fun q i h1 h2 => (fr q i (by omega) (by omega)).trans (g1 q i (by omega) h2), ?_, MS_fr hM (fun q i h1 _ => (fr q i (by omega) (by omega)).trans (g2 q i h1)), fun s hs => (fr 132 s (by omega) (by omega)).trans (g5 s hs), ?_, ?_⟩
    · rw [fr 101 29 (by omega) (by omega), g2 101 29 (by omega)]; exact hJ.2
    · rw [hf, hn]; exact hK2.2
    · rw [hf, hn, hK2.1 134 0 (by decide)]
      have := q2 0 (by omega) 0 (Nat.two_pow_pos n)
      exact this
  · have ea : a = n := by omega
    subst ea
    rw [Nat.sub_self]
    show zrI K0 134 (1024 * a) 1024 134 (1024 * a + S) = nI 0
    unfold zrI
    rw [if_pos (by omega)]
    rfl
end MCH2
