/-- the class's rows of chains -/
def ChC (K : Nat → Nat → Int32) (f : Nat → Nat → Bool) (n : Nat) : Prop := (∀ a, a < n → K 56 a = rv (nxG f n a)) ∧ K 54 8 = nI (tkG f n n)
abbrev fC (I : Nat → Nat → Int32) (sp : Nat → Nat) (ns : Nat) (d : pD) (cs : Nat → pC) : Nat → Nat → Bool := mayF d cs (fun s => I 26 s) (I 1 8) (RR d cs (alC I sp d) ns)
def FrLk (J K : Nat → Nat → Int32) : Prop := ∀ q i, q ≠ 56 → ¬ (69 ≤ q ∧ q ≤ 74) → ¬ (q = 54 ∧ i = 8) → ¬ (q = 0 ∧ i = 8) → K q i = J q i
/-- the chains stand -/
def LC (I K : Nat → Nat → Int32) (sp : Nat → Nat) (ns nstr nc : Nat) (d : pD) (cs : Nat → pC) (fr to : Nat → Nat) : Prop := (∃ J, DP I J sp ns nstr nc d cs fr to ∧ FrLk J K) ∧ ¬ K 0 8 = 0 ∧ ChC K (fC I sp ns d cs) (RR d cs (alC I sp d) ns).length ∧ CW K sp ns nstr nc d cs fr to ∧ PCs K ns d cs (alC I sp d) ∧ FlC K ns d cs (alC I sp d) (I 1 8) ∧ ¬ K 0 7 = 0
section CCHAIN
variable {z : Nat × (Nat → Int32)} {n : Nat} {mem : aM} {I : Nat → Nat → Int32} {sp : Nat → Nat} {pl : Bool} {Q : Option Value → Nat → aM → Prop} {R : Room}variable {ns nstr nc : Nat} {d : pD} {cs : Nat → pC} {fr to : Nat → Nat} {f : Nat → Nat → Bool}

theorem c_isFirst (T r : Nat) (hT : I 54 8 = nI T) (hT2 : T < 1024) (hr : r < 10) : aRuns mX1_isFirst (rK 0) [.ref 54, .int (nI r)] (nn pl) (MM I sp pl) (a_ri (if !T.testBit r then 1 else 0) (nn pl) (MM I sp pl)) := by
  refine aRuns_of pn_X1_isFirst (Nat.le_of_ble_eq_true rfl) (fun z => aE_loc (ls' := [_, _]) rfl ?_)
  refine aE_aload_n dX1_isFirst_0 rfl rfl ?_
  refine aE_geti dX1_isFirst_1 fw_X1_135 (lt_nn (by decide)) rfl (by decide) rfl ?_
  refine aE_top hT ?_
  refine aE_iload_n dX1_isFirst_4 rfl rfl ?_
  refine aE_ishr dX1_isFirst_5 ?_
  refine aE_iconst (v := 1) dX1_isFirst_6 rfl ?_
  refine aE_iand dX1_isFirst_7 ?_
  refine aE_top (nb_has (by omega) (by omega)) ?_
  refine aE_if_ne (tgt := 15) dX1_isFirst_8 (by decide) (fun h8 => ?_) (fun h8 => ?_)
  · skip
    refine aE_iconst (v := 0) dX1_isFirst_15 rfl ?_
    refine aE_zret dX1_isFirst_16 rfl (by first | exact Or.inl rfl | exact Or.inr rfl | exact wi_or _ _ _ | assumption) ⟨by decide, by decide⟩ ?_
    first
      | exact a_rio (by rw [tb_of h8]; rfl) rfl
      | exact a_rio (by rw [Bool.eq_false_iff.mpr (tb_no (by first | exact h8 | exact Classical.not_not.mp h8))]; rfl) rfl
  · skip
    refine aE_iconst (v := 1) dX1_isFirst_11 rfl ?_
    refine aE_goto (tgt := 16) dX1_isFirst_12 (by decide) ?_
    refine aE_zret dX1_isFirst_16 rfl (by first | exact Or.inl rfl | exact Or.inr rfl | exact wi_or _ _ _ | assumption) ⟨by decide, by decide⟩ ?_
    first
      | exact a_rio (by rw [tb_of h8]; rfl) rfl
      | exact a_rio (by rw [Bool.eq_false_iff.mpr (tb_no (by first | exact h8 | exact Classical.not_not.mp h8))]; rfl) rfl
theorem c_bitCount (T : Nat) (hT : T < 1024) : aRuns mJ6_bitCount_0f7a4 (rK 0) [.int (nI T)] n mem (a_ri (nI (cdB T 10)) n mem) := by
  refine aRuns_of pn_J6_bitCount_0f7a4 (Nat.le_of_ble_eq_true rfl) (fun z => aE_loc (ls' := [_]) rfl ?_)
  refine aE_iload_n dJ6_bitCount_0f7a4_0 rfl rfl ?_
  refine aE_iload_n dJ6_bitCount_0f7a4_1 rfl rfl ?_
  refine aE_iconst (v := 1) dJ6_bitCount_0f7a4_2 rfl ?_
  refine aE_iushr dJ6_bitCount_0f7a4_3 ?_
  refine aE_ldcw dJ6_bitCount_0f7a4_4 ct_J6_265 ?_
  refine aE_iand dJ6_bitCount_0f7a4_7 ?_
  refine aE_isub dJ6_bitCount_0f7a4_8 ?_
  refine aE_istore_n dJ6_bitCount_0f7a4_9 rfl (by decide) rfl (aE_loc (ls' := [_]) rfl ?_)
  refine aE_iload_n dJ6_bitCount_0f7a4_10 rfl rfl ?_
  refine aE_ldcw dJ6_bitCount_0f7a4_11 ct_J6_266 ?_
  refine aE_iand dJ6_bitCount_0f7a4_14 ?_
  refine aE_iload_n dJ6_bitCount_0f7a4_15 rfl rfl ?_
  refine aE_iconst (v := 2) dJ6_bitCount_0f7a4_16 rfl ?_
  refine aE_iushr dJ6_bitCount_0f7a4_17 ?_
  refine aE_ldcw dJ6_bitCount_0f7a4_18 ct_J6_266 ?_
  refine aE_iand dJ6_bitCount_0f7a4_21 ?_
  refine aE_iadd dJ6_bitCount_0f7a4_22 ?_
  refine aE_istore_n dJ6_bitCount_0f7a4_23 rfl (by decide) rfl (aE_loc (ls' := [_]) rfl ?_)
  refine aE_iload_n dJ6_bitCount_0f7a4_24 rfl rfl ?_
  refine aE_iload_n dJ6_bitCount_0f7a4_25 rfl rfl ?_
  refine aE_iconst (v := 4) dJ6_bitCount_0f7a4_26 rfl ?_
  refine aE_iushr dJ6_bitCount_0f7a4_27 ?_
  refine aE_iadd dJ6_bitCount_0f7a4_28 ?_
  refine aE_ldcw dJ6_bitCount_0f7a4_29 ct_J6_267 ?_
  refine aE_iand dJ6_bitCount_0f7a4_32 ?_
  refine aE_istore_n dJ6_bitCount_0f7a4_33 rfl (by decide) rfl (aE_loc (ls' := [_]) rfl ?_)
  refine aE_iload_n dJ6_bitCount_0f7a4_34 rfl rfl ?_
  refine aE_iload_n dJ6_bitCount_0f7a4_35 rfl rfl ?_
  refine aE_bipush (v := 8) dJ6_bitCount_0f7a4_36 (by decide) ?_
  refine aE_iushr dJ6_bitCount_0f7a4_38 ?_
  refine aE_iadd dJ6_bitCount_0f7a4_39 ?_
  refine aE_istore_n dJ6_bitCount_0f7a4_40 rfl (by decide) rfl (aE_loc (ls' := [_]) rfl ?_)
  refine aE_iload_n dJ6_bitCount_0f7a4_41 rfl rfl ?_
  refine aE_iload_n dJ6_bitCount_0f7a4_42 rfl rfl ?_
  refine aE_bipush (v := 16) dJ6_bitCount_0f7a4_43 (by decide) ?_
  refine aE_iushr dJ6_bitCount_0f7a4_45 ?_
  refine aE_iadd dJ6_bitCount_0f7a4_46 ?_
  refine aE_istore_n dJ6_bitCount_0f7a4_47 rfl (by decide) rfl (aE_loc (ls' := [_]) rfl ?_)
  refine aE_iload_n dJ6_bitCount_0f7a4_48 rfl rfl ?_
  refine aE_bipush (v := 63) dJ6_bitCount_0f7a4_49 (by decide) ?_
  refine aE_iand dJ6_bitCount_0f7a4_51 ?_
  refine aE_iret dJ6_bitCount_0f7a4_52 rfl ⟨by decide, by decide⟩ ?_
  exact a_rio (bc_all T hT) rfl
theorem c_busCount (n T : Nat) (hn : I 54 1 = nI n) (hT : I 54 8 = nI T) (hT2 : T < 1024) : aRuns mX1_busCount (rK 1) [.ref 54] (nn pl) (MM I sp pl) (a_ri (nI n - nI (cdB T 10)) (nn pl) (MM I sp pl)) := by
  refine aRuns_of pn_X1_busCount (Nat.le_of_ble_eq_true rfl) (fun z => aE_loc (ls' := [_]) rfl ?_)
  refine aE_aload_n dX1_busCount_0 rfl rfl ?_
  refine aE_geti dX1_busCount_1 fw_X1_37 (lt_nn (by decide)) rfl (by decide) rfl ?_
  refine aE_top hn ?_
  refine aE_aload_n dX1_busCount_4 rfl rfl ?_
  refine aE_geti dX1_busCount_5 fw_X1_135 (lt_nn (by decide)) rfl (by decide) rfl ?_
  refine aE_top hT ?_
  refine aE_cSi dX1_busCount_8 lk_X1_143 ms_J6_bitCount_0f7a4 (c_bitCount T hT2) rfl rfl ⟨by decide, by decide⟩ (Nat.le_of_ble_eq_true rfl) ⟨rfl, rfl⟩ ⟨by decide, by decide⟩ ?_
  refine aE_isub dX1_busCount_11 ?_
  refine aE_iret dX1_busCount_12 rfl ⟨by decide, by decide⟩ ?_
  exact ⟨rfl, rfl, rfl⟩
theorem l_driven2 (nx : Nat → Option Nat) (n T bb ii : Nat) (hn : I 54 1 = nI n) (h10 : n ≤ 10) (hii : ii < 2 ^ 31) (hnx : ∀ a, a < n → I 56 a = rv (nx a)) (hnb : ∀ a b, a < n → nx a = some b → b < n) (x : Int32) (fin : Option Nat) (hQ : qi Q (rv fin) I sp pl) : ∀ (m st : Nat) (ob : Option Nat), st + m = n → st ≤ min ii n → (∀ r, ob = some r → r < n) → itN nx (min ii n - st) ob = fin → aE z mX1_driven (rK 1) Q 55 [some (.ref 54), some (.int (nI bb)), some (.int (nI ii)), some (.int x), some (.int (rv ob)), some (.int (nI st))] [] (nn pl) (MM I sp pl) 0 0 := by
  intro m
  induction m with
  | zero =>
    intro st ob hst hle hob hit
    have he : fin = ob := by rw [← hit, show min ii n - st = 0 by omega]; rfl
    subst he
    by_cases hi : ii ≤ st
    · skip
      refine aE_iload dX1_driven_55 rfl ?_
      refine aE_iload_n dX1_driven_57 rfl rfl ?_
      refine aE_icmp_ge (tgt := 90) dX1_driven_58 (by decide) (fun h58 => ?_) (fun h58 => absurd ((nI_leI hii (by omega)).mpr hi) h58)
      refine aE_iload dX1_driven_90 rfl ?_
      refine aE_iret dX1_driven_92 rfl ⟨by decide, by decide⟩ ?_
      exact hQ
    · skip
      refine aE_iload dX1_driven_55 rfl ?_
      refine aE_iload_n dX1_driven_57 rfl rfl ?_
      refine aE_icmp_ge (tgt := 90) dX1_driven_58 (by decide) (fun h58 => absurd h58 (nI_ge (by omega) hii)) (fun h58 => ?_)
      refine aE_iload dX1_driven_61 rfl ?_
      refine aE_aload_n dX1_driven_63 rfl rfl ?_
      refine aE_geti dX1_driven_64 fw_X1_37 (lt_nn (by decide)) rfl (by decide) rfl ?_
      refine aE_icmp_ge (tgt := 90) dX1_driven_67 (by decide) (fun h67 => ?_) (fun h67 => absurd (by rw [hn, show st = n by omega]; exact Int32.le_refl _) h67)
      refine aE_iload dX1_driven_90 rfl ?_
      refine aE_iret dX1_driven_92 rfl ⟨by decide, by decide⟩ ?_
      exact hQ
  | succ m ih =>
    intro st ob hst hle hob hit
    by_cases hi : ii ≤ st
    · have he : fin = ob := by rw [← hit, show min ii n - st = 0 by omega]; rfl
      subst he
      refine aE_iload dX1_driven_55 rfl ?_
      refine aE_iload_n dX1_driven_57 rfl rfl ?_
      refine aE_icmp_ge (tgt := 90) dX1_driven_58 (by decide) (fun h58 => ?_) (fun h58 => absurd ((nI_leI hii (by omega)).mpr hi) h58)
      refine aE_iload dX1_driven_90 rfl ?_
      refine aE_iret dX1_driven_92 rfl ⟨by decide, by decide⟩ ?_
      exact hQ
    · cases ob with
      | none =>
        have he : fin = none := by rw [← hit]; exact itN_none nx _
        subst he
        refine aE_iload dX1_driven_55 rfl ?_
        refine aE_iload_n dX1_driven_57 rfl rfl ?_
        refine aE_icmp_ge (tgt := 90) dX1_driven_58 (by decide) (fun h58 => absurd h58 (nI_ge (by omega) hii)) (fun h58 => ?_)
        refine aE_iload dX1_driven_61 rfl ?_
        refine aE_aload_n dX1_driven_63 rfl rfl ?_
        refine aE_geti dX1_driven_64 fw_X1_37 (lt_nn (by decide)) rfl (by decide) rfl ?_
        refine aE_icmp_ge (tgt := 90) dX1_driven_67 (by decide) (fun h67 => absurd h67 (by rw [hn]; exact nI_ge (by omega) (by omega))) (fun h67 => ?_)
        refine aE_iload dX1_driven_70 rfl ?_
        refine aE_if_lt (tgt := 90) dX1_driven_72 (by decide) (fun h72 => ?_) (fun h72 => absurd (by decide) h72)
        refine aE_iload dX1_driven_90 rfl ?_
        refine aE_iret dX1_driven_92 rfl ⟨by decide, by decide⟩ ?_
        exact hQ
      | some r =>
        have hr := hob r rfl
        have ih2 := ih (st + 1) (nx r) (by omega) (by omega) (fun r2 h2 => hnb r r2 hr h2) (by
          rw [← hit, show min ii n - st = (min ii n - (st + 1)) + 1 by omega]; rfl)
        refine aE_iload dX1_driven_55 rfl ?_
        refine aE_iload_n dX1_driven_57 rfl rfl ?_
        refine aE_icmp_ge (tgt := 90) dX1_driven_58 (by decide) (fun h58 => absurd h58 (nI_ge (by omega) hii)) (fun h58 => ?_)
        refine aE_iload dX1_driven_61 rfl ?_
        refine aE_aload_n dX1_driven_63 rfl rfl ?_
        refine aE_geti dX1_driven_64 fw_X1_37 (lt_nn (by decide)) rfl (by decide) rfl ?_
        refine aE_icmp_ge (tgt := 90) dX1_driven_67 (by decide) (fun h67 => absurd h67 (by rw [hn]; exact nI_ge (by omega) (by omega))) (fun h67 => ?_)
        refine aE_iload dX1_driven_70 rfl ?_
        refine aE_if_lt (tgt := 90) dX1_driven_72 (by decide) (fun h72 => absurd h72 (nI_pos (by omega))) (fun h72 => ?_)
        refine aE_aload_n dX1_driven_75 rfl rfl ?_
        refine aE_getf (v := .ref 56) dX1_driven_76 fw_X1_15 (lt_nn (by decide)) rfl rfl ?_
        refine aE_iload dX1_driven_79 rfl ?_
        refine aE_ildM dX1_driven_81 (lt_nn (by decide)) rfl (by decide) rfl (show r < 10 by omega) ?_
        refine aE_top (hnx r hr) ?_
        refine aE_istore dX1_driven_82 (by decide) rfl (aE_loc (ls' := [_, _, _, _, _, _]) rfl ?_)
        refine aE_iinc dX1_driven_84 rfl (a_inc _) (by decide) rfl (aE_loc (ls' := [_, _, _, _, _, _]) rfl ?_)
        refine aE_goto (tgt := 55) dX1_driven_87 (by decide) ?_
        exact ih2
theorem l_driven1 (nx : Nat → Option Nat) (n T bb ii : Nat) (hn : I 54 1 = nI n) (h10 : n ≤ 10) (hii : ii < 2 ^ 31) (hnx : ∀ a, a < n → I 56 a = rv (nx a)) (hnb : ∀ a b, a < n → nx a = some b → b < n) (hT : I 54 8 = nI T) (hT2 : T < 1024) (hbb : bb < 2 ^ 31) (r0 : Nat) (hr0 : kth (fun r => !T.testBit r) n bb n 0 = some r0) (hQ : qi Q (rv (itN nx (min ii n) (some r0))) I sp pl) : ∀ (e r k : Nat), r + e = n → k ≤ r → kth (fun r => !T.testBit r) n bb e k = some r0 → ∀ (x : Int32), x = nI bb - nI k → aE z mX1_driven (rK 1) Q 8 [some (.ref 54), some (.int (nI bb)), some (.int (nI ii)), some (.int x), some (.int (-1)), some (.int (nI r))] [] (nn pl) (MM I sp pl) 0 0 := by
  intro e
  induction e with
  | zero => intro r k hr hk h; cases h
  | succ e ih =>
    intro r k hr hk h x hx
    rw [kth_s, show n - (e + 1) = r by omega] at h
    have tail : r0 = r → ∀ (x : Int32) r2, aE z mX1_driven (rK 1) Q 52 [some (.ref 54), some (.int (nI bb)), some (.int (nI ii)), some (.int x), some (.int (rv (some r0))), r2] [] (nn pl) (MM I sp pl) 0 0 := by
      intro hr1 x r2
      have h2 := l_driven2 (z := z) (Q := Q) (pl := pl) nx n T bb ii hn h10 hii hnx hnb x (itN nx (min ii n) (some r0)) hQ n 0 (some r0) (by omega) (by omega) (fun q hq => by cases hq; omega) rfl
      refine aE_iconst (v := 0) dX1_driven_52 rfl ?_
      refine aE_istore dX1_driven_53 (by decide) rfl (aE_loc (ls' := [_, _, _, _, _, _]) rfl ?_)
      exact h2
    by_cases hf : (!T.testBit r) = true
    · rw [if_pos hf] at h
      by_cases hkb : k = bb
      · rw [if_pos hkb] at h
        have hrr : r = r0 := Option.some.inj h
        subst hrr
        subst hkb
        rw [Int32.sub_self] at hx
        subst hx
        by_cases hl : r + 1 < n
        · skip
          refine aE_iload dX1_driven_8 rfl ?_
          refine aE_aload_n dX1_driven_10 rfl rfl ?_
          refine aE_geti dX1_driven_11 fw_X1_37 (lt_nn (by decide)) rfl (by decide) rfl ?_
          refine aE_icmp_ge (tgt := 52) dX1_driven_14 (by decide) (fun h14 => absurd h14 (by rw [hn]; exact nI_ge (by omega) (by omega))) (fun h14 => ?_)
          refine aE_iload dX1_driven_17 rfl ?_
          refine aE_if_ge (tgt := 52) dX1_driven_19 (by decide) (fun h19 => absurd h19 (by decide)) (fun h19 => ?_)
          refine aE_aload_n dX1_driven_22 rfl rfl ?_
          refine aE_iload dX1_driven_23 rfl ?_
          refine aE_cVi dX1_driven_25 lk_X1_148 mv_X1_isFirst (c_isFirst T r hT hT2 (by omega)) rfl (lt_nn (by decide)) rfl rfl ⟨by decide, by decide⟩ (Nat.le_of_ble_eq_true rfl) ⟨rfl, rfl⟩ ⟨by decide, by decide⟩ ?_
          rw [hf]
          refine aE_if_eq (tgt := 46) dX1_driven_28 (by decide) (fun h28 => absurd h28 (by decide)) (fun h28 => ?_)
          refine aE_iload_n dX1_driven_31 rfl rfl ?_
          refine aE_if_ne (tgt := 40) dX1_driven_32 (by decide) (fun h32 => absurd (rfl) h32) (fun h32 => ?_)
          refine aE_iload dX1_driven_35 rfl ?_
          refine aE_goto (tgt := 41) dX1_driven_37 (by decide) ?_
          refine aE_istore dX1_driven_41 (by decide) rfl (aE_loc (ls' := [_, _, _, _, _, _]) rfl ?_)
          refine aE_iinc dX1_driven_43 rfl (a_dec _) (by decide) rfl (aE_loc (ls' := [_, _, _, _, _, _]) rfl ?_)
          refine aE_iinc dX1_driven_46 rfl (a_inc _) (by decide) rfl (aE_loc (ls' := [_, _, _, _, _, _]) rfl ?_)
          refine aE_goto (tgt := 8) dX1_driven_49 (by decide) ?_
          
          refine aE_iload dX1_driven_8 rfl ?_
          refine aE_aload_n dX1_driven_10 rfl rfl ?_
          refine aE_geti dX1_driven_11 fw_X1_37 (lt_nn (by decide)) rfl (by decide) rfl ?_
          refine aE_icmp_ge (tgt := 52) dX1_driven_14 (by decide) (fun h14 => absurd h14 (by rw [hn]; exact nI_ge (by omega) (by omega))) (fun h14 => ?_)
          refine aE_iload dX1_driven_17 rfl ?_
          refine aE_if_ge (tgt := 52) dX1_driven_19 (by decide) (fun h19 => ?_) (fun h19 => absurd (nI_pos' (by omega)) h19)
          exact tail rfl _ _
        · skip
          refine aE_iload dX1_driven_8 rfl ?_
          refine aE_aload_n dX1_driven_10 rfl rfl ?_
          refine aE_geti dX1_driven_11 fw_X1_37 (lt_nn (by decide)) rfl (by decide) rfl ?_
          refine aE_icmp_ge (tgt := 52) dX1_driven_14 (by decide) (fun h14 => absurd h14 (by rw [hn]; exact nI_ge (by omega) (by omega))) (fun h14 => ?_)
          refine aE_iload dX1_driven_17 rfl ?_
          refine aE_if_ge (tgt := 52) dX1_driven_19 (by decide) (fun h19 => absurd h19 (by decide)) (fun h19 => ?_)
          refine aE_aload_n dX1_driven_22 rfl rfl ?_
          refine aE_iload dX1_driven_23 rfl ?_
          refine aE_cVi dX1_driven_25 lk_X1_148 mv_X1_isFirst (c_isFirst T r hT hT2 (by omega)) rfl (lt_nn (by decide)) rfl rfl ⟨by decide, by decide⟩ (Nat.le_of_ble_eq_true rfl) ⟨rfl, rfl⟩ ⟨by decide, by decide⟩ ?_
          rw [hf]
          refine aE_if_eq (tgt := 46) dX1_driven_28 (by decide) (fun h28 => absurd h28 (by decide)) (fun h28 => ?_)
          refine aE_iload_n dX1_driven_31 rfl rfl ?_
          refine aE_if_ne (tgt := 40) dX1_driven_32 (by decide) (fun h32 => absurd (rfl) h32) (fun h32 => ?_)
          refine aE_iload dX1_driven_35 rfl ?_
          refine aE_goto (tgt := 41) dX1_driven_37 (by decide) ?_
          refine aE_istore dX1_driven_41 (by decide) rfl (aE_loc (ls' := [_, _, _, _, _, _]) rfl ?_)
          refine aE_iinc dX1_driven_43 rfl (a_dec _) (by decide) rfl (aE_loc (ls' := [_, _, _, _, _, _]) rfl ?_)
          refine aE_iinc dX1_driven_46 rfl (a_inc _) (by decide) rfl (aE_loc (ls' := [_, _, _, _, _, _]) rfl ?_)
          refine aE_goto (tgt := 8) dX1_driven_49 (by decide) ?_
          
          refine aE_iload dX1_driven_8 rfl ?_
          refine aE_aload_n dX1_driven_10 rfl rfl ?_
          refine aE_geti dX1_driven_11 fw_X1_37 (lt_nn (by decide)) rfl (by decide) rfl ?_
          refine aE_icmp_ge (tgt := 52) dX1_driven_14 (by decide) (fun h14 => ?_) (fun h14 => absurd (by rw [hn, show r + 1 = n by omega]; exact Int32.le_refl _) h14)
          exact tail rfl _ _
      · rw [if_neg hkb] at h
        have hx0 : ¬ x = 0 := fun q => hkb ((nI_eq (by omega) hbb).mp (by
          rw [hx] at q
          have h3 : nI bb - nI k + nI k = 0 + nI k := by rw [q]
          rw [Int32.sub_add_cancel, Int32.zero_add] at h3
          exact h3.symm))
        have ih2 := ih (r + 1) (k + 1) (by omega) (by omega) h (x - 1) (by rw [hx, ← nI_1]; simp only [Int32.sub_eq_add_neg, Int32.neg_add, Int32.add_assoc])
        refine aE_iload dX1_driven_8 rfl ?_
        refine aE_aload_n dX1_driven_10 rfl rfl ?_
        refine aE_geti dX1_driven_11 fw_X1_37 (lt_nn (by decide)) rfl (by decide) rfl ?_
        refine aE_icmp_ge (tgt := 52) dX1_driven_14 (by decide) (fun h14 => absurd h14 (by rw [hn]; exact nI_ge (by omega) (by omega))) (fun h14 => ?_)
        refine aE_iload dX1_driven_17 rfl ?_
        refine aE_if_ge (tgt := 52) dX1_driven_19 (by decide) (fun h19 => absurd h19 (by decide)) (fun h19 => ?_)
        refine aE_aload_n dX1_driven_22 rfl rfl ?_
        refine aE_iload dX1_driven_23 rfl ?_
        refine aE_cVi dX1_driven_25 lk_X1_148 mv_X1_isFirst (c_isFirst T r hT hT2 (by omega)) rfl (lt_nn (by decide)) rfl rfl ⟨by decide, by decide⟩ (Nat.le_of_ble_eq_true rfl) ⟨rfl, rfl⟩ ⟨by decide, by decide⟩ ?_
        rw [hf]
        refine aE_if_eq (tgt := 46) dX1_driven_28 (by decide) (fun h28 => absurd h28 (by decide)) (fun h28 => ?_)
        refine aE_iload_n dX1_driven_31 rfl rfl ?_
        refine aE_if_ne (tgt := 40) dX1_driven_32 (by decide) (fun h32 => ?_) (fun h32 => absurd h32 (hx0))
        refine aE_iconst (v := -1) dX1_driven_40 rfl ?_
        refine aE_istore dX1_driven_41 (by decide) rfl (aE_loc (ls' := [_, _, _, _, _, _]) rfl ?_)
        refine aE_iinc dX1_driven_43 rfl (a_dec _) (by decide) rfl (aE_loc (ls' := [_, _, _, _, _, _]) rfl ?_)
        refine aE_iinc dX1_driven_46 rfl (a_inc _) (by decide) rfl (aE_loc (ls' := [_, _, _, _, _, _]) rfl ?_)
        refine aE_goto (tgt := 8) dX1_driven_49 (by decide) ?_
        exact ih2
    · rw [if_neg hf] at h
      have hf2 : (!T.testBit r) = false := Bool.eq_false_iff.mpr hf
      have ih2 := ih (r + 1) k (by omega) (by omega) h x hx
      refine aE_iload dX1_driven_8 rfl ?_
      refine aE_aload_n dX1_driven_10 rfl rfl ?_
      refine aE_geti dX1_driven_11 fw_X1_37 (lt_nn (by decide)) rfl (by decide) rfl ?_
      refine aE_icmp_ge (tgt := 52) dX1_driven_14 (by decide) (fun h14 => absurd h14 (by rw [hn]; exact nI_ge (by omega) (by omega))) (fun h14 => ?_)
      refine aE_iload dX1_driven_17 rfl ?_
      refine aE_if_ge (tgt := 52) dX1_driven_19 (by decide) (fun h19 => absurd h19 (by decide)) (fun h19 => ?_)
      refine aE_aload_n dX1_driven_22 rfl rfl ?_
      refine aE_iload dX1_driven_23 rfl ?_
      refine aE_cVi dX1_driven_25 lk_X1_148 mv_X1_isFirst (c_isFirst T r hT hT2 (by omega)) rfl (lt_nn (by decide)) rfl rfl ⟨by decide, by decide⟩ (Nat.le_of_ble_eq_true rfl) ⟨rfl, rfl⟩ ⟨by decide, by decide⟩ ?_
      rw [hf2]
      refine aE_if_eq (tgt := 46) dX1_driven_28 (by decide) (fun h28 => ?_) (fun h28 => absurd (rfl) h28)
      refine aE_iinc dX1_driven_46 rfl (a_inc _) (by decide) rfl (aE_loc (ls' := [_, _, _, _, _, _]) rfl ?_)
      refine aE_goto (tgt := 8) dX1_driven_49 (by decide) ?_
      exact ih2
theorem c_driven (nx : Nat → Option Nat) (n T bb ii : Nat) (hn : I 54 1 = nI n) (h10 : n ≤ 10) (hii : ii < 2 ^ 31) (hnx : ∀ a, a < n → I 56 a = rv (nx a)) (hnb : ∀ a b, a < n → nx a = some b → b < n) (hT : I 54 8 = nI T) (hT2 : T < 1024) (hbb : bb < 2 ^ 31) (r0 : Nat) (hr0 : kth (fun r => !T.testBit r) n bb n 0 = some r0) : aRuns mX1_driven (rK 1) [.ref 54, .int (nI bb), .int (nI ii)] (nn pl) (MM I sp pl) (a_ri (rv (itN nx (min ii n) (some r0))) (nn pl) (MM I sp pl)) := by
  refine aRuns_of pn_X1_driven (Nat.le_of_ble_eq_true rfl) (fun z => aE_loc (ls' := [_, _, _, _, _, _]) rfl ?_)
  refine aE_iload_n dX1_driven_0 rfl rfl ?_
  refine aE_istore_n dX1_driven_1 rfl (by decide) rfl (aE_loc (ls' := [_, _, _, _, _, _]) rfl ?_)
  refine aE_iconst (v := -1) dX1_driven_2 rfl ?_
  refine aE_istore dX1_driven_3 (by decide) rfl (aE_loc (ls' := [_, _, _, _, _, _]) rfl ?_)
  refine aE_iconst (v := 0) dX1_driven_5 rfl ?_
  refine aE_istore dX1_driven_6 (by decide) rfl (aE_loc (ls' := [_, _, _, _, _, _]) rfl ?_)
  exact l_driven1 nx n T bb ii hn h10 hii hnx hnb hT hT2 hbb r0 hr0 ⟨rfl, rfl, rfl⟩ n 0 0 (by omega) (by omega) hr0 _ (by rw [show nI 0 = 0 from rfl, Int32.sub_zero])
theorem l_spec (nx : Nat → Option Nat) (n : Nat) (hn : I 54 1 = nI n) (h10 : n ≤ 10) (hnx : ∀ a, a < n → I 56 a = rv (nx a)) (hnb : ∀ a b, a < n → nx a = some b → b < n) (g : Nat → Bool) (sc : Nat → Nat) (hsc : ∀ r, r < n → sc r < 4 ∧ I 55 r = nI (sc r) ∧ (I (28 + 4 * sc r) 0 = 3 ↔ g r = true)) (r0 : Nat) : ∀ (m st : Nat) (ob : Option Nat), st + m = n → (∀ r, ob = some r → r < n) → qi Q (if anyN g nx m ob then 1 else 0) I sp pl → aE z mX1_drivesSpecial (rK 1) Q 5 [some (.ref 54), some (.ref 1), some (.int (nI r0)), some (.int (rv ob)), some (.int (nI st))] [] (nn pl) (MM I sp pl) 0 0 := by
  intro m
  induction m with
  | zero =>
    intro st ob hst hob hQ
    have hQ : qi Q 0 I sp pl := hQ
    refine aE_iload dX1_drivesSpecial_5 rfl ?_
    refine aE_aload_n dX1_drivesSpecial_7 rfl rfl ?_
    refine aE_geti dX1_drivesSpecial_8 fw_X1_37 (lt_nn (by decide)) rfl (by decide) rfl ?_
    refine aE_icmp_ge (tgt := 46) dX1_drivesSpecial_11 (by decide) (fun h11 => ?_) (fun h11 => absurd (by rw [hn, show st = n by omega]; exact Int32.le_refl _) h11)
    refine aE_iconst (v := 0) dX1_drivesSpecial_46 rfl ?_
    refine aE_zret dX1_drivesSpecial_47 rfl (by first | exact Or.inl rfl | exact Or.inr rfl | exact wi_or _ _ _ | assumption) ⟨by decide, by decide⟩ ?_
    exact hQ
  | succ m ih =>
    intro st ob hst hob hQ
    cases ob with
    | none =>
      rw [anyN_none] at hQ
      have hQ : qi Q 0 I sp pl := hQ
      refine aE_iload dX1_drivesSpecial_5 rfl ?_
      refine aE_aload_n dX1_drivesSpecial_7 rfl rfl ?_
      refine aE_geti dX1_drivesSpecial_8 fw_X1_37 (lt_nn (by decide)) rfl (by decide) rfl ?_
      refine aE_icmp_ge (tgt := 46) dX1_drivesSpecial_11 (by decide) (fun h11 => absurd h11 (by rw [hn]; exact nI_ge (by omega) (by omega))) (fun h11 => ?_)
      refine aE_iload_n dX1_drivesSpecial_14 rfl rfl ?_
      refine aE_if_lt (tgt := 46) dX1_drivesSpecial_15 (by decide) (fun h15 => ?_) (fun h15 => absurd (by decide) h15)
      refine aE_iconst (v := 0) dX1_drivesSpecial_46 rfl ?_
      refine aE_zret dX1_drivesSpecial_47 rfl (by first | exact Or.inl rfl | exact Or.inr rfl | exact wi_or _ _ _ | assumption) ⟨by decide, by decide⟩ ?_
      exact hQ
    | some r =>
      have hr := hob r rfl
      obtain ⟨q1, q2, q3⟩ := hsc r hr
      have e : anyN g nx (m + 1) (some r) = (g r || anyN g nx m (nx r)) := rfl
      rw [e] at hQ
      by_cases hg : g r = true
      · rw [hg, Bool.true_or] at hQ
        have hQ : qi Q 1 I sp pl := hQ
        refine aE_iload dX1_drivesSpecial_5 rfl ?_
        refine aE_aload_n dX1_drivesSpecial_7 rfl rfl ?_
        refine aE_geti dX1_drivesSpecial_8 fw_X1_37 (lt_nn (by decide)) rfl (by decide) rfl ?_
        refine aE_icmp_ge (tgt := 46) dX1_drivesSpecial_11 (by decide) (fun h11 => absurd h11 (by rw [hn]; exact nI_ge (by omega) (by omega))) (fun h11 => ?_)
        refine aE_iload_n dX1_drivesSpecial_14 rfl rfl ?_
        refine aE_if_lt (tgt := 46) dX1_drivesSpecial_15 (by decide) (fun h15 => absurd h15 (nI_pos (by omega))) (fun h15 => ?_)
        refine aE_aload_n dX1_drivesSpecial_18 rfl rfl ?_
        refine aE_aload_n dX1_drivesSpecial_19 rfl rfl ?_
        refine aE_iload_n dX1_drivesSpecial_20 rfl rfl ?_
        refine aE_cVr dX1_drivesSpecial_21 lk_X1_81 mv_X1_schoolOf (c_schoolOf r (sc r) (by omega) q1 q2) rfl (lt_nn (by decide)) rfl rfl ⟨by decide, by decide⟩ (Nat.le_of_ble_eq_true rfl) ⟨rfl, rfl⟩ ⟨by decide, by decide⟩ ?_
        refine aE_geti dX1_drivesSpecial_24 fw_X1_156 (lt_nn (by omega)) (sh_sch q1) (mc_sch (i := 0) q1 (by decide)).1 (mc_sch (i := 0) q1 (by decide)).2 ?_
        refine aE_iconst (v := 3) dX1_drivesSpecial_27 rfl ?_
        refine aE_icmp_ne (tgt := 33) dX1_drivesSpecial_28 (by decide) (fun h28 => absurd (q3.mpr hg) h28) (fun h28 => ?_)
        refine aE_iconst (v := 1) dX1_drivesSpecial_31 rfl ?_
        refine aE_zret dX1_drivesSpecial_32 rfl (by first | exact Or.inl rfl | exact Or.inr rfl | exact wi_or _ _ _ | assumption) ⟨by decide, by decide⟩ ?_
        exact hQ
      · rw [Bool.eq_false_iff.mpr hg, Bool.false_or] at hQ
        have ih2 := ih (st + 1) (nx r) (by omega) (fun r2 h2 => hnb r r2 hr h2) hQ
        refine aE_iload dX1_drivesSpecial_5 rfl ?_
        refine aE_aload_n dX1_drivesSpecial_7 rfl rfl ?_
        refine aE_geti dX1_drivesSpecial_8 fw_X1_37 (lt_nn (by decide)) rfl (by decide) rfl ?_
        refine aE_icmp_ge (tgt := 46) dX1_drivesSpecial_11 (by decide) (fun h11 => absurd h11 (by rw [hn]; exact nI_ge (by omega) (by omega))) (fun h11 => ?_)
        refine aE_iload_n dX1_drivesSpecial_14 rfl rfl ?_
        refine aE_if_lt (tgt := 46) dX1_drivesSpecial_15 (by decide) (fun h15 => absurd h15 (nI_pos (by omega))) (fun h15 => ?_)
        refine aE_aload_n dX1_drivesSpecial_18 rfl rfl ?_
        refine aE_aload_n dX1_drivesSpecial_19 rfl rfl ?_
        refine aE_iload_n dX1_drivesSpecial_20 rfl rfl ?_
        refine aE_cVr dX1_drivesSpecial_21 lk_X1_81 mv_X1_schoolOf (c_schoolOf r (sc r) (by omega) q1 q2) rfl (lt_nn (by decide)) rfl rfl ⟨by decide, by decide⟩ (Nat.le_of_ble_eq_true rfl) ⟨rfl, rfl⟩ ⟨by decide, by decide⟩ ?_
        refine aE_geti dX1_drivesSpecial_24 fw_X1_156 (lt_nn (by omega)) (sh_sch q1) (mc_sch (i := 0) q1 (by decide)).1 (mc_sch (i := 0) q1 (by decide)).2 ?_
        refine aE_iconst (v := 3) dX1_drivesSpecial_27 rfl ?_
        refine aE_icmp_ne (tgt := 33) dX1_drivesSpecial_28 (by decide) (fun h28 => ?_) (fun h28 => absurd h28 (fun w => hg (q3.mp w)))
        refine aE_aload_n dX1_drivesSpecial_33 rfl rfl ?_
        refine aE_getf (v := .ref 56) dX1_drivesSpecial_34 fw_X1_15 (lt_nn (by decide)) rfl rfl ?_
        refine aE_iload_n dX1_drivesSpecial_37 rfl rfl ?_
        refine aE_ildM dX1_drivesSpecial_38 (lt_nn (by decide)) rfl (by decide) rfl (by omega) ?_
        refine aE_top (hnx r hr) ?_
        refine aE_istore_n dX1_drivesSpecial_39 rfl (by decide) rfl (aE_loc (ls' := [_, _, _, _, _]) rfl ?_)
        refine aE_iinc dX1_drivesSpecial_40 rfl (a_inc _) (by decide) rfl (aE_loc (ls' := [_, _, _, _, _]) rfl ?_)
        refine aE_goto (tgt := 5) dX1_drivesSpecial_43 (by decide) ?_
        exact ih2
theorem c_drivesSpecial (nx : Nat → Option Nat) (n : Nat) (hn : I 54 1 = nI n) (h10 : n ≤ 10) (hnx : ∀ a, a < n → I 56 a = rv (nx a)) (hnb : ∀ a b, a < n → nx a = some b → b < n) (g : Nat → Bool) (sc : Nat → Nat) (hsc : ∀ r, r < n → sc r < 4 ∧ I 55 r = nI (sc r) ∧ (I (28 + 4 * sc r) 0 = 3 ↔ g r = true)) (r : Nat) (hr : r < n) : aRuns mX1_drivesSpecial (rK 1) [.ref 54, .ref 1, .int (nI r)] (nn pl) (MM I sp pl) (a_ri (if anyN g nx n (some r) then 1 else 0) (nn pl) (MM I sp pl)) := by
  refine aRuns_of pn_X1_drivesSpecial (Nat.le_of_ble_eq_true rfl) (fun z => aE_loc (ls' := [_, _, _, _, _]) rfl ?_)
  refine aE_iload_n dX1_drivesSpecial_0 rfl rfl ?_
  refine aE_istore_n dX1_drivesSpecial_1 rfl (by decide) rfl (aE_loc (ls' := [_, _, _, _, _]) rfl ?_)
  refine aE_iconst (v := 0) dX1_drivesSpecial_2 rfl ?_
  refine aE_istore dX1_drivesSpecial_3 (by decide) rfl (aE_loc (ls' := [_, _, _, _, _]) rfl ?_)
  exact l_spec nx n hn h10 hnx hnb g sc hsc r n 0 (some r) (by omega) (fun q hq => by cases hq; exact hr) ⟨rfl, rfl, rfl⟩
theorem l_specB (nx : Nat → Option Nat) (n : Nat) (hn : I 54 1 = nI n) (h10 : n ≤ 10) (hnx : ∀ a, a < n → I 56 a = rv (nx a)) (hnb : ∀ a b, a < n → nx a = some b → b < n) (g : Nat → Bool) (sc : Nat → Nat) (hsc : ∀ r, r < n → sc r < 4 ∧ I 55 r = nI (sc r) ∧ (I (28 + 4 * sc r) 0 = 3 ↔ g r = true)) (T : Nat) (hT : I 54 8 = nI T) (hT2 : T < 1024) (hQ : qi Q (nI (cntP (fun r => !T.testBit r && anyN g nx n (some r)) n)) I sp pl) : ∀ (e r : Nat), r + e = n → aE z mX1_specialBuses (rK 2) Q 4 [some (.ref 54), some (.ref 1), some (.int (nI (cntP (fun r => !T.testBit r && anyN g nx n (some r)) r))), some (.int (nI r))] [] (nn pl) (MM I sp pl) 0 0 := by
  intro e
  induction e with
  | zero =>
    intro r hr
    have hr : r = n := by omega
    subst hr
    refine aE_iload_n dX1_specialBuses_4 rfl rfl ?_
    refine aE_aload_n dX1_specialBuses_5 rfl rfl ?_
    refine aE_geti dX1_specialBuses_6 fw_X1_37 (lt_nn (by decide)) rfl (by decide) rfl ?_
    refine aE_icmp_ge (tgt := 38) dX1_specialBuses_9 (by decide) (fun h9 => ?_) (fun h9 => absurd (by rw [hn]; exact Int32.le_refl _) h9)
    refine aE_iload_n dX1_specialBuses_38 rfl rfl ?_
    refine aE_iret dX1_specialBuses_39 rfl ⟨by decide, by decide⟩ ?_
    exact hQ
  | succ e ih =>
    intro r hr
    have ih2 := ih (r + 1) (by omega)
    rw [cntP_s] at ih2
    by_cases h1 : (!T.testBit r) = true
    · by_cases h2 : anyN g nx n (some r) = true
      · rw [if_pos (by rw [h1, h2]; rfl)] at ih2
        refine aE_iload_n dX1_specialBuses_4 rfl rfl ?_
        refine aE_aload_n dX1_specialBuses_5 rfl rfl ?_
        refine aE_geti dX1_specialBuses_6 fw_X1_37 (lt_nn (by decide)) rfl (by decide) rfl ?_
        refine aE_icmp_ge (tgt := 38) dX1_specialBuses_9 (by decide) (fun h9 => absurd h9 (by rw [hn]; exact nI_ge (by omega) (by omega))) (fun h9 => ?_)
        refine aE_aload_n dX1_specialBuses_12 rfl rfl ?_
        refine aE_iload_n dX1_specialBuses_13 rfl rfl ?_
        refine aE_cVi dX1_specialBuses_14 lk_X1_148 mv_X1_isFirst (c_isFirst T r hT hT2 (by omega)) rfl (lt_nn (by decide)) rfl rfl ⟨by decide, by decide⟩ (Nat.le_of_ble_eq_true rfl) ⟨rfl, rfl⟩ ⟨by decide, by decide⟩ ?_
        rw [h1]
        refine aE_if_eq (tgt := 32) dX1_specialBuses_17 (by decide) (fun h17 => absurd h17 (by decide)) (fun h17 => ?_)
        refine aE_aload_n dX1_specialBuses_20 rfl rfl ?_
        refine aE_aload_n dX1_specialBuses_21 rfl rfl ?_
        refine aE_iload_n dX1_specialBuses_22 rfl rfl ?_
        refine aE_cVi dX1_specialBuses_23 lk_X1_152 mv_X1_drivesSpecial (c_drivesSpecial nx n hn h10 hnx hnb g sc hsc r (by omega)) rfl (lt_nn (by decide)) rfl rfl ⟨by decide, by decide⟩ (Nat.le_of_ble_eq_true rfl) ⟨rfl, rfl⟩ ⟨by decide, by decide⟩ ?_
        rw [h2]
        refine aE_if_eq (tgt := 32) dX1_specialBuses_26 (by decide) (fun h26 => absurd h26 (by decide)) (fun h26 => ?_)
        refine aE_iinc dX1_specialBuses_29 rfl (a_inc _) (by decide) rfl (aE_loc (ls' := [_, _, _, _]) rfl ?_)
        refine aE_iinc dX1_specialBuses_32 rfl (a_inc _) (by decide) rfl (aE_loc (ls' := [_, _, _, _]) rfl ?_)
        refine aE_goto (tgt := 4) dX1_specialBuses_35 (by decide) ?_
        exact ih2
      · have h2f := Bool.eq_false_iff.mpr h2
        rw [if_neg (by rw [h1, h2f]; decide), Nat.add_zero] at ih2
        refine aE_iload_n dX1_specialBuses_4 rfl rfl ?_
        refine aE_aload_n dX1_specialBuses_5 rfl rfl ?_
        refine aE_geti dX1_specialBuses_6 fw_X1_37 (lt_nn (by decide)) rfl (by decide) rfl ?_
        refine aE_icmp_ge (tgt := 38) dX1_specialBuses_9 (by decide) (fun h9 => absurd h9 (by rw [hn]; exact nI_ge (by omega) (by omega))) (fun h9 => ?_)
        refine aE_aload_n dX1_specialBuses_12 rfl rfl ?_
        refine aE_iload_n dX1_specialBuses_13 rfl rfl ?_
        refine aE_cVi dX1_specialBuses_14 lk_X1_148 mv_X1_isFirst (c_isFirst T r hT hT2 (by omega)) rfl (lt_nn (by decide)) rfl rfl ⟨by decide, by decide⟩ (Nat.le_of_ble_eq_true rfl) ⟨rfl, rfl⟩ ⟨by decide, by decide⟩ ?_
        rw [h1]
        refine aE_if_eq (tgt := 32) dX1_specialBuses_17 (by decide) (fun h17 => absurd h17 (by decide)) (fun h17 => ?_)
        refine aE_aload_n dX1_specialBuses_20 rfl rfl ?_
        refine aE_aload_n dX1_specialBuses_21 rfl rfl ?_
        refine aE_iload_n dX1_specialBuses_22 rfl rfl ?_
        refine aE_cVi dX1_specialBuses_23 lk_X1_152 mv_X1_drivesSpecial (c_drivesSpecial nx n hn h10 hnx hnb g sc hsc r (by omega)) rfl (lt_nn (by decide)) rfl rfl ⟨by decide, by decide⟩ (Nat.le_of_ble_eq_true rfl) ⟨rfl, rfl⟩ ⟨by decide, by decide⟩ ?_
        rw [h2f]
        refine aE_if_eq (tgt := 32) dX1_specialBuses_26 (by decide) (fun h26 => ?_) (fun h26 => absurd (rfl) h26)
        refine aE_iinc dX1_specialBuses_32 rfl (a_inc _) (by decide) rfl (aE_loc (ls' := [_, _, _, _]) rfl ?_)
        refine aE_goto (tgt := 4) dX1_specialBuses_35 (by decide) ?_
        exact ih2
    · have h1f : (!T.testBit r) = false := Bool.eq_false_iff.mpr h1
      rw [if_neg (by rw [h1f, Bool.false_and]; decide), Nat.add_zero] at ih2
      refine aE_iload_n dX1_specialBuses_4 rfl rfl ?_
      refine aE_aload_n dX1_specialBuses_5 rfl rfl ?_
      refine aE_geti dX1_specialBuses_6 fw_X1_37 (lt_nn (by decide)) rfl (by decide) rfl ?_
      refine aE_icmp_ge (tgt := 38) dX1_specialBuses_9 (by decide) (fun h9 => absurd h9 (by rw [hn]; exact nI_ge (by omega) (by omega))) (fun h9 => ?_)
      refine aE_aload_n dX1_specialBuses_12 rfl rfl ?_
      refine aE_iload_n dX1_specialBuses_13 rfl rfl ?_
      refine aE_cVi dX1_specialBuses_14 lk_X1_148 mv_X1_isFirst (c_isFirst T r hT hT2 (by omega)) rfl (lt_nn (by decide)) rfl rfl ⟨by decide, by decide⟩ (Nat.le_of_ble_eq_true rfl) ⟨rfl, rfl⟩ ⟨by decide, by decide⟩ ?_
      rw [h1f]
      refine aE_if_eq (tgt := 32) dX1_specialBuses_17 (by decide) (fun h17 => ?_) (fun h17 => absurd (rfl) h17)
      refine aE_iinc dX1_specialBuses_32 rfl (a_inc _) (by decide) rfl (aE_loc (ls' := [_, _, _, _]) rfl ?_)
      refine aE_goto (tgt := 4) dX1_specialBuses_35 (by decide) ?_
      exact ih2
theorem c_specialBuses (nx : Nat → Option Nat) (n : Nat) (hn : I 54 1 = nI n) (h10 : n ≤ 10) (hnx : ∀ a, a < n → I 56 a = rv (nx a)) (hnb : ∀ a b, a < n → nx a = some b → b < n) (g : Nat → Bool) (sc : Nat → Nat) (hsc : ∀ r, r < n → sc r < 4 ∧ I 55 r = nI (sc r) ∧ (I (28 + 4 * sc r) 0 = 3 ↔ g r = true)) (T : Nat) (hT : I 54 8 = nI T) (hT2 : T < 1024) : aRuns mX1_specialBuses (rK 2) [.ref 54, .ref 1] (nn pl) (MM I sp pl) (a_ri (nI (cntP (fun r => !T.testBit r && anyN g nx n (some r)) n)) (nn pl) (MM I sp pl)) := by
  refine aRuns_of pn_X1_specialBuses (Nat.le_of_ble_eq_true rfl) (fun z => aE_loc (ls' := [_, _, _, _]) rfl ?_)
  refine aE_iconst (v := 0) dX1_specialBuses_0 rfl ?_
  refine aE_istore_n dX1_specialBuses_1 rfl (by decide) rfl (aE_loc (ls' := [_, _, _, _]) rfl ?_)
  refine aE_iconst (v := 0) dX1_specialBuses_2 rfl ?_
  refine aE_istore_n dX1_specialBuses_3 rfl (by decide) rfl (aE_loc (ls' := [_, _, _, _]) rfl ?_)
  exact l_specB nx n hn h10 hnx hnb g sc hsc T hT hT2 ⟨rfl, rfl, rfl⟩ n 0 (by omega)
theorem c_linkChains_t (hW : CW I sp ns nstr nc d cs fr to) (hbe : ∀ s, s < ns → 0 ≤ (I 26 s).toInt ∧ (I 26 s).toInt ≤ 6) (hsl : 0 ≤ (I 1 8).toInt ∧ (I 1 8).toInt ≤ 30) (hst : ¬ I 0 7 = 0 → PCs I ns d cs (alC I sp d) ∧ FlC I ns d cs (alC I sp d) (I 1 8)) (hch : ¬ I 0 8 = 0 → ¬ I 0 7 = 0 ∧ ChC I (fC I sp ns d cs) (RR d cs (alC I sp d) ns).length) (hN : ∀ J, DP I J sp ns nstr nc d cs fr to → allH d cs (alC I sp d) ns = false → qi Q 0 J sp true) (hO : ∀ K, LC I K sp ns nstr nc d cs fr to → allH d cs (alC I sp d) ns = true → qi Q 1 K sp true) : aRuns mX11_linkChains (rK 6) [.ref 0] (nn true) (MM I sp true) Q := by
  refine aRuns_of pn_X11_linkChains (Nat.le_of_ble_eq_true rfl) (fun z => aE_loc (ls' := [_]) rfl ?_)
  refine aE_aload_n dX11_linkChains_0 rfl rfl ?_
  refine aE_cVq dX11_linkChains_1 lk_X11_181 mv_X11_drawPlans (c_drawPlans_t (Q := (fun (r : Option Value) (n' : Nat) (m' : aM) => r = none ∧ n' = nn true ∧ ∃ J, m' = MM J sp true ∧ DP I J sp ns nstr nc d cs fr to)) hW hst (fun J a b c e f g => ⟨rfl, rfl, J, rfl, a, b, c, e, f, g⟩)) rfl (lt_nn (by decide)) rfl rfl ⟨by decide, by decide⟩ (Nat.le_of_ble_eq_true rfl) ⟨rfl, rfl⟩ ⟨by decide, by decide⟩ ?_
  rintro r n' m' ⟨rfl, rfl, J, rfl, hJ⟩
  have hWJ := hJ.2.2.1
  have hP := hJ.2.2.2.2.1
  have hF := hJ.2.2.2.2.2
  have hA := CW_al hW
  have f26 : (fun s => J 26 s) = (fun s => I 26 s) := funext fun s => hJ.1 26 s (by omega) (by omega) (by omega) (by omega) (by omega) (by omega) (by omega) (by omega) (by omega)
  have f08 : J 0 8 = I 0 8 := hJ.1 0 8 (by omega) (by omega) (by omega) (by omega) (by omega) (by omega) (by omega) (by omega) (by omega)
  have hd := CW_d01 hW
  have hc : ∀ s, s < ns → (cs s).2.toInt ≤ 90 := fun s hs => (hW.2.2.2.2.2.2.2.2.2.2.1 s hs).2.2.2
  refine aE_aload_n dX11_linkChains_4 rfl rfl ?_
  refine aE_getf (v := .ref 54) dX11_linkChains_5 fw_X11_19 (lt_nn (by decide)) rfl rfl ?_
  refine aE_geti dX11_linkChains_8 fw_X11_208 (lt_nn (by decide)) rfl (by decide) rfl ?_
  refine aE_if_eq (tgt := 40) dX11_linkChains_11 (by decide) (fun h11 => ?_) (fun h11 => ?_)
  · skip
    have ha : allH d cs (alC I sp d) ns = false := by
      cases q : allH d cs (alC I sp d) ns with
      | false => rfl
      | true => have := hF.1; rw [q, h11] at this; exact absurd this (by decide)
    refine aE_aload_n dX11_linkChains_40 rfl rfl ?_
    refine aE_getf (v := .ref 54) dX11_linkChains_41 fw_X11_19 (lt_nn (by decide)) rfl rfl ?_
    refine aE_geti dX11_linkChains_44 fw_X11_208 (lt_nn (by decide)) rfl (by decide) rfl ?_
    first
      | refine aE_top (x' := 0) h11 ?_
      | refine aE_top (x' := 1) (by rw [iu_ne (by omega), k1 54 0 (by omega) (by omega) (by omega), hF.1, ha]; rfl) ?_
      | refine aE_top (x' := 1) (by rw [hF.1, ha]; rfl) ?_
    refine aE_zret dX11_linkChains_47 rfl (by first | exact Or.inl rfl | exact Or.inr rfl | exact wi_or _ _ _ | assumption) ⟨by decide, by decide⟩ ?_
    first
      | exact hN J hJ ha
      | (have hJI : ¬ I 0 7 = 0 ∧ ChC I (fC I sp ns d cs) (RR d cs (alC I sp d) ns).length := hch (by rw [← f08]; exact h18)
         have e := hJ.2.1 hJI.1
         refine hO J ⟨⟨J, hJ, fun _ _ _ _ _ _ => rfl⟩, h18, ?_, hWJ, hP, hF, hJ.2.2.2.1⟩ ha
         rw [e]; exact hJI.2)
      | (have h8 := hW.2.1.2
         have kf : ∀ q i, q ≠ 56 → ¬ (69 ≤ q ∧ q ≤ 74) → ¬ (q = 54 ∧ i = 8) → ¬ (q = 0 ∧ i = 8) → iu K 0 8 1 q i = J q i := fun q i x1 x2 x3 x4 => (iu_ne (by omega)).trans (k1 q i x1 x2 x3)
         refine hO _ ⟨⟨J, hJ, kf⟩, by rw [iu_eq]; decide, ⟨fun a ha => (iu_ne (by omega)).trans ?_, (iu_ne (by omega)).trans ?_⟩, CW_fr hWJ (fun q i x1 x2 x3 x4 x5 x6 => kf q i (by omega) (by omega) (by omega) (by omega)) (fun hm a b ha hb => ?_), PCs_fr hW.1.2 hP (fun q i hq => kf q i (by omega) (by omega) (by omega) (by omega)), FlC_fr hA hF (fun q i hq => kf q i (by omega) (by omega) (by omega) (by omega)), ?_⟩ ha
         · rw [k2 a ha]; unfold fC; rw [f26]
         · rw [k3]; unfold fC; rw [f26]
         · rw [kf 2 8 (by omega) (by omega) (by omega) (by omega)] at hm
           rw [kf _ _ (by omega) (by omega) (by omega) (by omega)]
           exact hWJ.2.2.2.2.2.2.2.2.2.2.2 hm a b ha hb
         · rw [kf 0 7 (by omega) (by omega) (by omega) (by omega)]; exact hJ.2.2.2.1)
  · skip
    have ha : allH d cs (alC I sp d) ns = true := by
      cases q : allH d cs (alC I sp d) ns with
      | true => rfl
      | false => have := hF.1; rw [q] at this; exact absurd this h11
    refine aE_aload_n dX11_linkChains_14 rfl rfl ?_
    refine aE_geti dX11_linkChains_15 fw_X11_142 (lt_nn (by decide)) rfl (by decide) rfl ?_
    refine aE_if_ne (tgt := 40) dX11_linkChains_18 (by decide) (fun h18 => ?_) (fun h18 => ?_)
    · skip
      refine aE_aload_n dX11_linkChains_40 rfl rfl ?_
      refine aE_getf (v := .ref 54) dX11_linkChains_41 fw_X11_19 (lt_nn (by decide)) rfl rfl ?_
      refine aE_geti dX11_linkChains_44 fw_X11_208 (lt_nn (by decide)) rfl (by decide) rfl ?_
      first
        | refine aE_top (x' := 0) h11 ?_
        | refine aE_top (x' := 1) (by rw [iu_ne (by omega), k1 54 0 (by omega) (by omega) (by omega), hF.1, ha]; rfl) ?_
        | refine aE_top (x' := 1) (by rw [hF.1, ha]; rfl) ?_
      refine aE_zret dX11_linkChains_47 rfl (by first | exact Or.inl rfl | exact Or.inr rfl | exact wi_or _ _ _ | assumption) ⟨by decide, by decide⟩ ?_
      first
        | exact hN J hJ ha
        | (have hJI : ¬ I 0 7 = 0 ∧ ChC I (fC I sp ns d cs) (RR d cs (alC I sp d) ns).length := hch (by rw [← f08]; exact h18)
           have e := hJ.2.1 hJI.1
           refine hO J ⟨⟨J, hJ, fun _ _ _ _ _ _ => rfl⟩, h18, ?_, hWJ, hP, hF, hJ.2.2.2.1⟩ ha
           rw [e]; exact hJI.2)
        | (have h8 := hW.2.1.2
           have kf : ∀ q i, q ≠ 56 → ¬ (69 ≤ q ∧ q ≤ 74) → ¬ (q = 54 ∧ i = 8) → ¬ (q = 0 ∧ i = 8) → iu K 0 8 1 q i = J q i := fun q i x1 x2 x3 x4 => (iu_ne (by omega)).trans (k1 q i x1 x2 x3)
           refine hO _ ⟨⟨J, hJ, kf⟩, by rw [iu_eq]; decide, ⟨fun a ha => (iu_ne (by omega)).trans ?_, (iu_ne (by omega)).trans ?_⟩, CW_fr hWJ (fun q i x1 x2 x3 x4 x5 x6 => kf q i (by omega) (by omega) (by omega) (by omega)) (fun hm a b ha hb => ?_), PCs_fr hW.1.2 hP (fun q i hq => kf q i (by omega) (by omega) (by omega) (by omega)), FlC_fr hA hF (fun q i hq => kf q i (by omega) (by omega) (by omega) (by omega)), ?_⟩ ha
           · rw [k2 a ha]; unfold fC; rw [f26]
           · rw [k3]; unfold fC; rw [f26]
           · rw [kf 2 8 (by omega) (by omega) (by omega) (by omega)] at hm
             rw [kf _ _ (by omega) (by omega) (by omega) (by omega)]
             exact hWJ.2.2.2.2.2.2.2.2.2.2.2 hm a b ha hb
           · rw [kf 0 7 (by omega) (by omega) (by omega) (by omega)]; exact hJ.2.2.2.1)
    · skip
      refine aE_aload_n dX11_linkChains_21 rfl rfl ?_
      refine aE_getf (v := .ref 54) dX11_linkChains_22 fw_X11_19 (lt_nn (by decide)) rfl rfl ?_
      refine aE_aload_n dX11_linkChains_25 rfl rfl ?_
      refine aE_getf (v := .ref 1) dX11_linkChains_26 fw_X11_10 (lt_nn (by decide)) rfl rfl ?_
      refine aE_getf (v := .ref 26) dX11_linkChains_29 fw_X11_126 (lt_nn (by decide)) rfl rfl ?_
      refine aE_cVq dX11_linkChains_32 lk_X11_345 mv_X1_link (c_link (Q := (fun (r : Option Value) (n' : Nat) (m' : aM) => r = none ∧ n' = nn true ∧ ∃ K, m' = MM K sp true ∧ (∀ q i, q ≠ 56 → ¬ (69 ≤ q ∧ q ≤ 74) → ¬ (q = 54 ∧ i = 8) → K q i = J q i) ∧ (∀ a, a < (RR d cs (alC I sp d) ns).length → K 56 a = rv (nxG (mayF d cs (fun s => J 26 s) (I 1 8) (RR d cs (alC I sp d) ns)) (RR d cs (alC I sp d) ns).length a)) ∧ K 54 8 = nI (tkG (mayF d cs (fun s => J 26 s) (I 1 8) (RR d cs (alC I sp d) ns)) (RR d cs (alC I sp d) ns).length (RR d cs (alC I sp d) ns).length))) hA hW.1.2 hd hc hsl ha 26 (Or.inl rfl) hF (fun s hs => by have h26 : J 26 s = I 26 s := congrFun f26 s; rw [h26]; exact hbe s hs) (fun K a b c => ⟨rfl, rfl, K, rfl, a, b, c⟩)) rfl (lt_nn (by decide)) rfl rfl ⟨by decide, by decide⟩ (Nat.le_of_ble_eq_true rfl) ⟨rfl, rfl⟩ ⟨by decide, by decide⟩ ?_
      rintro r n' m' ⟨rfl, rfl, K, rfl, k1, k2, k3⟩
      refine aE_aload_n dX11_linkChains_35 rfl rfl ?_
      refine aE_iconst (v := 1) dX11_linkChains_36 rfl ?_
      refine aE_puti dX11_linkChains_37 fp_X11_142 (Or.inl rfl) (lt_nn (by decide)) rfl (fun _ => a_narZ (by first | exact Or.inl rfl | exact Or.inr rfl | assumption)) (by decide) rfl ?_
      refine aE_aload_n dX11_linkChains_40 rfl rfl ?_
      refine aE_getf (v := .ref 54) dX11_linkChains_41 fw_X11_19 (lt_nn (by decide)) rfl rfl ?_
      refine aE_geti dX11_linkChains_44 fw_X11_208 (lt_nn (by decide)) rfl (by decide) rfl ?_
      first
        | refine aE_top (x' := 0) h11 ?_
        | refine aE_top (x' := 1) (by rw [iu_ne (by omega), k1 54 0 (by omega) (by omega) (by omega), hF.1, ha]; rfl) ?_
        | refine aE_top (x' := 1) (by rw [hF.1, ha]; rfl) ?_
      refine aE_zret dX11_linkChains_47 rfl (by first | exact Or.inl rfl | exact Or.inr rfl | exact wi_or _ _ _ | assumption) ⟨by decide, by decide⟩ ?_
      first
        | exact hN J hJ ha
        | (have hJI : ¬ I 0 7 = 0 ∧ ChC I (fC I sp ns d cs) (RR d cs (alC I sp d) ns).length := hch (by rw [← f08]; exact h18)
           have e := hJ.2.1 hJI.1
           refine hO J ⟨⟨J, hJ, fun _ _ _ _ _ _ => rfl⟩, h18, ?_, hWJ, hP, hF, hJ.2.2.2.1⟩ ha
           rw [e]; exact hJI.2)
        | (have h8 := hW.2.1.2
           have kf : ∀ q i, q ≠ 56 → ¬ (69 ≤ q ∧ q ≤ 74) → ¬ (q = 54 ∧ i = 8) → ¬ (q = 0 ∧ i = 8) → iu K 0 8 1 q i = J q i := fun q i x1 x2 x3 x4 => (iu_ne (by omega)).trans (k1 q i x1 x2 x3)
           refine hO _ ⟨⟨J, hJ, kf⟩, by rw [iu_eq]; decide, ⟨fun a ha => (iu_ne (by omega)).trans ?_, (iu_ne (by omega)).trans ?_⟩, CW_fr hWJ (fun q i x1 x2 x3 x4 x5 x6 => kf q i (by omega) (by omega) (by omega) (by omega)) (fun hm a b ha hb => ?_), PCs_fr hW.1.2 hP (fun q i hq => kf q i (by omega) (by omega) (by omega) (by omega)), FlC_fr hA hF (fun q i hq => kf q i (by omega) (by omega) (by omega) (by omega)), ?_⟩ ha
           · rw [k2 a ha]; unfold fC; rw [f26]
           · rw [k3]; unfold fC; rw [f26]
           · rw [kf 2 8 (by omega) (by omega) (by omega) (by omega)] at hm
             rw [kf _ _ (by omega) (by omega) (by omega) (by omega)]
             exact hWJ.2.2.2.2.2.2.2.2.2.2.2 hm a b ha hb
           · rw [kf 0 7 (by omega) (by omega) (by omega) (by omega)]; exact hJ.2.2.2.1)

theorem c_linkChains_f (hW : CW I sp ns nstr nc d cs fr to) (hbe : ∀ s, s < ns → 0 ≤ (I 26 s).toInt ∧ (I 26 s).toInt ≤ 6) (hsl : 0 ≤ (I 1 8).toInt ∧ (I 1 8).toInt ≤ 30) (h07 : I 0 7 = 0) (hch : ¬ I 0 8 = 0 → ¬ I 0 7 = 0 ∧ ChC I (fC I sp ns d cs) (RR d cs (alC I sp d) ns).length) (hN : ∀ J, DP I J sp ns nstr nc d cs fr to → allH d cs (alC I sp d) ns = false → qi Q 0 J sp true) (hO : ∀ K, LC I K sp ns nstr nc d cs fr to → allH d cs (alC I sp d) ns = true → qi Q 1 K sp true) : aRuns mX11_linkChains (rP 6) [.ref 0] (nn false) (MM I sp false) Q := by
  refine aRuns_of pn_X11_linkChains (Nat.le_of_ble_eq_true rfl) (fun z => aE_loc (ls' := [_]) rfl ?_)
  refine aE_aload_n dX11_linkChains_0 rfl rfl ?_
  refine aE_callV dX11_linkChains_1 lk_X11_181 mv_X11_drawPlans (c_drawPlans_f (Q := (fun (r : Option Value) (n' : Nat) (m' : aM) => r = none ∧ n' = nn true ∧ ∃ J, m' = MM J sp true ∧ DP I J sp ns nstr nc d cs fr to)) hW h07 (fun J a b c e f g => ⟨rfl, rfl, J, rfl, a, b, c, e, f, g⟩)) rfl (lt_nn (by decide)) rfl rfl ⟨by decide, by decide⟩ (Nat.le_of_ble_eq_true rfl) ⟨by decide, by decide⟩ ?_
  rintro r n' m' ⟨rfl, rfl, J, rfl, hJ⟩
  have hWJ := hJ.2.2.1
  have hP := hJ.2.2.2.2.1
  have hF := hJ.2.2.2.2.2
  have hA := CW_al hW
  have f26 : (fun s => J 26 s) = (fun s => I 26 s) := funext fun s => hJ.1 26 s (by omega) (by omega) (by omega) (by omega) (by omega) (by omega) (by omega) (by omega) (by omega)
  have f08 : J 0 8 = I 0 8 := hJ.1 0 8 (by omega) (by omega) (by omega) (by omega) (by omega) (by omega) (by omega) (by omega) (by omega)
  have hd := CW_d01 hW
  have hc : ∀ s, s < ns → (cs s).2.toInt ≤ 90 := fun s hs => (hW.2.2.2.2.2.2.2.2.2.2.1 s hs).2.2.2
  refine aE_aload_n dX11_linkChains_4 rfl rfl ?_
  refine aE_getf (v := .ref 54) dX11_linkChains_5 fw_X11_19 (lt_nn (by decide)) rfl rfl ?_
  refine aE_geti dX11_linkChains_8 fw_X11_208 (lt_nn (by decide)) rfl (by decide) rfl ?_
  refine aE_if_eq (tgt := 40) dX11_linkChains_11 (by decide) (fun h11 => ?_) (fun h11 => ?_)
  · skip
    have ha : allH d cs (alC I sp d) ns = false := by
      cases q : allH d cs (alC I sp d) ns with
      | false => rfl
      | true => have := hF.1; rw [q, h11] at this; exact absurd this (by decide)
    refine aE_aload_n dX11_linkChains_40 rfl rfl ?_
    refine aE_getf (v := .ref 54) dX11_linkChains_41 fw_X11_19 (lt_nn (by decide)) rfl rfl ?_
    refine aE_geti dX11_linkChains_44 fw_X11_208 (lt_nn (by decide)) rfl (by decide) rfl ?_
    first
      | refine aE_top (x' := 0) h11 ?_
      | refine aE_top (x' := 1) (by rw [iu_ne (by omega), k1 54 0 (by omega) (by omega) (by omega), hF.1, ha]; rfl) ?_
      | refine aE_top (x' := 1) (by rw [hF.1, ha]; rfl) ?_
    refine aE_zret dX11_linkChains_47 rfl (by first | exact Or.inl rfl | exact Or.inr rfl | exact wi_or _ _ _ | assumption) ⟨by decide, by decide⟩ ?_
    first
      | exact hN J hJ ha
      | (have hJI : ¬ I 0 7 = 0 ∧ ChC I (fC I sp ns d cs) (RR d cs (alC I sp d) ns).length := hch (by rw [← f08]; exact h18)
         have e := hJ.2.1 hJI.1
         refine hO J ⟨⟨J, hJ, fun _ _ _ _ _ _ => rfl⟩, h18, ?_, hWJ, hP, hF, hJ.2.2.2.1⟩ ha
         rw [e]; exact hJI.2)
      | (have h8 := hW.2.1.2
         have kf : ∀ q i, q ≠ 56 → ¬ (69 ≤ q ∧ q ≤ 74) → ¬ (q = 54 ∧ i = 8) → ¬ (q = 0 ∧ i = 8) → iu K 0 8 1 q i = J q i := fun q i x1 x2 x3 x4 => (iu_ne (by omega)).trans (k1 q i x1 x2 x3)
         refine hO _ ⟨⟨J, hJ, kf⟩, by rw [iu_eq]; decide, ⟨fun a ha => (iu_ne (by omega)).trans ?_, (iu_ne (by omega)).trans ?_⟩, CW_fr hWJ (fun q i x1 x2 x3 x4 x5 x6 => kf q i (by omega) (by omega) (by omega) (by omega)) (fun hm a b ha hb => ?_), PCs_fr hW.1.2 hP (fun q i hq => kf q i (by omega) (by omega) (by omega) (by omega)), FlC_fr hA hF (fun q i hq => kf q i (by omega) (by omega) (by omega) (by omega)), ?_⟩ ha
         · rw [k2 a ha]; unfold fC; rw [f26]
         · rw [k3]; unfold fC; rw [f26]
         · rw [kf 2 8 (by omega) (by omega) (by omega) (by omega)] at hm
           rw [kf _ _ (by omega) (by omega) (by omega) (by omega)]
           exact hWJ.2.2.2.2.2.2.2.2.2.2.2 hm a b ha hb
         · rw [kf 0 7 (by omega) (by omega) (by omega) (by omega)]; exact hJ.2.2.2.1)
  · skip
    have ha : allH d cs (alC I sp d) ns = true := by
      cases q : allH d cs (alC I sp d) ns with
      | true => rfl
      | false => have := hF.1; rw [q] at this; exact absurd this h11
    refine aE_aload_n dX11_linkChains_14 rfl rfl ?_
    refine aE_geti dX11_linkChains_15 fw_X11_142 (lt_nn (by decide)) rfl (by decide) rfl ?_
    refine aE_if_ne (tgt := 40) dX11_linkChains_18 (by decide) (fun h18 => ?_) (fun h18 => ?_)
    · skip
      refine aE_aload_n dX11_linkChains_40 rfl rfl ?_
      refine aE_getf (v := .ref 54) dX11_linkChains_41 fw_X11_19 (lt_nn (by decide)) rfl rfl ?_
      refine aE_geti dX11_linkChains_44 fw_X11_208 (lt_nn (by decide)) rfl (by decide) rfl ?_
      first
        | refine aE_top (x' := 0) h11 ?_
        | refine aE_top (x' := 1) (by rw [iu_ne (by omega), k1 54 0 (by omega) (by omega) (by omega), hF.1, ha]; rfl) ?_
        | refine aE_top (x' := 1) (by rw [hF.1, ha]; rfl) ?_
      refine aE_zret dX11_linkChains_47 rfl (by first | exact Or.inl rfl | exact Or.inr rfl | exact wi_or _ _ _ | assumption) ⟨by decide, by decide⟩ ?_
      first
        | exact hN J hJ ha
        | (have hJI : ¬ I 0 7 = 0 ∧ ChC I (fC I sp ns d cs) (RR d cs (alC I sp d) ns).length := hch (by rw [← f08]; exact h18)
           have e := hJ.2.1 hJI.1
           refine hO J ⟨⟨J, hJ, fun _ _ _ _ _ _ => rfl⟩, h18, ?_, hWJ, hP, hF, hJ.2.2.2.1⟩ ha
           rw [e]; exact hJI.2)
        | (have h8 := hW.2.1.2
           have kf : ∀ q i, q ≠ 56 → ¬ (69 ≤ q ∧ q ≤ 74) → ¬ (q = 54 ∧ i = 8) → ¬ (q = 0 ∧ i = 8) → iu K 0 8 1 q i = J q i := fun q i x1 x2 x3 x4 => (iu_ne (by omega)).trans (k1 q i x1 x2 x3)
           refine hO _ ⟨⟨J, hJ, kf⟩, by rw [iu_eq]; decide, ⟨fun a ha => (iu_ne (by omega)).trans ?_, (iu_ne (by omega)).trans ?_⟩, CW_fr hWJ (fun q i x1 x2 x3 x4 x5 x6 => kf q i (by omega) (by omega) (by omega) (by omega)) (fun hm a b ha hb => ?_), PCs_fr hW.1.2 hP (fun q i hq => kf q i (by omega) (by omega) (by omega) (by omega)), FlC_fr hA hF (fun q i hq => kf q i (by omega) (by omega) (by omega) (by omega)), ?_⟩ ha
           · rw [k2 a ha]; unfold fC; rw [f26]
           · rw [k3]; unfold fC; rw [f26]
           · rw [kf 2 8 (by omega) (by omega) (by omega) (by omega)] at hm
             rw [kf _ _ (by omega) (by omega) (by omega) (by omega)]
             exact hWJ.2.2.2.2.2.2.2.2.2.2.2 hm a b ha hb
           · rw [kf 0 7 (by omega) (by omega) (by omega) (by omega)]; exact hJ.2.2.2.1)
    · skip
      refine aE_aload_n dX11_linkChains_21 rfl rfl ?_
      refine aE_getf (v := .ref 54) dX11_linkChains_22 fw_X11_19 (lt_nn (by decide)) rfl rfl ?_
      refine aE_aload_n dX11_linkChains_25 rfl rfl ?_
      refine aE_getf (v := .ref 1) dX11_linkChains_26 fw_X11_10 (lt_nn (by decide)) rfl rfl ?_
      refine aE_getf (v := .ref 26) dX11_linkChains_29 fw_X11_126 (lt_nn (by decide)) rfl rfl ?_
      refine aE_cVq dX11_linkChains_32 lk_X11_345 mv_X1_link (c_link (Q := (fun (r : Option Value) (n' : Nat) (m' : aM) => r = none ∧ n' = nn true ∧ ∃ K, m' = MM K sp true ∧ (∀ q i, q ≠ 56 → ¬ (69 ≤ q ∧ q ≤ 74) → ¬ (q = 54 ∧ i = 8) → K q i = J q i) ∧ (∀ a, a < (RR d cs (alC I sp d) ns).length → K 56 a = rv (nxG (mayF d cs (fun s => J 26 s) (I 1 8) (RR d cs (alC I sp d) ns)) (RR d cs (alC I sp d) ns).length a)) ∧ K 54 8 = nI (tkG (mayF d cs (fun s => J 26 s) (I 1 8) (RR d cs (alC I sp d) ns)) (RR d cs (alC I sp d) ns).length (RR d cs (alC I sp d) ns).length))) hA hW.1.2 hd hc hsl ha 26 (Or.inl rfl) hF (fun s hs => by have h26 : J 26 s = I 26 s := congrFun f26 s; rw [h26]; exact hbe s hs) (fun K a b c => ⟨rfl, rfl, K, rfl, a, b, c⟩)) rfl (lt_nn (by decide)) rfl rfl ⟨by decide, by decide⟩ (Nat.le_of_ble_eq_true rfl) ⟨rfl, rfl⟩ ⟨by decide, by decide⟩ ?_
      rintro r n' m' ⟨rfl, rfl, K, rfl, k1, k2, k3⟩
      refine aE_aload_n dX11_linkChains_35 rfl rfl ?_
      refine aE_iconst (v := 1) dX11_linkChains_36 rfl ?_
      refine aE_puti dX11_linkChains_37 fp_X11_142 (Or.inl rfl) (lt_nn (by decide)) rfl (fun _ => a_narZ (by first | exact Or.inl rfl | exact Or.inr rfl | assumption)) (by decide) rfl ?_
      refine aE_aload_n dX11_linkChains_40 rfl rfl ?_
      refine aE_getf (v := .ref 54) dX11_linkChains_41 fw_X11_19 (lt_nn (by decide)) rfl rfl ?_
      refine aE_geti dX11_linkChains_44 fw_X11_208 (lt_nn (by decide)) rfl (by decide) rfl ?_
      first
        | refine aE_top (x' := 0) h11 ?_
        | refine aE_top (x' := 1) (by rw [iu_ne (by omega), k1 54 0 (by omega) (by omega) (by omega), hF.1, ha]; rfl) ?_
        | refine aE_top (x' := 1) (by rw [hF.1, ha]; rfl) ?_
      refine aE_zret dX11_linkChains_47 rfl (by first | exact Or.inl rfl | exact Or.inr rfl | exact wi_or _ _ _ | assumption) ⟨by decide, by decide⟩ ?_
      first
        | exact hN J hJ ha
        | (have hJI : ¬ I 0 7 = 0 ∧ ChC I (fC I sp ns d cs) (RR d cs (alC I sp d) ns).length := hch (by rw [← f08]; exact h18)
           have e := hJ.2.1 hJI.1
           refine hO J ⟨⟨J, hJ, fun _ _ _ _ _ _ => rfl⟩, h18, ?_, hWJ, hP, hF, hJ.2.2.2.1⟩ ha
           rw [e]; exact hJI.2)
        | (have h8 := hW.2.1.2
           have kf : ∀ q i, q ≠ 56 → ¬ (69 ≤ q ∧ q ≤ 74) → ¬ (q = 54 ∧ i = 8) → ¬ (q = 0 ∧ i = 8) → iu K 0 8 1 q i = J q i := fun q i x1 x2 x3 x4 => (iu_ne (by omega)).trans (k1 q i x1 x2 x3)
           refine hO _ ⟨⟨J, hJ, kf⟩, by rw [iu_eq]; decide, ⟨fun a ha => (iu_ne (by omega)).trans ?_, (iu_ne (by omega)).trans ?_⟩, CW_fr hWJ (fun q i x1 x2 x3 x4 x5 x6 => kf q i (by omega) (by omega) (by omega) (by omega)) (fun hm a b ha hb => ?_), PCs_fr hW.1.2 hP (fun q i hq => kf q i (by omega) (by omega) (by omega) (by omega)), FlC_fr hA hF (fun q i hq => kf q i (by omega) (by omega) (by omega) (by omega)), ?_⟩ ha
           · rw [k2 a ha]; unfold fC; rw [f26]
           · rw [k3]; unfold fC; rw [f26]
           · rw [kf 2 8 (by omega) (by omega) (by omega) (by omega)] at hm
             rw [kf _ _ (by omega) (by omega) (by omega) (by omega)]
             exact hWJ.2.2.2.2.2.2.2.2.2.2.2 hm a b ha hb
           · rw [kf 0 7 (by omega) (by omega) (by omega) (by omega)]; exact hJ.2.2.2.1)

end CCHAIN
