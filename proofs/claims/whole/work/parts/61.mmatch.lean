/-- the follower that is kept for a, among the first c -/
def hva (G : pM) (a c : Nat) : Int32 := match G a with
  | some g => if g < c then nI g else -1
  | none => -1
theorem hva_no {G : pM} {a c : Nat} (h : G a ≠ some c) : hva G a (c + 1) = hva G a c := by
  unfold hva
  cases hg : G a with
  | none => rfl
  | some g =>
    have : g ≠ c := fun e => h (by rw [hg, e])
    dsimp only
    by_cases q : g < c
    · rw [if_pos q, if_pos (by omega)]
    · rw [if_neg q, if_neg (by omega)]
theorem hva_yes {G : pM} {a c : Nat} (h : G a = some c) : hva G a (c + 1) = nI c := by
  unfold hva
  rw [h]
  exact if_pos (by omega)
theorem hva_all {G : pM} {a n : Nat} (h : ∀ c, G a = some c → c < n) : hva G a n = rv (G a) := by
  unfold hva
  cases hg : G a with
  | none => rfl
  | some g => exact if_pos (h g hg)
theorem hva_0 (G : pM) (a : Nat) : hva G a 0 = -1 := by
  unfold hva
  cases G a with
  | none => rfl
  | some g => exact if_neg (by omega)
/-- the rows of the search in the model -/
def RWM (I : Nat → Nat → Int32) (s : bS) : Prop := (∀ c, s.1.testBit c = true → I 137 c = nI (s.2.1 c)) ∧ ∀ (i x : Nat), s.2.2[i]? = some x → I 138 i = nI x
def FrF (I0 I : Nat → Nat → Int32) : Prop := ∀ q i, ¬ (136 ≤ q ∧ q ≤ 138) → I q i = I0 q i
section MMT
variable {z : Nat × (Nat → Int32)} {n : Nat} {mem : aM} {I : Nat → Nat → Int32} {sp : Nat → Nat} {pl : Bool} {Q : Option Value → Nat → aM → Prop} {R : Room}
theorem l_turn2 (n a b : Nat) (L G : pM) (hn : I 101 42 = nI n) (h10 : n ≤ 10) (ha : a < n) (hrow : ∀ c, c < n → I 136 c = rv (L c)) (hLG : ∀ c, L c = some a ↔ G a = some c) (hLb : ∀ c x, L c = some x → x < n) (l1 l2 l4 : Option Value) (k0 : aE z mX12_turn (rK 0) Q 55 [some (.ref 101), l1, l2, some (.int (nI b)), l4, some (.int (nI a)), some (.int (hva G a n)), some (.int (nI n))] [] (nn pl) (MM I sp pl) 0 0) : ∀ (e c : Nat), c + e = n → aE z mX12_turn (rK 0) Q 24 [some (.ref 101), l1, l2, some (.int (nI b)), l4, some (.int (nI a)), some (.int (hva G a c)), some (.int (nI c))] [] (nn pl) (MM I sp pl) 0 0 := by
  intro e
  induction e with
  | zero =>
    intro c hc
    have hc : c = n := by omega
    subst hc
    refine aE_iload dX12_turn_24 rfl ?_
    refine aE_aload_n dX12_turn_26 rfl rfl ?_
    refine aE_geti dX12_turn_27 fw_X12_230 (lt_nn (by decide)) rfl (by decide) rfl ?_
    refine aE_icmp_ge (tgt := 55) dX12_turn_30 (by decide) (fun h30 => ?_) (fun h30 => absurd (by rw [hn]; exact Int32.le_refl _) h30)
    exact k0
  | succ e ih =>
    intro c hc
    have ih2 := ih (c + 1) (by omega)
    have hx := rv_eq (o := L c) (r := a) (by omega) (fun x hx => by have := hLb c x hx; omega)
    refine aE_iload dX12_turn_24 rfl ?_
    refine aE_aload_n dX12_turn_26 rfl rfl ?_
    refine aE_geti dX12_turn_27 fw_X12_230 (lt_nn (by decide)) rfl (by decide) rfl ?_
    refine aE_icmp_ge (tgt := 55) dX12_turn_30 (by decide) (fun h30 => absurd h30 (by rw [hn]; exact nI_ge (by omega) (by omega))) (fun h30 => ?_)
    refine aE_aload_n dX12_turn_33 rfl rfl ?_
    refine aE_getf (v := .ref 136) dX12_turn_34 fw_X12_120 (lt_nn (by decide)) rfl rfl ?_
    refine aE_iload dX12_turn_37 rfl ?_
    refine aE_ildM dX12_turn_39 (lt_nn (by decide)) rfl (by decide) rfl (by omega) ?_
    refine aE_top (hrow c (by omega)) ?_
    refine aE_iload dX12_turn_40 rfl ?_
    refine aE_icmp_ne (tgt := 49) dX12_turn_42 (by decide) (fun h42 => ?_) (fun h42 => ?_)
    · skip
      refine aE_iinc dX12_turn_49 rfl (a_inc _) (by decide) rfl (aE_loc (ls' := [_, _, _, _, _, _, _, _]) rfl ?_)
      refine aE_goto (tgt := 24) dX12_turn_52 (by decide) ?_
      first
        | (rw [hva_no (fun q => h42 (hx.mpr ((hLG c).mpr q)))] at ih2
           exact ih2)
        | (rw [hva_yes ((hLG c).mp (hx.mp (by first | exact h42 | exact Classical.not_not.mp h42)))] at ih2
           exact ih2)
    · skip
      refine aE_iload dX12_turn_45 rfl ?_
      refine aE_istore dX12_turn_47 (by decide) rfl (aE_loc (ls' := [_, _, _, _, _, _, _, _]) rfl ?_)
      refine aE_iinc dX12_turn_49 rfl (a_inc _) (by decide) rfl (aE_loc (ls' := [_, _, _, _, _, _, _, _]) rfl ?_)
      refine aE_goto (tgt := 24) dX12_turn_52 (by decide) ?_
      first
        | (rw [hva_no (fun q => h42 (hx.mpr ((hLG c).mpr q)))] at ih2
           exact ih2)
        | (rw [hva_yes ((hLG c).mp (hx.mp (by first | exact h42 | exact Classical.not_not.mp h42)))] at ih2
           exact ih2)
theorem l_turn (f : Nat → Nat → Bool) (F : Nat → Bool) (n root : Nat) (q : List Nat) (bw : Nat → Nat) (L0 G0 : pM) (rch : Nat) (hS : SF f F n root q bw L0 G0 rch) (h10 : n ≤ 10) (hrt : root < n) (I0 : Nat → Nat → Int32) (hn : I0 101 42 = nI n) (hbw : ∀ c, rch.testBit c = true → I0 137 c = nI (bw c)) (l1 : Option Value) : ∀ (m i : Nat) (L G : pM) (b : Nat) (I : Nat → Nat → Int32), i ≤ m → PH q n bw G0 rch i L G b → (∀ c x, L c = some x → x < n) → (∀ q i, q ≠ 136 → I q i = I0 q i) → (∀ c, c < n → I 136 c = rv (L c)) → (∀ J, (∀ q i, q ≠ 136 → J q i = I0 q i) → (∀ c, c < n → J 136 c = rv ((mv bw m L G (some b)).1 c)) → Q none (nn pl) (MM J sp pl)) → ∀ l5 l6 l7, aE z mX12_turn (rK 0) Q 5 [some (.ref 101), l1, some (.int (nI root)), some (.int (nI b)), some (.int 1), l5, l6, l7] [] (nn pl) (MM I sp pl) 0 0 := by
  intro m
  induction m with
  | zero =>
    intro i L G b I hi h
    obtain ⟨j, hj, -⟩ := h.2.1
    omega
  | succ m ih =>
    intro i L G b I hi h hLb hfr hrow hQ l5 l6 l7
    obtain ⟨ha, hst⟩ := PH_step hS h
    have hb := h.1
    have e0 : mv bw (m + 1) L G (some b) = mv bw m (fup L b (some (bw b))) (fup G (bw b) (some b)) (G (bw b)) := rfl
    rw [e0] at hQ
    have hLG : ∀ c, L c = some (bw b) ↔ G (bw b) = some c := fun c => by
      by_cases e : c = b
      · subst e; exact ⟨fun q => absurd q h.2.2.2.2.2.1, fun q => absurd q (h.2.2.2.2.1 _)⟩
      · exact h.2.2.2.1 c e _
    have hL1 : ∀ c x, fup L b (some (bw b)) c = some x → x < n := fun c x hx => by
      by_cases e : c = b
      · subst e; rw [fup_eq] at hx; cases hx; exact ha
      · rw [fup_ne e] at hx; exact hLb c x hx
    have hrow1 : ∀ c, c < n → iu I 136 b (nI (bw b)) 136 c = rv (fup L b (some (bw b)) c) := fun c hc => by
      by_cases e : c = b
      · subst e; rw [iu_eq, fup_eq]; rfl
      · rw [iu_ne (Or.inr e), fup_ne e]; exact hrow c hc
    have hfr1 : ∀ q i, q ≠ 136 → iu I 136 b (nI (bw b)) q i = I0 q i := fun q i hq => (iu_ne (Or.inl hq)).trans (hfr q i hq)
    have hGn : ∀ c, G (bw b) = some c → c < n := fun c hc => by
      rcases hst with ⟨-, hG⟩ | ⟨c2, j, -, hG, -, q2, -⟩
      · rw [hG] at hc; cases hc
      · rw [hG] at hc; cases hc; exact q2
    refine aE_iload dX12_turn_5 rfl ?_
    refine aE_if_eq (tgt := 82) dX12_turn_7 (by decide) (fun h7 => absurd h7 (by decide)) (fun h7 => ?_)
    refine aE_aload_n dX12_turn_10 rfl rfl ?_
    refine aE_getf (v := .ref 137) dX12_turn_11 fw_X12_123 (lt_nn (by decide)) rfl rfl ?_
    refine aE_iload_n dX12_turn_14 rfl rfl ?_
    refine aE_ildM dX12_turn_15 (lt_nn (by decide)) rfl (by decide) rfl (by omega) ?_
    refine aE_top ((hfr 137 b (by decide)).trans (hbw b h.2.2.2.2.2.2)) ?_
    refine aE_istore dX12_turn_16 (by decide) rfl (aE_loc (ls' := [_, _, _, _, _, _, _, _]) rfl ?_)
    refine aE_iconst (v := -1) dX12_turn_18 rfl ?_
    refine aE_istore dX12_turn_19 (by decide) rfl (aE_loc (ls' := [_, _, _, _, _, _, _, _]) rfl ?_)
    refine aE_iconst (v := 0) dX12_turn_21 rfl ?_
    refine aE_istore dX12_turn_22 (by decide) rfl (aE_loc (ls' := [_, _, _, _, _, _, _, _]) rfl ?_)
    rw [show (-1 : Int32) = hva G (bw b) 0 from (hva_0 _ _).symm]
    refine l_turn2 n (bw b) b L G ((hfr 101 42 (by decide)).trans hn) h10 ha hrow hLG hLb _ _ _ ?_ n 0 (by omega)
    rw [hva_all hGn]
    rcases hst with ⟨er, hG⟩ | ⟨c, j, e1, e2, e3, e4, e5, e6, e7, e8, e9, e10⟩
    · rw [hG, mv_none] at hQ
      refine aE_aload_n dX12_turn_55 rfl rfl ?_
      refine aE_getf (v := .ref 136) dX12_turn_56 fw_X12_120 (lt_nn (by decide)) rfl rfl ?_
      refine aE_iload_n dX12_turn_59 rfl rfl ?_
      refine aE_iload dX12_turn_60 rfl ?_
      refine aE_istM dX12_turn_62 (lt_nn (by decide)) rfl (by decide) rfl (by omega) ?_
      refine aE_iload dX12_turn_63 rfl ?_
      refine aE_iload_n dX12_turn_65 rfl rfl ?_
      refine aE_icmp_eq (tgt := 73) dX12_turn_66 (by decide) (fun h66 => ?_) (fun h66 => absurd (by rw [er]) h66)
      refine aE_iconst (v := 0) dX12_turn_73 rfl ?_
      refine aE_istore dX12_turn_74 (by decide) rfl (aE_loc (ls' := [_, _, _, _, _, _, _, _]) rfl ?_)
      refine aE_iload dX12_turn_76 rfl ?_
      refine aE_istore_n dX12_turn_78 rfl (by decide) rfl (aE_loc (ls' := [_, _, _, _, _, _, _, _]) rfl ?_)
      refine aE_goto (tgt := 5) dX12_turn_79 (by decide) ?_
      refine aE_iload dX12_turn_5 rfl ?_
      refine aE_if_eq (tgt := 82) dX12_turn_7 (by decide) (fun h7 => ?_) (fun h7 => absurd (rfl) h7)
      refine aE_vret dX12_turn_82 rfl ⟨by decide, by decide⟩ ?_
      exact hQ _ hfr1 hrow1
    · rw [e2] at hQ ⊢
      refine aE_aload_n dX12_turn_55 rfl rfl ?_
      refine aE_getf (v := .ref 136) dX12_turn_56 fw_X12_120 (lt_nn (by decide)) rfl rfl ?_
      refine aE_iload_n dX12_turn_59 rfl rfl ?_
      refine aE_iload dX12_turn_60 rfl ?_
      refine aE_istM dX12_turn_62 (lt_nn (by decide)) rfl (by decide) rfl (by omega) ?_
      refine aE_iload dX12_turn_63 rfl ?_
      refine aE_iload_n dX12_turn_65 rfl rfl ?_
      refine aE_icmp_eq (tgt := 73) dX12_turn_66 (by decide) (fun h66 => absurd h66 (fun w => e1 ((nI_eq (by omega) (by omega)).mp w))) (fun h66 => ?_)
      refine aE_iconst (v := 1) dX12_turn_69 rfl ?_
      refine aE_goto (tgt := 74) dX12_turn_70 (by decide) ?_
      refine aE_istore dX12_turn_74 (by decide) rfl (aE_loc (ls' := [_, _, _, _, _, _, _, _]) rfl ?_)
      refine aE_iload dX12_turn_76 rfl ?_
      refine aE_istore_n dX12_turn_78 rfl (by decide) rfl (aE_loc (ls' := [_, _, _, _, _, _, _, _]) rfl ?_)
      refine aE_goto (tgt := 5) dX12_turn_79 (by decide) ?_
      exact ih j _ _ c _ (by omega) e10 hL1 hfr1 hrow1 hQ _ _ _
theorem m_turn (f : Nat → Nat → Bool) (F : Nat → Bool) (n root : Nat) (q : List Nat) (bw : Nat → Nat) (L0 G0 : pM) (rch : Nat) (hS : SF f F n root q bw L0 G0 rch) (h10 : n ≤ 10) (hrt : root < n) (hn : I 101 42 = nI n) (hbw : ∀ c, rch.testBit c = true → I 137 c = nI (bw c)) (b : Nat) (hq : q.length ≤ n) (h : PH q n bw G0 rch q.length L0 G0 b) (hLb : ∀ c x, L0 c = some x → x < n) (hrow : ∀ c, c < n → I 136 c = rv (L0 c)) (hQ : ∀ J, (∀ q i, q ≠ 136 → J q i = I q i) → (∀ c, c < n → J 136 c = rv ((mv bw n L0 G0 (some b)).1 c)) → Q none (nn pl) (MM J sp pl)) : aRuns mX12_turn (rK 0) [.ref 101, .int (nI b), .int (nI root)] (nn pl) (MM I sp pl) Q := by
  refine aRuns_of pn_X12_turn (Nat.le_of_ble_eq_true rfl) (fun z => aE_loc (ls' := [_, _, _, _, _, _, _, _]) rfl ?_)
  refine aE_iload_n dX12_turn_0 rfl rfl ?_
  refine aE_istore_n dX12_turn_1 rfl (by decide) rfl (aE_loc (ls' := [_, _, _, _, _, _, _, _]) rfl ?_)
  refine aE_iconst (v := 1) dX12_turn_2 rfl ?_
  refine aE_istore dX12_turn_3 (by decide) rfl (aE_loc (ls' := [_, _, _, _, _, _, _, _]) rfl ?_)
  exact l_turn f F n root q bw L0 G0 rch hS h10 hrt I hn hbw _ n q.length L0 G0 b I hq h hLb (fun _ _ _ => rfl) hrow hQ _ _ _
theorem l_fd2 (f : Nat → Nat → Bool) (n root : Nat) (L G : pM) (hA : BA L n root) (hC : Cst L G) (h10 : n ≤ 10) (I0 : Nat → Nat → Int32) (hn : I0 101 42 = nI n) (hmay : ∀ a, a < n → I0 133 a = nI (setB (f a) n)) (k a : Nat) (ha : a < n) (res : bS × Option Nat) (kN : ∀ I s l5 l6, FrF I0 I → (∀ c, c < n → I 136 c = rv (L c)) → RWM I s → BI f (fun b => !(0 : Nat).testBit b) L n root s → s.2.2[k]? = some a → res = (s, none) → aE z mX12_isFound (rK 1) Q 37 [some (.ref 101), some (.int (nI root)), some (.int (nI s.2.2.length)), some (.int (nI (k + 1))), some (.int (nI s.1)), l5, l6] [] (nn pl) (MM I sp pl) 0 0) (kS : ∀ J s b, FrF I0 J → res = (s, some b) → (∀ c, c < n → J 136 c = rv ((mv s.2.1 n L G (some b)).1 c)) → qi Q 1 J sp pl) : ∀ (e b : Nat) (s : bS) (I : Nat → Nat → Int32), b + e = n → BI f (fun b => !(0 : Nat).testBit b) L n root s → s.2.2[k]? = some a → bfB f (fun b => !(0 : Nat).testBit b) L n a e s = res → FrF I0 I → (∀ c, c < n → I 136 c = rv (L c)) → RWM I s → aE z mX12_isFound (rK 1) Q 56 [some (.ref 101), some (.int (nI root)), some (.int (nI s.2.2.length)), some (.int (nI (k + 1))), some (.int (nI s.1)), some (.int (nI a)), some (.int (nI b))] [] (nn pl) (MM I sp pl) 0 0 := by
  intro e
  induction e with
  | zero =>
    intro b s I hb hB hk hres hfr hrow hrw
    have hb : b = n := by omega
    subst hb
    refine aE_iload dX12_isFound_56 rfl ?_
    refine aE_aload_n dX12_isFound_58 rfl rfl ?_
    refine aE_geti dX12_isFound_59 fw_X12_230 (lt_nn (by decide)) rfl (by decide) rfl ?_
    refine aE_icmp_ge (tgt := 155) dX12_isFound_62 (by decide) (fun h62 => ?_) (fun h62 => absurd (by rw [hfr 101 42 (by omega), hn]; exact Int32.le_refl _) h62)
    refine aE_goto (tgt := 37) dX12_isFound_155 (by decide) ?_
    exact kN I s _ _ hfr hrow hrw hB hk hres.symm
  | succ e ih =>
    intro b s I hb hB hk hres hfr hrow hrw
    have hbn : b < n := by omega
    rw [bfB_s, show n - (e + 1) = b by omega] at hres
    have hmb : (setB (f a) n).testBit b = f a b := by rw [setB_tb]; simp [hbn]
    have hsl := setB_lt (f a) n
    have hp := pow10' h10
    have hR : s.1 < 2 ^ n := Nat.lt_pow_two_of_testBit _ (fun i hi => Bool.eq_false_iff.mpr (fun q => by have := (hB.1 i q).1; omega))
    have no : ¬ (f a b && (fun b => !(0 : Nat).testBit b) b && !s.1.testBit b) = true → aE z mX12_isFound (rK 1) Q 149 [some (.ref 101), some (.int (nI root)), some (.int (nI s.2.2.length)), some (.int (nI (k + 1))), some (.int (nI s.1)), some (.int (nI a)), some (.int (nI b))] [] (nn pl) (MM I sp pl) 0 0 := by
      intro q
      rw [if_neg q] at hres
      refine aE_iinc dX12_isFound_149 rfl (a_inc _) (by decide) rfl (aE_loc (ls' := [_, _, _, _, _, _, _]) rfl ?_)
      refine aE_goto (tgt := 56) dX12_isFound_152 (by decide) ?_
      exact ih (b + 1) s I (by omega) hB hk hres hfr hrow hrw
    refine aE_iload dX12_isFound_56 rfl ?_
    refine aE_aload_n dX12_isFound_58 rfl rfl ?_
    refine aE_geti dX12_isFound_59 fw_X12_230 (lt_nn (by decide)) rfl (by decide) rfl ?_
    refine aE_icmp_ge (tgt := 155) dX12_isFound_62 (by decide) (fun h62 => absurd h62 (by rw [hfr 101 42 (by omega), hn]; exact nI_ge (by omega) (by omega))) (fun h62 => ?_)
    refine aE_aload_n dX12_isFound_65 rfl rfl ?_
    refine aE_getf (v := .ref 133) dX12_isFound_66 fw_X12_111 (lt_nn (by decide)) rfl rfl ?_
    refine aE_iload dX12_isFound_69 rfl ?_
    refine aE_ildM dX12_isFound_71 (lt_nn (by decide)) rfl (by decide) rfl (by omega) ?_
    refine aE_top ((hfr 133 a (by omega)).trans (hmay a ha)) ?_
    refine aE_iload dX12_isFound_72 rfl ?_
    refine aE_cSi dX12_isFound_74 lk_X12_206 ms_X12_has (m_has (setB (f a) n) b (by omega) (by omega)) rfl rfl ⟨by decide, by decide⟩ (Nat.le_of_ble_eq_true rfl) ⟨rfl, rfl⟩ ⟨by decide, by decide⟩ ?_
    rw [hmb]
    refine aE_if_eq (tgt := 149) dX12_isFound_77 (by decide) (fun h77 => ?_) (fun h77 => ?_)
    · skip
      first
        | exact no (fun q => by rw [Bool.and_eq_true, Bool.and_eq_true] at q; rw [if_pos q.1.1] at h77; exact absurd h77 (by decide))
        | exact no (fun q => by rw [Bool.and_eq_true, Bool.not_eq_true'] at q; have q2 := tb_of h87; rw [q.2] at q2; cases q2)
    · skip
      refine aE_iload dX12_isFound_80 rfl ?_
      refine aE_iload dX12_isFound_82 rfl ?_
      refine aE_cSi dX12_isFound_84 lk_X12_206 ms_X12_has (m_has s.1 b (by omega) (by omega)) rfl rfl ⟨by decide, by decide⟩ (Nat.le_of_ble_eq_true rfl) ⟨rfl, rfl⟩ ⟨by decide, by decide⟩ ?_
      refine aE_if_eq (tgt := 93) dX12_isFound_87 (by decide) (fun h87 => ?_) (fun h87 => ?_)
      · skip
        have hq1 : f a b = true := Classical.byContradiction (fun q => h77 (by rw [if_neg q]))
        have hq2 : s.1.testBit b = false := Bool.eq_false_iff.mpr (tb_no (by first | exact h87 | exact Classical.not_not.mp h87))
        have hqF : (fun b => !(0 : Nat).testBit b) b = true := by simp
        have hpb : (f a b && (fun b => !(0 : Nat).testBit b) b && !s.1.testBit b) = true := by rw [hq1, hq2, hqF]; rfl
        rw [if_pos hpb] at hres
        have hfr2 : FrF I0 (iu I 137 b (nI a)) := fun q i h => (iu_ne (by omega)).trans (hfr q i h)
        have hrow2 : ∀ c, c < n → iu I 137 b (nI a) 136 c = rv (L c) := fun c hc => (iu_ne (by omega)).trans (hrow c hc)
        have hby2 : ∀ c, (s.1 ||| 2 ^ b).testBit c = true → iu I 137 b (nI a) 137 c = nI (fup s.2.1 b a c) := fun c hc => by
          by_cases e : c = b
          · subst e; rw [iu_eq, fup_eq]
          · rw [iu_ne (Or.inr e), fup_ne e]
            exact hrw.1 c ((or_tb.mp hc).resolve_right e)
        refine aE_iload dX12_isFound_93 rfl ?_
        refine aE_iconst (v := 1) dX12_isFound_95 rfl ?_
        refine aE_iload dX12_isFound_96 rfl ?_
        refine aE_ishl dX12_isFound_98 ?_
        refine aE_top (nb_1shl (by omega)) ?_
        refine aE_ior dX12_isFound_99 ?_
        refine aE_top (nb_or _ _) ?_
        refine aE_istore dX12_isFound_100 (by decide) rfl (aE_loc (ls' := [_, _, _, _, _, _, _]) rfl ?_)
        refine aE_aload_n dX12_isFound_102 rfl rfl ?_
        refine aE_getf (v := .ref 137) dX12_isFound_103 fw_X12_123 (lt_nn (by decide)) rfl rfl ?_
        refine aE_iload dX12_isFound_106 rfl ?_
        refine aE_iload dX12_isFound_108 rfl ?_
        refine aE_istM dX12_isFound_110 (lt_nn (by decide)) rfl (by decide) rfl (by omega) ?_
        refine aE_aload_n dX12_isFound_111 rfl rfl ?_
        refine aE_getf (v := .ref 136) dX12_isFound_112 fw_X12_120 (lt_nn (by decide)) rfl rfl ?_
        refine aE_iload dX12_isFound_115 rfl ?_
        refine aE_ildM dX12_isFound_117 (lt_nn (by decide)) rfl (by decide) rfl (by omega) ?_
        refine aE_top (hrow2 b hbn) ?_
        refine aE_if_lt (tgt := 140) dX12_isFound_118 (by decide) (fun h118 => ?_) (fun h118 => ?_)
        · skip
          have hx : L b = none := (rv_neg (fun x hx => by have := (hA.2.1 b x hx).2.1; omega)).mp h118
          rw [hx] at hres
          have hFD : FD f (fun b => !(0 : Nat).testBit b) L n root (s.1 ||| 2 ^ b, fup s.2.1 b a, s.2.2) b := ⟨s, k, a, hB, hk, hbn, hq1, hqF, hx, hq2, rfl⟩
          obtain ⟨g1, g2, g3, g4, g5, g6⟩ := SF_of hA hC hFD
          refine aE_aload_n dX12_isFound_140 rfl rfl ?_
          refine aE_iload dX12_isFound_141 rfl ?_
          refine aE_iload_n dX12_isFound_143 rfl rfl ?_
          refine aE_cVq dX12_isFound_144 lk_X12_302 mv_X12_turn (m_turn (Q := (fun r n' m' => r = none ∧ n' = nn pl ∧ ∃ J, m' = MM J sp pl ∧ (∀ q i, q ≠ 136 → J q i = iu I 137 b (nI a) q i) ∧ (∀ c, c < n → J 136 c = rv ((mv (fup s.2.1 b a) n L G (some b)).1 c)))) f (fun b => !(0 : Nat).testBit b) n root _ _ L G _ g1 h10 hA.1 (hfr2 101 42 (by omega) |>.trans hn) hby2 b g2 g6 (fun c x hx => (hA.2.1 c x hx).2.1) hrow2 (fun J h1 h2 => ⟨rfl, rfl, J, rfl, h1, h2⟩)) rfl (lt_nn (by decide)) rfl rfl ⟨by decide, by decide⟩ (Nat.le_of_ble_eq_true rfl) ⟨rfl, rfl⟩ ⟨by decide, by decide⟩ ?_
          rintro r n' m' ⟨rfl, rfl, J, rfl, hJ1, hJ2⟩
          refine aE_iconst (v := 1) dX12_isFound_147 rfl ?_
          refine aE_zret dX12_isFound_148 rfl (by first | exact Or.inl rfl | exact Or.inr rfl | exact wi_or _ _ _ | assumption) ⟨by decide, by decide⟩ ?_
          exact kS J _ b (fun q i h => (hJ1 q i (by omega)).trans (hfr2 q i h)) hres.symm hJ2
        · skip
          obtain ⟨x, hx⟩ : ∃ x, L b = some x := by
            cases hL : L b with
            | none => rw [hL] at h118; exact absurd (show (rv none) < 0 by decide) h118
            | some x => exact ⟨x, rfl⟩
          rw [hx] at hres
          have hB2 := BI_s hA hB hk hq1 hqF hq2 hx
          have hl2 := BI_len hB2
          have hl3 : s.2.2.length + 1 ≤ n := by
            have e : (s.2.2 ++ [x]).length = s.2.2.length + 1 := by simp
            exact e ▸ hl2
          refine aE_aload_n dX12_isFound_121 rfl rfl ?_
          refine aE_getf (v := .ref 138) dX12_isFound_122 fw_X12_126 (lt_nn (by decide)) rfl rfl ?_
          refine aE_iload_n dX12_isFound_125 rfl rfl ?_
          refine aE_aload_n dX12_isFound_126 rfl rfl ?_
          refine aE_getf (v := .ref 136) dX12_isFound_127 fw_X12_120 (lt_nn (by decide)) rfl rfl ?_
          refine aE_iload dX12_isFound_130 rfl ?_
          refine aE_ildM dX12_isFound_132 (lt_nn (by decide)) rfl (by decide) rfl (by omega) ?_
          refine aE_top (hrow2 b hbn) ?_
          refine aE_istM dX12_isFound_133 (lt_nn (by decide)) rfl (by decide) rfl (by omega) ?_
          rw [hx]
          refine aE_I (I' := iu (iu I 137 b (nI a)) 138 s.2.2.length (nI x)) rfl ?_
          refine aE_loc (ls' := [some (.ref 101), some (.int (nI root)), some (.int (nI s.2.2.length)), some (.int (nI (k + 1))), some (.int (nI (s.1 ||| 2 ^ b))), some (.int (nI a)), some (.int (nI b))]) rfl ?_
          refine aE_iinc dX12_isFound_134 rfl (a_inc _) (by decide) rfl (aE_loc (ls' := [_, _, _, _, _, _, _]) rfl ?_)
          refine aE_goto (tgt := 149) dX12_isFound_137 (by decide) ?_
          refine aE_iinc dX12_isFound_149 rfl (a_inc _) (by decide) rfl (aE_loc (ls' := [_, _, _, _, _, _, _]) rfl ?_)
          refine aE_goto (tgt := 56) dX12_isFound_152 (by decide) ?_
          refine aE_loc (ls' := [some (.ref 101), some (.int (nI root)), some (.int (nI (s.2.2 ++ [x]).length)), some (.int (nI (k + 1))), some (.int (nI (s.1 ||| 2 ^ b))), some (.int (nI a)), some (.int (nI (b + 1)))]) (by simp) ?_
          refine ih (b + 1) _ _ (by omega) hB2 (gE_l hk) hres (fun q i h => (iu_ne (by omega)).trans (hfr2 q i h)) (fun c hc => (iu_ne (by omega)).trans (hrow2 c hc)) ⟨fun c hc => (iu_ne (by omega)).trans (hby2 c hc), fun i y hy => ?_⟩
          rcases gE_app hy with w | ⟨w1, w2⟩
          · have := (List.getElem?_eq_some_iff.mp w).1
            rw [iu_ne (by omega), iu_ne (by omega)]; exact hrw.2 i y w
          · rw [w1, w2, iu_eq]
      · skip
        refine aE_goto (tgt := 149) dX12_isFound_90 (by decide) ?_
        first
          | exact no (fun q => by rw [Bool.and_eq_true, Bool.and_eq_true] at q; rw [if_pos q.1.1] at h77; exact absurd h77 (by decide))
          | exact no (fun q => by rw [Bool.and_eq_true, Bool.not_eq_true'] at q; have q2 := tb_of h87; rw [q.2] at q2; cases q2)
theorem l_fd1 (f : Nat → Nat → Bool) (n root : Nat) (L G : pM) (hA : BA L n root) (hC : Cst L G) (h10 : n ≤ 10) (I0 : Nat → Nat → Int32) (hn : I0 101 42 = nI n) (hmay : ∀ a, a < n → I0 133 a = nI (setB (f a) n)) (res : bS × Option Nat) (hN : ∀ J s, FrF I0 J → res = (s, none) → (∀ c, c < n → J 136 c = rv (L c)) → qi Q 0 J sp pl) (kS : ∀ J s b, FrF I0 J → res = (s, some b) → (∀ c, c < n → J 136 c = rv ((mv s.2.1 n L G (some b)).1 c)) → qi Q 1 J sp pl) : ∀ (e k : Nat) (s : bS) (I : Nat → Nat → Int32), k + e = n + 1 → k ≤ s.2.2.length → BI f (fun b => !(0 : Nat).testBit b) L n root s → bfQ f (fun b => !(0 : Nat).testBit b) L n e k s = res → FrF I0 I → (∀ c, c < n → I 136 c = rv (L c)) → RWM I s → ∀ l5 l6, aE z mX12_isFound (rK 1) Q 37 [some (.ref 101), some (.int (nI root)), some (.int (nI s.2.2.length)), some (.int (nI k)), some (.int (nI s.1)), l5, l6] [] (nn pl) (MM I sp pl) 0 0 := by
  intro e
  induction e with
  | zero =>
    intro k s I hk hl hB
    have := BI_len hB
    omega
  | succ e ih =>
    intro k s I hk hl hB hres hfr hrow hrw l5 l6
    have hln := BI_len hB
    by_cases hkl : k = s.2.2.length
    · rw [show bfQ f (fun b => !(0 : Nat).testBit b) L n (e + 1) k s = (s, none) by unfold bfQ; rw [List.getElem?_eq_none (by omega)]] at hres
      refine aE_iload_n dX12_isFound_37 rfl rfl ?_
      refine aE_iload_n dX12_isFound_38 rfl rfl ?_
      refine aE_icmp_ge (tgt := 158) dX12_isFound_39 (by decide) (fun h39 => ?_) (fun h39 => absurd (by rw [hkl]; exact Int32.le_refl _) h39)
      refine aE_iconst (v := 0) dX12_isFound_158 rfl ?_
      refine aE_zret dX12_isFound_159 rfl (by first | exact Or.inl rfl | exact Or.inr rfl | exact wi_or _ _ _ | assumption) ⟨by decide, by decide⟩ ?_
      exact hN I s hfr hres.symm hrow
    · have hlt : k < s.2.2.length := by omega
      obtain ⟨a, hka⟩ : ∃ a, s.2.2[k]? = some a := ⟨_, List.getElem?_eq_getElem hlt⟩
      have ha := hB.2.2.2.2 a (List.mem_of_getElem? hka)
      refine aE_iload_n dX12_isFound_37 rfl rfl ?_
      refine aE_iload_n dX12_isFound_38 rfl rfl ?_
      refine aE_icmp_ge (tgt := 158) dX12_isFound_39 (by decide) (fun h39 => absurd h39 (nI_ge hlt (by omega))) (fun h39 => ?_)
      refine aE_aload_n dX12_isFound_42 rfl rfl ?_
      refine aE_getf (v := .ref 138) dX12_isFound_43 fw_X12_126 (lt_nn (by decide)) rfl rfl ?_
      refine aE_iload_n dX12_isFound_46 rfl rfl ?_
      refine aE_ildM dX12_isFound_47 (lt_nn (by decide)) rfl (by decide) rfl (by omega) ?_
      refine aE_top (hrw.2 k a hka) ?_
      refine aE_istore dX12_isFound_48 (by decide) rfl (aE_loc (ls' := [_, _, _, _, _, _, _]) rfl ?_)
      refine aE_iinc dX12_isFound_50 rfl (a_inc _) (by decide) rfl (aE_loc (ls' := [_, _, _, _, _, _, _]) rfl ?_)
      refine aE_iconst (v := 0) dX12_isFound_53 rfl ?_
      refine aE_istore dX12_isFound_54 (by decide) rfl (aE_loc (ls' := [_, _, _, _, _, _, _]) rfl ?_)
      refine l_fd2 f n root L G hA hC h10 I0 hn hmay k a ha (bfB f (fun b => !(0 : Nat).testBit b) L n a n s) (fun I2 s2 l5 l6 q1 q2 q3 q4 q5 q6 => ?_) (fun J s2 b q1 q2 q3 => ?_) n 0 s I (by omega) hB hka rfl hfr hrow hrw
      · refine ih (k + 1) s2 I2 (by omega) ((List.getElem?_eq_some_iff.mp q5).1) q4 ?_ q1 q2 q3 _ _
        rw [← hres, bfQ, hka]
        dsimp only
        rw [q6]
      · refine kS J s2 b q1 ?_ q3
        rw [← hres, bfQ, hka]
        dsimp only
        rw [q2]
theorem l_fd0 (n : Nat) (hn : I 101 42 = nI n) (h10 : n ≤ 10) (root : Nat) (l3 l4 l5 l6 : Option Value) (k0 : ∀ J, (∀ q i, q ≠ 137 → J q i = I q i) → aE z mX12_isFound (rK 1) Q 23 [some (.ref 101), some (.int (nI root)), some (.int (nI n)), l3, l4, l5, l6] [] (nn pl) (MM J sp pl) 0 0) : ∀ (e b : Nat) (J : Nat → Nat → Int32), b + e = n → (∀ q i, q ≠ 137 → J q i = I q i) → aE z mX12_isFound (rK 1) Q 2 [some (.ref 101), some (.int (nI root)), some (.int (nI b)), l3, l4, l5, l6] [] (nn pl) (MM J sp pl) 0 0 := by
  intro e
  induction e with
  | zero =>
    intro b J hb hJ
    have hb : b = n := by omega
    subst hb
    refine aE_iload_n dX12_isFound_2 rfl rfl ?_
    refine aE_aload_n dX12_isFound_3 rfl rfl ?_
    refine aE_geti dX12_isFound_4 fw_X12_230 (lt_nn (by decide)) rfl (by decide) rfl ?_
    refine aE_icmp_ge (tgt := 23) dX12_isFound_7 (by decide) (fun h7 => ?_) (fun h7 => absurd (by rw [hJ 101 42 (by decide), hn]; exact Int32.le_refl _) h7)
    exact k0 J hJ
  | succ e ih =>
    intro b J hb hJ
    refine aE_iload_n dX12_isFound_2 rfl rfl ?_
    refine aE_aload_n dX12_isFound_3 rfl rfl ?_
    refine aE_geti dX12_isFound_4 fw_X12_230 (lt_nn (by decide)) rfl (by decide) rfl ?_
    refine aE_icmp_ge (tgt := 23) dX12_isFound_7 (by decide) (fun h7 => absurd h7 (by rw [hJ 101 42 (by decide), hn]; exact nI_ge (by omega) (by omega))) (fun h7 => ?_)
    refine aE_aload_n dX12_isFound_10 rfl rfl ?_
    refine aE_getf (v := .ref 137) dX12_isFound_11 fw_X12_123 (lt_nn (by decide)) rfl rfl ?_
    refine aE_iload_n dX12_isFound_14 rfl rfl ?_
    refine aE_iconst (v := -1) dX12_isFound_15 rfl ?_
    refine aE_istM dX12_isFound_16 (lt_nn (by decide)) rfl (by decide) rfl (by omega) ?_
    refine aE_iinc dX12_isFound_17 rfl (a_inc _) (by decide) rfl (aE_loc (ls' := [_, _, _, _, _, _, _]) rfl ?_)
    refine aE_goto (tgt := 2) dX12_isFound_20 (by decide) ?_
    exact ih (b + 1) _ (by omega) (fun q i hq => (iu_ne (by omega)).trans (hJ q i hq))
theorem m_isFound (f : Nat → Nat → Bool) (n root : Nat) (L G : pM) (hA : BA L n root) (hC : Cst L G) (h10 : n ≤ 10) (hn : I 101 42 = nI n) (hmay : ∀ a, a < n → I 133 a = nI (setB (f a) n)) (hrow : (∀ c, c < n → I 136 c = rv (L c))) (hQ : ∀ J, FrF I J → (∀ c, c < n → J 136 c = rv ((gn f (fun b => !(0 : Nat).testBit b) n (L, G) root).2.1 c)) → qi Q (if (gn f (fun b => !(0 : Nat).testBit b) n (L, G) root).1 then 1 else 0) J sp pl) : aRuns mX12_isFound (rK 1) [.ref 101, .int (nI root)] (nn pl) (MM I sp pl) Q := by
  refine aRuns_of pn_X12_isFound (Nat.le_of_ble_eq_true rfl) (fun z => aE_loc (ls' := [_, _, _, _, _, _, _]) rfl ?_)
  refine aE_iconst (v := 0) dX12_isFound_0 rfl ?_
  refine aE_istore_n dX12_isFound_1 rfl (by decide) rfl (aE_loc (ls' := [_, _, _, _, _, _, _]) rfl ?_)
  refine l_fd0 n hn h10 root _ _ _ _ (fun J hJ => ?_) n 0 I (by omega) (fun _ _ _ => rfl)
  refine aE_iconst (v := 1) dX12_isFound_23 rfl ?_
  refine aE_istore_n dX12_isFound_24 rfl (by decide) rfl (aE_loc (ls' := [_, _, _, _, _, _, _]) rfl ?_)
  refine aE_aload_n dX12_isFound_25 rfl rfl ?_
  refine aE_getf (v := .ref 138) dX12_isFound_26 fw_X12_126 (lt_nn (by decide)) rfl rfl ?_
  refine aE_iconst (v := 0) dX12_isFound_29 rfl ?_
  refine aE_iload_n dX12_isFound_30 rfl rfl ?_
  refine aE_istM dX12_isFound_31 (lt_nn (by decide)) rfl (by decide) rfl (by decide) ?_
  refine aE_iconst (v := 0) dX12_isFound_32 rfl ?_
  refine aE_istore_n dX12_isFound_33 rfl (by decide) rfl (aE_loc (ls' := [_, _, _, _, _, _, _]) rfl ?_)
  refine aE_iconst (v := 0) dX12_isFound_34 rfl ?_
  refine aE_istore dX12_isFound_35 (by decide) rfl (aE_loc (ls' := [_, _, _, _, _, _, _]) rfl ?_)
  refine l_fd1 f n root L G hA hC h10 I hn hmay (bfQ f (fun b => !(0 : Nat).testBit b) L n (n + 1) 0 (0, fun _ => 0, [root])) (fun K s q1 q2 q3 => ?_) (fun K s b q1 q2 q3 => ?_) (n + 1) 0 (0, fun _ => 0, [root]) _ (by omega) (by omega) (BI_0 hA.1) rfl (fun q i h => (iu_ne (by omega)).trans (hJ q i (by omega))) (fun c hc => (iu_ne (by omega)).trans ((hJ 136 c (by decide)).trans (hrow c hc))) ⟨fun c hc => by simp at hc, fun i y hy => ?_⟩ _ _
  · have e : gn f (fun b => !(0 : Nat).testBit b) n (L, G) root = (false, L, G) := by unfold gn; rw [q2]
    rw [e] at hQ
    exact hQ K q1 q3
  · have e : gn f (fun b => !(0 : Nat).testBit b) n (L, G) root = (true, mv s.2.1 n L G (some b)) := by unfold gn; rw [q2]
    rw [e] at hQ
    exact hQ K q1 q3
  · cases i with
    | zero => simp at hy; rw [← hy]; exact iu_eq
    | succ i => simp at hy
theorem l_fw1 (n : Nat) (I0 : Nat → Nat → Int32) (hn : I0 101 42 = nI n) (h10 : n ≤ 10) (l2 : Option Value) (k0 : ∀ J, FrF I0 J → (∀ c, c < n → J 136 c = -1) → aE z mX12_fewest (rK 5) Q 27 [some (.ref 101), some (.int (nI n)), l2] [] (nn pl) (MM J sp pl) 0 0) : ∀ (e b : Nat) (J : Nat → Nat → Int32), b + e = n → FrF I0 J → (∀ c, c < b → J 136 c = -1) → aE z mX12_fewest (rK 5) Q 6 [some (.ref 101), some (.int (nI b)), l2] [] (nn pl) (MM J sp pl) 0 0 := by
  intro e
  induction e with
  | zero =>
    intro b J hb hJ hr
    have hb : b = n := by omega
    subst hb
    refine aE_iload_n dX12_fewest_6 rfl rfl ?_
    refine aE_aload_n dX12_fewest_7 rfl rfl ?_
    refine aE_geti dX12_fewest_8 fw_X12_230 (lt_nn (by decide)) rfl (by decide) rfl ?_
    refine aE_icmp_ge (tgt := 27) dX12_fewest_11 (by decide) (fun h11 => ?_) (fun h11 => absurd (by rw [hJ 101 42 (by omega), hn]; exact Int32.le_refl _) h11)
    exact k0 J hJ hr
  | succ e ih =>
    intro b J hb hJ hr
    refine aE_iload_n dX12_fewest_6 rfl rfl ?_
    refine aE_aload_n dX12_fewest_7 rfl rfl ?_
    refine aE_geti dX12_fewest_8 fw_X12_230 (lt_nn (by decide)) rfl (by decide) rfl ?_
    refine aE_icmp_ge (tgt := 27) dX12_fewest_11 (by decide) (fun h11 => absurd h11 (by rw [hJ 101 42 (by omega), hn]; exact nI_ge (by omega) (by omega))) (fun h11 => ?_)
    refine aE_aload_n dX12_fewest_14 rfl rfl ?_
    refine aE_getf (v := .ref 136) dX12_fewest_15 fw_X12_120 (lt_nn (by decide)) rfl rfl ?_
    refine aE_iload_n dX12_fewest_18 rfl rfl ?_
    refine aE_iconst (v := -1) dX12_fewest_19 rfl ?_
    refine aE_istM dX12_fewest_20 (lt_nn (by decide)) rfl (by decide) rfl (by omega) ?_
    refine aE_iinc dX12_fewest_21 rfl (a_inc _) (by decide) rfl (aE_loc (ls' := [_, _, _]) rfl ?_)
    refine aE_goto (tgt := 6) dX12_fewest_24 (by decide) ?_
    refine ih (b + 1) _ (by omega) (fun q i hq => (iu_ne (by omega)).trans (hJ q i hq)) (fun c hc => ?_)
    by_cases e : c = b
    · subst e; exact iu_eq
    · exact (iu_ne (by omega)).trans (hr c (by omega))
theorem l_fw2 (f : Nat → Nat → Bool) (n : Nat) (h10 : n ≤ 10) (I0 : Nat → Nat → Int32) (hn : I0 101 42 = nI n) (hmay : ∀ a, a < n → I0 133 a = nI (setB (f a) n)) (fin : Nat) (hQ : ∀ J, FrF I0 J → qi Q (nI n - nI fin) J sp pl) : ∀ (e a cnt : Nat) (PP : pM × pM) (I : Nat → Nat → Int32) (x : Int32), a + e = n → MI f (fun b => !(0 : Nat).testBit b) n 0 a cnt PP → (ms f (fun b => !(0 : Nat).testBit b) n e (cnt, PP)).1 = fin → FrF I0 I → (∀ c, c < n → I 136 c = rv (PP.1 c)) → x = nI n - nI cnt → aE z mX12_fewest (rK 5) Q 34 [some (.ref 101), some (.int x), some (.int (nI a))] [] (nn pl) (MM I sp pl) 0 0 := by
  intro e
  induction e with
  | zero =>
    intro a cnt PP I x ha hM hfin hfr hrow hx
    have ha : a = n := by omega
    subst ha
    have hfin : cnt = fin := hfin
    subst hfin hx
    refine aE_iload_n dX12_fewest_34 rfl rfl ?_
    refine aE_aload_n dX12_fewest_35 rfl rfl ?_
    refine aE_geti dX12_fewest_36 fw_X12_230 (lt_nn (by decide)) rfl (by decide) rfl ?_
    refine aE_icmp_ge (tgt := 59) dX12_fewest_39 (by decide) (fun h39 => ?_) (fun h39 => absurd (by rw [hfr 101 42 (by omega), hn]; exact Int32.le_refl _) h39)
    refine aE_iload_n dX12_fewest_59 rfl rfl ?_
    refine aE_iret dX12_fewest_60 rfl ⟨by decide, by decide⟩ ?_
    exact hQ I hfr
  | succ e ih =>
    intro a cnt PP I x ha hM hfin hfr hrow hx
    have hMg := MI_gn hM (Nat.zero_le _) (show a < n by omega)
    have hms : ms f (fun b => !(0 : Nat).testBit b) n (e + 1) (cnt, PP) = ms f (fun b => !(0 : Nat).testBit b) n e (cnt + (if (gn f (fun b => !(0 : Nat).testBit b) n PP a).1 then 1 else 0), (gn f (fun b => !(0 : Nat).testBit b) n PP a).2) := by
      have : n - (e + 1) = a := by omega
      rw [ms, this]
    rw [hms] at hfin
    refine aE_iload_n dX12_fewest_34 rfl rfl ?_
    refine aE_aload_n dX12_fewest_35 rfl rfl ?_
    refine aE_geti dX12_fewest_36 fw_X12_230 (lt_nn (by decide)) rfl (by decide) rfl ?_
    refine aE_icmp_ge (tgt := 59) dX12_fewest_39 (by decide) (fun h39 => absurd h39 (by rw [hfr 101 42 (by omega), hn]; exact nI_ge (by omega) (by omega))) (fun h39 => ?_)
    refine aE_aload_n dX12_fewest_42 rfl rfl ?_
    refine aE_iload_n dX12_fewest_43 rfl rfl ?_
    refine aE_cVq dX12_fewest_44 lk_X12_299 mv_X12_isFound (m_isFound (Q := (fun r n' m' => n' = nn pl ∧ ∃ J, m' = MM J sp pl ∧ r = some (.int (if (gn f (fun b => !(0 : Nat).testBit b) n PP a).1 then 1 else 0)) ∧ FrF I J ∧ (∀ c, c < n → J 136 c = rv ((gn f (fun b => !(0 : Nat).testBit b) n PP a).2.1 c)))) f n a PP.1 PP.2 (MI_BA hM (by omega)) hM.1 h10 ((hfr 101 42 (by omega)).trans hn) (fun a ha => (hfr 133 a (by omega)).trans (hmay a ha)) hrow (fun J h1 h2 => ⟨rfl, J, rfl, rfl, h1, h2⟩)) rfl (lt_nn (by decide)) rfl rfl ⟨by decide, by decide⟩ (Nat.le_of_ble_eq_true rfl) ⟨rfl, rfl⟩ ⟨by decide, by decide⟩ ?_
    rintro r n' m' ⟨rfl, J, rfl, rfl, hJ1, hJ2⟩
    have hfr2 : FrF I0 J := fun q i h => (hJ1 q i h).trans (hfr q i h)
    refine aE_if_eq (tgt := 53) dX12_fewest_47 (by decide) (fun h47 => ?_) (fun h47 => ?_)
    · skip
      refine aE_iinc dX12_fewest_53 rfl (a_inc _) (by decide) rfl (aE_loc (ls' := [_, _, _]) rfl ?_)
      refine aE_goto (tgt := 34) dX12_fewest_56 (by decide) ?_
      first
        | (have hg : ¬ (gn f (fun b => !(0 : Nat).testBit b) n PP a).1 = true := fun q => by rw [if_pos q] at h47; exact absurd h47 (by decide)
           rw [if_neg hg] at hfin hMg
           exact ih (a + 1) _ _ _ _ (by omega) hMg hfin hfr2 hJ2 hx)
        | (have hg : (gn f (fun b => !(0 : Nat).testBit b) n PP a).1 = true := Classical.byContradiction (fun q => h47 (by rw [if_neg q]))
           rw [if_pos hg] at hfin hMg
           exact ih (a + 1) _ _ _ _ (by omega) hMg hfin hfr2 hJ2 (by rw [hx, ← nI_1]; simp only [Int32.sub_eq_add_neg, Int32.neg_add, Int32.add_assoc]))
    · skip
      refine aE_iinc dX12_fewest_50 rfl (a_dec _) (by decide) rfl (aE_loc (ls' := [_, _, _]) rfl ?_)
      refine aE_iinc dX12_fewest_53 rfl (a_inc _) (by decide) rfl (aE_loc (ls' := [_, _, _]) rfl ?_)
      refine aE_goto (tgt := 34) dX12_fewest_56 (by decide) ?_
      first
        | (have hg : ¬ (gn f (fun b => !(0 : Nat).testBit b) n PP a).1 = true := fun q => by rw [if_pos q] at h47; exact absurd h47 (by decide)
           rw [if_neg hg] at hfin hMg
           exact ih (a + 1) _ _ _ _ (by omega) hMg hfin hfr2 hJ2 hx)
        | (have hg : (gn f (fun b => !(0 : Nat).testBit b) n PP a).1 = true := Classical.byContradiction (fun q => h47 (by rw [if_neg q]))
           rw [if_pos hg] at hfin hMg
           exact ih (a + 1) _ _ _ _ (by omega) hMg hfin hfr2 hJ2 (by rw [hx, ← nI_1]; simp only [Int32.sub_eq_add_neg, Int32.neg_add, Int32.add_assoc]))
/-- since I only what the search for followers writes has changed -/
def FrW (I J : Nat → Nat → Int32) : Prop := ∀ q i, q ≠ 133 → ¬ (136 ≤ q ∧ q ≤ 138) → J q i = I q i
theorem m_fewest (ns : Nat) (d : pD) (cs : Nat → pC) (al : Nat → Nat) (tr : Nat → Int32) (htr : ∀ s, s < 4 → I 132 s = tr s) (sl : Int32) (hsl : I 101 9 = sl) (hM : MS I ns d cs al) (hQ : ∀ J, FrW I J → qi Q (nI ((RR d cs al ns).length - mxF (mayF d cs tr sl (RR d cs al ns)) (RR d cs al ns).length (RR d cs al ns).length 0)) J sp pl) : aRuns mX12_fewest (rK 5) [.ref 101] (nn pl) (MM I sp pl) Q := by
  refine aRuns_of pn_X12_fewest (Nat.le_of_ble_eq_true rfl) (fun z => aE_loc (ls' := [_, _, _]) rfl ?_)
  have h10 := hM.2.2.2.2.2.2.1
  have hR : I 101 42 = nI (RR d cs al ns).length := hM.2.2.2.2.1.2.2.1.1
  refine aE_aload_n dX12_fewest_0 rfl rfl ?_
  refine aE_cVv dX12_fewest_1 lk_X12_268 mv_X12_findMay (m_findMay ns d cs al tr htr sl hsl hM) rfl (lt_nn (by decide)) rfl rfl ⟨by decide, by decide⟩ (Nat.le_of_ble_eq_true rfl) ⟨rfl, rfl⟩ ⟨by decide, by decide⟩ ?_
  refine aE_iconst (v := 0) dX12_fewest_4 rfl ?_
  refine aE_istore_n dX12_fewest_5 rfl (by decide) rfl (aE_loc (ls' := [_, _, _]) rfl ?_)
  obtain ⟨f, hf⟩ : ∃ f, (mayF d cs tr sl (RR d cs al ns)) = f := ⟨_, rfl⟩
  obtain ⟨n, hn⟩ : ∃ n, (RR d cs al ns).length = n := ⟨_, rfl⟩
  rw [hf, hn] at hQ ⊢
  rw [hn] at h10 hR
  refine l_fw1 n (mayI I f n n) ((mayI_o (by decide)).trans hR) h10 _ (fun J hJ hr => ?_) n 0 _ (by omega) (fun _ _ _ => rfl) (fun c hc => absurd hc (by omega))
  refine aE_aload_n dX12_fewest_27 rfl rfl ?_
  refine aE_geti dX12_fewest_28 fw_X12_230 (lt_nn (by decide)) rfl (by decide) rfl ?_
  refine aE_top (x' := nI n) ((hJ 101 42 (by omega)).trans ((mayI_o (by decide)).trans hR)) ?_
  refine aE_istore_n dX12_fewest_31 rfl (by decide) rfl (aE_loc (ls' := [_, _, _]) rfl ?_)
  refine aE_iconst (v := 0) dX12_fewest_32 rfl ?_
  refine aE_istore_n dX12_fewest_33 rfl (by decide) rfl (aE_loc (ls' := [_, _, _]) rfl ?_)
  refine l_fw2 f n h10 (mayI I f n n) ((mayI_o (by decide)).trans hR) (fun a ha => mayI_at ha) (mxF f n n 0) (fun K hK => ?_) n 0 0 M0 J _ (by omega) MI_0 (ms_mx (Nat.le_refl _)) hJ hr (by rw [show nI 0 = 0 from rfl, Int32.sub_zero])
  have hle := mxF_le f n n 0
  rw [show nI n - nI (mxF f n n 0) = nI (n - mxF f n n 0) by rw [show nI n = nI (n - mxF f n n 0) + nI (mxF f n n 0) by rw [nI_add, Nat.sub_add_cancel hle], Int32.add_sub_cancel]]
  exact hQ K (fun q i h1 h2 => (hK q i h2).trans (mayI_o h1))
end MMT
