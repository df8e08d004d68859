/-- the rows of the class's search -/
def RWC (I : Nat → Nat → Int32) (s : bS) : Prop := (∀ c, s.1.testBit c = true → I 73 c = nI (s.2.1 c)) ∧ ∀ (i x : Nat), s.2.2[i]? = some x → I 74 i = nI x
def FrK (I0 I : Nat → Nat → Int32) : Prop := ∀ q i, ¬ (71 ≤ q ∧ q ≤ 74) → I q i = I0 q i
theorem and_pw (X b : Nat) : X &&& 2 ^ b = if X.testBit b then 2 ^ b else 0 := by
  apply Nat.eq_of_testBit_eq
  intro i
  rw [Nat.testBit_and, Nat.testBit_two_pow]
  by_cases e : b = i
  · subst e
    cases X.testBit b <;> simp [Nat.testBit_two_pow]
  · cases X.testBit b <;> simp [Nat.testBit_two_pow, e]
theorem bdiff_or (A B C : Nat) : bdiff (bdiff A B) C = bdiff A (B ||| C) := by
  apply Nat.eq_of_testBit_eq
  intro i
  rw [bdiff_tb, bdiff_tb, bdiff_tb, Nat.testBit_or]
  cases A.testBit i <;> cases B.testBit i <;> cases C.testBit i <;> rfl
theorem bdiff_0 (A : Nat) : bdiff A 0 = A := by
  apply Nat.eq_of_testBit_eq
  intro i
  rw [bdiff_tb, Nat.zero_testBit]; simp
section CMT
variable {z : Nat × (Nat → Int32)} {n : Nat} {mem : aM} {I : Nat → Nat → Int32} {sp : Nat → Nat} {pl : Bool} {Q : Option Value → Nat → aM → Prop} {R : Room}
theorem l_move (f : Nat → Nat → Bool) (F : Nat → Bool) (n root : Nat) (q : List Nat) (bw : Nat → Nat) (L0 G0 : pM) (rch : Nat) (hS : SF f F n root q bw L0 G0 rch) (h10 : n ≤ 10) (I0 : Nat → Nat → Int32) (hn : I0 69 0 = nI n) (hbw : ∀ c, rch.testBit c = true → I0 73 c = nI (bw c)) (last : Nat) : ∀ (m st i : Nat) (L G : pM) (ob : Option Nat) (I : Nat → Nat → Int32), st + m = n → (∀ b, ob = some b → i ≤ m ∧ PH q n bw G0 rch i L G b) → (∀ q i, q ≠ 71 → q ≠ 72 → I q i = I0 q i) → (∀ c, c < n → I 72 c = rv (L c)) → (∀ c, c < n → I 71 c = rv (G c)) → (∀ J, (∀ q i, q ≠ 71 → q ≠ 72 → J q i = I0 q i) → (∀ c, c < n → J 72 c = rv ((mv bw m L G ob).1 c)) → (∀ c, c < n → J 71 c = rv ((mv bw m L G ob).2 c)) → Q none (nn pl) (MM J sp pl)) → ∀ l4 l5, aE z mX3_move (rK 0) Q 4 [some (.ref 69), some (.int (nI last)), some (.int (rv ob)), some (.int (nI st)), l4, l5] [] (nn pl) (MM I sp pl) 0 0 := by
  intro m
  induction m with
  | zero =>
    intro st i L G ob I hst hob hfr hr1 hr2 hQ l4 l5
    have hQ2 := hQ I hfr hr1 hr2
    refine aE_iload_n dX3_move_4 rfl rfl ?_
    refine aE_aload_n dX3_move_5 rfl rfl ?_
    refine aE_geti dX3_move_6 fw_X3_33 (lt_nn (by decide)) rfl (by decide) rfl ?_
    refine aE_icmp_ge (tgt := 58) dX3_move_9 (by decide) (fun h9 => ?_) (fun h9 => absurd (by rw [hfr 69 0 (by omega) (by omega), hn, show st = n by omega]; exact Int32.le_refl _) h9)
    refine aE_vret dX3_move_58 rfl ⟨by decide, by decide⟩ ?_
    exact hQ2
  | succ m ih =>
    intro st i L G ob I hst hob hfr hr1 hr2 hQ l4 l5
    cases ob with
    | none =>
      have hQ2 := hQ I hfr hr1 hr2
      refine aE_iload_n dX3_move_4 rfl rfl ?_
      refine aE_aload_n dX3_move_5 rfl rfl ?_
      refine aE_geti dX3_move_6 fw_X3_33 (lt_nn (by decide)) rfl (by decide) rfl ?_
      refine aE_icmp_ge (tgt := 58) dX3_move_9 (by decide) (fun h9 => absurd h9 (by rw [hfr 69 0 (by omega) (by omega), hn]; exact nI_ge (by omega) (by omega))) (fun h9 => ?_)
      refine aE_iload_n dX3_move_12 rfl rfl ?_
      refine aE_if_lt (tgt := 58) dX3_move_13 (by decide) (fun h13 => ?_) (fun h13 => absurd (by decide) h13)
      refine aE_vret dX3_move_58 rfl ⟨by decide, by decide⟩ ?_
      exact hQ2
    | some b =>
      obtain ⟨hi, h⟩ := hob b rfl
      obtain ⟨ha, hst2⟩ := PH_step hS h
      have hb := h.1
      have e0 : mv bw (m + 1) L G (some b) = mv bw m (fup L b (some (bw b))) (fup G (bw b) (some b)) (G (bw b)) := rfl
      rw [e0] at hQ
      have hfr1 : ∀ q i, q ≠ 71 → q ≠ 72 → iu (iu I 71 (bw b) (nI b)) 72 b (nI (bw b)) q i = I0 q i := fun q i h1 h2 => (iu_ne (by omega)).trans ((iu_ne (by omega)).trans (hfr q i h1 h2))
      have hrow1 : ∀ c, c < n → iu (iu I 71 (bw b) (nI b)) 72 b (nI (bw b)) 72 c = rv (fup L b (some (bw b)) c) := fun c hc => by
        by_cases e : c = b
        · subst e; rw [iu_eq, fup_eq]; rfl
        · rw [iu_ne (Or.inr e), iu_ne (by omega), fup_ne e]; exact hr1 c hc
      have hrow2 : ∀ c, c < n → iu (iu I 71 (bw b) (nI b)) 72 b (nI (bw b)) 71 c = rv (fup G (bw b) (some b) c) := fun c hc => by
        rw [iu_ne (by omega)]
        by_cases e : c = bw b
        · rw [e, iu_eq, fup_eq]; rfl
        · rw [iu_ne (Or.inr e), fup_ne e]; exact hr2 c hc
      have ih2 : ∀ l4 l5, aE z mX3_move (rK 0) Q 4 [some (.ref 69), some (.int (nI last)), some (.int (rv (G (bw b)))), some (.int (nI (st + 1))), l4, l5] [] (nn pl) (MM (iu (iu I 71 (bw b) (nI b)) 72 b (nI (bw b))) sp pl) 0 0 := by
        rcases hst2 with ⟨er, hG⟩ | ⟨c, j, e1, e2, e3, e4, e5, e6, e7, e8, e9, e10⟩
        · exact ih (st + 1) 0 _ _ _ _ (by omega) (fun b2 hb2 => by rw [hG] at hb2; cases hb2) hfr1 hrow1 hrow2 hQ
        · exact ih (st + 1) j _ _ _ _ (by omega) (fun b2 hb2 => by rw [e2] at hb2; cases hb2; exact ⟨by omega, e10⟩) hfr1 hrow1 hrow2 hQ
      refine aE_iload_n dX3_move_4 rfl rfl ?_
      refine aE_aload_n dX3_move_5 rfl rfl ?_
      refine aE_geti dX3_move_6 fw_X3_33 (lt_nn (by decide)) rfl (by decide) rfl ?_
      refine aE_icmp_ge (tgt := 58) dX3_move_9 (by decide) (fun h9 => absurd h9 (by rw [hfr 69 0 (by omega) (by omega), hn]; exact nI_ge (by omega) (by omega))) (fun h9 => ?_)
      refine aE_iload_n dX3_move_12 rfl rfl ?_
      refine aE_if_lt (tgt := 58) dX3_move_13 (by decide) (fun h13 => absurd h13 (nI_pos (by omega))) (fun h13 => ?_)
      refine aE_aload_n dX3_move_16 rfl rfl ?_
      refine aE_getf (v := .ref 73) dX3_move_17 fw_X3_21 (lt_nn (by decide)) rfl rfl ?_
      refine aE_iload_n dX3_move_20 rfl rfl ?_
      refine aE_ildM dX3_move_21 (lt_nn (by decide)) rfl (by decide) rfl (show b < 10 by omega) ?_
      refine aE_top ((hfr 73 b (by omega) (by omega)).trans (hbw b h.2.2.2.2.2.2)) ?_
      refine aE_istore dX3_move_22 (by decide) rfl (aE_loc (ls' := [_, _, _, _, _, _]) rfl ?_)
      refine aE_aload_n dX3_move_24 rfl rfl ?_
      refine aE_getf (v := .ref 71) dX3_move_25 fw_X3_15 (lt_nn (by decide)) rfl rfl ?_
      refine aE_iload dX3_move_28 rfl ?_
      refine aE_ildM dX3_move_30 (lt_nn (by decide)) rfl (by decide) rfl (show bw b < 10 by omega) ?_
      refine aE_top (hr2 (bw b) ha) ?_
      refine aE_istore dX3_move_31 (by decide) rfl (aE_loc (ls' := [_, _, _, _, _, _]) rfl ?_)
      refine aE_aload_n dX3_move_33 rfl rfl ?_
      refine aE_getf (v := .ref 71) dX3_move_34 fw_X3_15 (lt_nn (by decide)) rfl rfl ?_
      refine aE_iload dX3_move_37 rfl ?_
      refine aE_iload_n dX3_move_39 rfl rfl ?_
      refine aE_istM dX3_move_40 (lt_nn (by decide)) rfl (by decide) rfl (show bw b < 10 by omega) ?_
      refine aE_aload_n dX3_move_41 rfl rfl ?_
      refine aE_getf (v := .ref 72) dX3_move_42 fw_X3_18 (lt_nn (by decide)) rfl rfl ?_
      refine aE_iload_n dX3_move_45 rfl rfl ?_
      refine aE_iload dX3_move_46 rfl ?_
      refine aE_istM dX3_move_48 (lt_nn (by decide)) rfl (by decide) rfl (show b < 10 by omega) ?_
      refine aE_iload dX3_move_49 rfl ?_
      refine aE_istore_n dX3_move_51 rfl (by decide) rfl (aE_loc (ls' := [_, _, _, _, _, _]) rfl ?_)
      refine aE_iinc dX3_move_52 rfl (a_inc _) (by decide) rfl (aE_loc (ls' := [_, _, _, _, _, _]) rfl ?_)
      refine aE_goto (tgt := 4) dX3_move_55 (by decide) ?_
      exact ih2 _ _
theorem c_move (f : Nat → Nat → Bool) (F : Nat → Bool) (n root : Nat) (q : List Nat) (bw : Nat → Nat) (L0 G0 : pM) (rch : Nat) (hS : SF f F n root q bw L0 G0 rch) (h10 : n ≤ 10) (hn : I 69 0 = nI n) (hbw : ∀ c, rch.testBit c = true → I 73 c = nI (bw c)) (b : Nat) (hq : q.length ≤ n) (h : PH q n bw G0 rch q.length L0 G0 b) (hr1 : ∀ c, c < n → I 72 c = rv (L0 c)) (hr2 : ∀ c, c < n → I 71 c = rv (G0 c)) (hQ : ∀ J, (∀ q i, q ≠ 71 → q ≠ 72 → J q i = I q i) → (∀ c, c < n → J 72 c = rv ((mv bw n L0 G0 (some b)).1 c)) → (∀ c, c < n → J 71 c = rv ((mv bw n L0 G0 (some b)).2 c)) → Q none (nn pl) (MM J sp pl)) : aRuns mX3_move (rK 0) [.ref 69, .int (nI b)] (nn pl) (MM I sp pl) Q := by
  refine aRuns_of pn_X3_move (Nat.le_of_ble_eq_true rfl) (fun z => aE_loc (ls' := [_, _, _, _, _, _]) rfl ?_)
  refine aE_iload_n dX3_move_0 rfl rfl ?_
  refine aE_istore_n dX3_move_1 rfl (by decide) rfl (aE_loc (ls' := [_, _, _, _, _, _]) rfl ?_)
  refine aE_iconst (v := 0) dX3_move_2 rfl ?_
  refine aE_istore_n dX3_move_3 rfl (by decide) rfl (aE_loc (ls' := [_, _, _, _, _, _]) rfl ?_)
  exact l_move f F n root q bw L0 G0 rch hS h10 I hn hbw b n 0 q.length L0 G0 (some b) I (by omega) (fun b2 hb2 => by cases hb2; exact ⟨hq, h⟩) (fun _ _ _ _ => rfl) hr1 hr2 hQ _ _
theorem l_gn2 (f : Nat → Nat → Bool) (F : Nat → Bool) (n root : Nat) (L G : pM) (hA : BA L n root) (hC : Cst L G) (h10 : n ≤ 10) (I0 : Nat → Nat → Int32) (hn : I0 69 0 = nI n) (hmay : ∀ a, a < n → I0 70 a = nI (setB (f a) n)) (k a : Nat) (ha : a < n) (res : bS × Option Nat) (kN : ∀ I s l6 l7, FrK I0 I → (∀ c, c < n → I 72 c = rv (L c)) → (∀ c, c < n → I 71 c = rv (G c)) → RWC I s → BI f F L n root s → s.2.2[k]? = some a → res = (s, none) → aE z mX3_gains (rK 1) Q 126 [some (.ref 69), some (.int (nI root)), some (.int (nI (setB F n))), some (.int (nI (bdiff (setB F n) s.1))), some (.int (nI s.2.2.length)), some (.int (nI k)), l6, l7] [] (nn pl) (MM I sp pl) 0 0) (kS : ∀ J s b, FrK I0 J → res = (s, some b) → (∀ c, c < n → J 72 c = rv ((mv s.2.1 n L G (some b)).1 c)) → (∀ c, c < n → J 71 c = rv ((mv s.2.1 n L G (some b)).2 c)) → qi Q 1 J sp pl) : ∀ (e b : Nat) (s : bS) (I : Nat → Nat → Int32), b + e = n → BI f F L n root s → s.2.2[k]? = some a → bfB f F L n a e s = res → FrK I0 I → (∀ c, c < n → I 72 c = rv (L c)) → (∀ c, c < n → I 71 c = rv (G c)) → RWC I s → aE z mX3_gains (rK 1) Q 34 [some (.ref 69), some (.int (nI root)), some (.int (nI (setB F n))), some (.int (nI (bdiff (setB F n) s.1))), some (.int (nI s.2.2.length)), some (.int (nI k)), some (.int (nI a)), some (.int (nI b))] [] (nn pl) (MM I sp pl) 0 0 := by
  intro e
  induction e with
  | zero =>
    intro b s I hb hB hk hres hfr hr1 hr2 hrw
    have hb : b = n := by omega
    subst hb
    refine aE_iload dX3_gains_34 rfl ?_
    refine aE_aload_n dX3_gains_36 rfl rfl ?_
    refine aE_geti dX3_gains_37 fw_X3_33 (lt_nn (by decide)) rfl (by decide) rfl ?_
    refine aE_icmp_ge (tgt := 126) dX3_gains_40 (by decide) (fun h40 => ?_) (fun h40 => absurd (by rw [hfr 69 0 (by omega), hn]; exact Int32.le_refl _) h40)
    exact kN I s _ _ hfr hr1 hr2 hrw hB hk hres.symm
  | succ e ih =>
    intro b s I hb hB hk hres hfr hr1 hr2 hrw
    have hbn : b < n := by omega
    rw [bfB_s, show n - (e + 1) = b by omega] at hres
    have hmb : (setB (f a) n).testBit b = f a b := by rw [setB_tb]; simp [hbn]
    have hFb : (setB F n).testBit b = F b := by rw [setB_tb]; simp [hbn]
    have hp := pow10' h10
    have hpb := Nat.pow_lt_pow_right (a := 2) (by decide) hbn
    have hcd : (setB (f a) n &&& bdiff (setB F n) s.1).testBit b = (f a b && F b && !s.1.testBit b) := by rw [Nat.testBit_and, bdiff_tb, hmb, hFb, Bool.and_assoc]
    have hzz : ∀ X, ((setB (f a) n &&& bdiff (setB F n) s.1) &&& 2 ^ b = X) → X = if (f a b && F b && !s.1.testBit b) then 2 ^ b else 0 := fun X hX => by rw [← hX, and_pw, hcd]
    have hz := hzz _ rfl
    have hpos := Nat.two_pow_pos b
    by_cases hq : (f a b && F b && !s.1.testBit b) = true
    · rw [if_pos hq] at hz hres
      have hq1 : f a b = true := by rw [Bool.and_eq_true, Bool.and_eq_true] at hq; exact hq.1.1
      have hqF : F b = true := by rw [Bool.and_eq_true, Bool.and_eq_true] at hq; exact hq.1.2
      have hq2 : s.1.testBit b = false := by rw [Bool.and_eq_true, Bool.not_eq_true'] at hq; exact hq.2
      have hfr2 : FrK I0 (iu I 73 b (nI a)) := fun q i h => (iu_ne (by omega)).trans (hfr q i h)
      have hrow1 : ∀ c, c < n → iu I 73 b (nI a) 72 c = rv (L c) := fun c hc => (iu_ne (by omega)).trans (hr1 c hc)
      have hrow2 : ∀ c, c < n → iu I 73 b (nI a) 71 c = rv (G c) := fun c hc => (iu_ne (by omega)).trans (hr2 c hc)
      have hby2 : ∀ c, (s.1 ||| 2 ^ b).testBit c = true → iu I 73 b (nI a) 73 c = nI (fup s.2.1 b a c) := fun c hc => by
        by_cases e : c = b
        · subst e; rw [iu_eq, fup_eq]
        · rw [iu_ne (Or.inr e), fup_ne e]
          exact hrw.1 c ((or_tb.mp hc).resolve_right e)
      cases hx : L b with
      | none =>
        rw [hx] at hres
        have hFD : FD f F L n root (s.1 ||| 2 ^ b, fup s.2.1 b a, s.2.2) b := ⟨s, k, a, hB, hk, hbn, hq1, hqF, hx, hq2, rfl⟩
        obtain ⟨g1, g2, g3, g4, g5, g6⟩ := SF_of hA hC hFD
        refine aE_iload dX3_gains_34 rfl ?_
        refine aE_aload_n dX3_gains_36 rfl rfl ?_
        refine aE_geti dX3_gains_37 fw_X3_33 (lt_nn (by decide)) rfl (by decide) rfl ?_
        refine aE_icmp_ge (tgt := 126) dX3_gains_40 (by decide) (fun h40 => absurd h40 (by rw [hfr 69 0 (by omega), hn]; exact nI_ge (by omega) (by omega))) (fun h40 => ?_)
        refine aE_aload_n dX3_gains_43 rfl rfl ?_
        refine aE_getf (v := .ref 70) dX3_gains_44 fw_X3_9 (lt_nn (by decide)) rfl rfl ?_
        refine aE_iload dX3_gains_47 rfl ?_
        refine aE_ildM dX3_gains_49 (lt_nn (by decide)) rfl (by decide) rfl (by omega) ?_
        refine aE_top ((hfr 70 a (by omega)).trans (hmay a ha)) ?_
        refine aE_iload_n dX3_gains_50 rfl rfl ?_
        refine aE_iand dX3_gains_51 ?_
        refine aE_top (nb_and _ _) ?_
        refine aE_iconst (v := 1) dX3_gains_52 rfl ?_
        refine aE_iload dX3_gains_53 rfl ?_
        refine aE_ishl dX3_gains_55 ?_
        refine aE_top (nb_1shl (by omega)) ?_
        refine aE_iand dX3_gains_56 ?_
        refine aE_top ((nb_and _ _).trans (congrArg nI hz)) ?_
        refine aE_if_eq (tgt := 120) dX3_gains_57 (by decide) (fun h57 => absurd h57 (fun w => absurd ((nI_eq (b := 0) (by omega) (by omega)).mp w) (by omega))) (fun h57 => ?_)
        refine aE_iload_n dX3_gains_60 rfl rfl ?_
        refine aE_iconst (v := 1) dX3_gains_61 rfl ?_
        refine aE_iload dX3_gains_62 rfl ?_
        refine aE_ishl dX3_gains_64 ?_
        refine aE_top (nb_1shl (by omega)) ?_
        refine aE_iconst (v := -1) dX3_gains_65 rfl ?_
        refine aE_ixor dX3_gains_66 ?_
        refine aE_iand dX3_gains_67 ?_
        refine aE_top ((nb_andn _ _).trans (congrArg nI (bdiff_or _ _ _))) ?_
        refine aE_istore_n dX3_gains_68 rfl (by decide) rfl (aE_loc (ls' := [_, _, _, _, _, _, _, _]) rfl ?_)
        refine aE_aload_n dX3_gains_69 rfl rfl ?_
        refine aE_getf (v := .ref 73) dX3_gains_70 fw_X3_21 (lt_nn (by decide)) rfl rfl ?_
        refine aE_iload dX3_gains_73 rfl ?_
        refine aE_iload dX3_gains_75 rfl ?_
        refine aE_istM dX3_gains_77 (lt_nn (by decide)) rfl (by decide) rfl (by omega) ?_
        refine aE_aload_n dX3_gains_78 rfl rfl ?_
        refine aE_getf (v := .ref 72) dX3_gains_79 fw_X3_18 (lt_nn (by decide)) rfl rfl ?_
        refine aE_iload dX3_gains_82 rfl ?_
        refine aE_ildM dX3_gains_84 (lt_nn (by decide)) rfl (by decide) rfl (by omega) ?_
        refine aE_top (x' := -1) ((hrow1 b hbn).trans (by rw [hx]; rfl)) ?_
        refine aE_if_ge (tgt := 96) dX3_gains_85 (by decide) (fun h85 => absurd h85 (by decide)) (fun h85 => ?_)
        refine aE_aload_n dX3_gains_88 rfl rfl ?_
        refine aE_iload dX3_gains_89 rfl ?_
        refine aE_cVq dX3_gains_91 lk_X3_41 mv_X3_move (c_move (Q := (fun r n' m' => r = none ∧ n' = nn pl ∧ ∃ J, m' = MM J sp pl ∧ (∀ q i, q ≠ 71 → q ≠ 72 → J q i = iu I 73 b (nI a) q i) ∧ (∀ c, c < n → J 72 c = rv ((mv (fup s.2.1 b a) n L G (some b)).1 c)) ∧ (∀ c, c < n → J 71 c = rv ((mv (fup s.2.1 b a) n L G (some b)).2 c)))) f F n root _ _ L G _ g1 h10 (hfr2 69 0 (by omega) |>.trans hn) hby2 b g2 g6 hrow1 hrow2 (fun J h1 h2 h3 => ⟨rfl, rfl, J, rfl, h1, h2, h3⟩)) rfl (lt_nn (by decide)) rfl rfl ⟨by decide, by decide⟩ (Nat.le_of_ble_eq_true rfl) ⟨rfl, rfl⟩ ⟨by decide, by decide⟩ ?_
        rintro r n' m' ⟨rfl, rfl, J, rfl, hJ1, hJ2, hJ3⟩
        refine aE_iconst (v := 1) dX3_gains_94 rfl ?_
        refine aE_zret dX3_gains_95 rfl (by first | exact Or.inl rfl | exact Or.inr rfl | exact wi_or _ _ _ | assumption) ⟨by decide, by decide⟩ ?_
        exact kS J _ b (fun q i h => (hJ1 q i (by omega) (by omega)).trans (hfr2 q i h)) hres.symm hJ2 hJ3
      | some x =>
        rw [hx] at hres
        have hB2 := BI_s hA hB hk hq1 hqF hq2 hx
        have hl2 := BI_len hB2
        have hxn := (hA.2.1 b x hx).2.1
        have hl3 : s.2.2.length + 1 ≤ n := by
          have e : (s.2.2 ++ [x]).length = s.2.2.length + 1 := by simp
          exact e ▸ hl2
        have ih2 := ih (b + 1) _ (iu (iu I 73 b (nI a)) 74 s.2.2.length (nI x)) (by omega) hB2 (gE_l hk) hres (fun q i h => (iu_ne (by omega)).trans (hfr2 q i h)) (fun c hc => (iu_ne (by omega)).trans (hrow1 c hc)) (fun c hc => (iu_ne (by omega)).trans (hrow2 c hc)) ⟨fun c hc => (iu_ne (by omega)).trans (hby2 c hc), fun i y hy => by
          rcases gE_app hy with w | ⟨w1, w2⟩
          · have := (List.getElem?_eq_some_iff.mp w).1
            rw [iu_ne (by omega), iu_ne (by omega)]; exact hrw.2 i y w
          · rw [w1, w2, iu_eq]⟩
        rw [show (s.2.2 ++ [x]).length = s.2.2.length + 1 by simp] at ih2
        refine aE_iload dX3_gains_34 rfl ?_
        refine aE_aload_n dX3_gains_36 rfl rfl ?_
        refine aE_geti dX3_gains_37 fw_X3_33 (lt_nn (by decide)) rfl (by decide) rfl ?_
        refine aE_icmp_ge (tgt := 126) dX3_gains_40 (by decide) (fun h40 => absurd h40 (by rw [hfr 69 0 (by omega), hn]; exact nI_ge (by omega) (by omega))) (fun h40 => ?_)
        refine aE_aload_n dX3_gains_43 rfl rfl ?_
        refine aE_getf (v := .ref 70) dX3_gains_44 fw_X3_9 (lt_nn (by decide)) rfl rfl ?_
        refine aE_iload dX3_gains_47 rfl ?_
        refine aE_ildM dX3_gains_49 (lt_nn (by decide)) rfl (by decide) rfl (by omega) ?_
        refine aE_top ((hfr 70 a (by omega)).trans (hmay a ha)) ?_
        refine aE_iload_n dX3_gains_50 rfl rfl ?_
        refine aE_iand dX3_gains_51 ?_
        refine aE_top (nb_and _ _) ?_
        refine aE_iconst (v := 1) dX3_gains_52 rfl ?_
        refine aE_iload dX3_gains_53 rfl ?_
        refine aE_ishl dX3_gains_55 ?_
        refine aE_top (nb_1shl (by omega)) ?_
        refine aE_iand dX3_gains_56 ?_
        refine aE_top ((nb_and _ _).trans (congrArg nI hz)) ?_
        refine aE_if_eq (tgt := 120) dX3_gains_57 (by decide) (fun h57 => absurd h57 (fun w => absurd ((nI_eq (b := 0) (by omega) (by omega)).mp w) (by omega))) (fun h57 => ?_)
        refine aE_iload_n dX3_gains_60 rfl rfl ?_
        refine aE_iconst (v := 1) dX3_gains_61 rfl ?_
        refine aE_iload dX3_gains_62 rfl ?_
        refine aE_ishl dX3_gains_64 ?_
        refine aE_top (nb_1shl (by omega)) ?_
        refine aE_iconst (v := -1) dX3_gains_65 rfl ?_
        refine aE_ixor dX3_gains_66 ?_
        refine aE_iand dX3_gains_67 ?_
        refine aE_top ((nb_andn _ _).trans (congrArg nI (bdiff_or _ _ _))) ?_
        refine aE_istore_n dX3_gains_68 rfl (by decide) rfl (aE_loc (ls' := [_, _, _, _, _, _, _, _]) rfl ?_)
        refine aE_aload_n dX3_gains_69 rfl rfl ?_
        refine aE_getf (v := .ref 73) dX3_gains_70 fw_X3_21 (lt_nn (by decide)) rfl rfl ?_
        refine aE_iload dX3_gains_73 rfl ?_
        refine aE_iload dX3_gains_75 rfl ?_
        refine aE_istM dX3_gains_77 (lt_nn (by decide)) rfl (by decide) rfl (by omega) ?_
        refine aE_aload_n dX3_gains_78 rfl rfl ?_
        refine aE_getf (v := .ref 72) dX3_gains_79 fw_X3_18 (lt_nn (by decide)) rfl rfl ?_
        refine aE_iload dX3_gains_82 rfl ?_
        refine aE_ildM dX3_gains_84 (lt_nn (by decide)) rfl (by decide) rfl (by omega) ?_
        refine aE_top (x' := nI x) ((hrow1 b hbn).trans (by rw [hx]; rfl)) ?_
        refine aE_if_ge (tgt := 96) dX3_gains_85 (by decide) (fun h85 => ?_) (fun h85 => absurd (nI_pos' (by omega)) h85)
        refine aE_iload dX3_gains_96 rfl ?_
        refine aE_bipush (v := 10) dX3_gains_98 (by decide) ?_
        refine aE_icmp_ge (tgt := 120) dX3_gains_100 (by decide) (fun h100 => absurd h100 (nI_ge (b := 10) (by omega) (by omega))) (fun h100 => ?_)
        refine aE_aload_n dX3_gains_103 rfl rfl ?_
        refine aE_getf (v := .ref 74) dX3_gains_104 fw_X3_24 (lt_nn (by decide)) rfl rfl ?_
        refine aE_iload dX3_gains_107 rfl ?_
        refine aE_aload_n dX3_gains_109 rfl rfl ?_
        refine aE_getf (v := .ref 72) dX3_gains_110 fw_X3_18 (lt_nn (by decide)) rfl rfl ?_
        refine aE_iload dX3_gains_113 rfl ?_
        refine aE_ildM dX3_gains_115 (lt_nn (by decide)) rfl (by decide) rfl (by omega) ?_
        refine aE_top (x' := nI x) ((hrow1 b hbn).trans (by rw [hx]; rfl)) ?_
        refine aE_istM dX3_gains_116 (lt_nn (by decide)) rfl (by decide) rfl (by omega) ?_
        refine aE_iinc dX3_gains_117 rfl (a_inc _) (by decide) rfl (aE_loc (ls' := [_, _, _, _, _, _, _, _]) rfl ?_)
        refine aE_iinc dX3_gains_120 rfl (a_inc _) (by decide) rfl (aE_loc (ls' := [_, _, _, _, _, _, _, _]) rfl ?_)
        refine aE_goto (tgt := 34) dX3_gains_123 (by decide) ?_
        exact ih2
    · rw [if_neg hq] at hz hres
      refine aE_iload dX3_gains_34 rfl ?_
      refine aE_aload_n dX3_gains_36 rfl rfl ?_
      refine aE_geti dX3_gains_37 fw_X3_33 (lt_nn (by decide)) rfl (by decide) rfl ?_
      refine aE_icmp_ge (tgt := 126) dX3_gains_40 (by decide) (fun h40 => absurd h40 (by rw [hfr 69 0 (by omega), hn]; exact nI_ge (by omega) (by omega))) (fun h40 => ?_)
      refine aE_aload_n dX3_gains_43 rfl rfl ?_
      refine aE_getf (v := .ref 70) dX3_gains_44 fw_X3_9 (lt_nn (by decide)) rfl rfl ?_
      refine aE_iload dX3_gains_47 rfl ?_
      refine aE_ildM dX3_gains_49 (lt_nn (by decide)) rfl (by decide) rfl (by omega) ?_
      refine aE_top ((hfr 70 a (by omega)).trans (hmay a ha)) ?_
      refine aE_iload_n dX3_gains_50 rfl rfl ?_
      refine aE_iand dX3_gains_51 ?_
      refine aE_top (nb_and _ _) ?_
      refine aE_iconst (v := 1) dX3_gains_52 rfl ?_
      refine aE_iload dX3_gains_53 rfl ?_
      refine aE_ishl dX3_gains_55 ?_
      refine aE_top (nb_1shl (by omega)) ?_
      refine aE_iand dX3_gains_56 ?_
      refine aE_top ((nb_and _ _).trans (congrArg nI hz)) ?_
      refine aE_if_eq (tgt := 120) dX3_gains_57 (by decide) (fun h57 => ?_) (fun h57 => absurd (rfl) h57)
      refine aE_iinc dX3_gains_120 rfl (a_inc _) (by decide) rfl (aE_loc (ls' := [_, _, _, _, _, _, _, _]) rfl ?_)
      refine aE_goto (tgt := 34) dX3_gains_123 (by decide) ?_
      exact ih (b + 1) s I (by omega) hB hk hres hfr hr1 hr2 hrw
theorem l_gn1 (f : Nat → Nat → Bool) (F : Nat → Bool) (n root : Nat) (L G : pM) (hA : BA L n root) (hC : Cst L G) (h10 : n ≤ 10) (I0 : Nat → Nat → Int32) (hn : I0 69 0 = nI n) (hmay : ∀ a, a < n → I0 70 a = nI (setB (f a) n)) (res : bS × Option Nat) (hN : ∀ J s, FrK I0 J → res = (s, none) → (∀ c, c < n → J 72 c = rv (L c)) → (∀ c, c < n → J 71 c = rv (G c)) → qi Q 0 J sp pl) (kS : ∀ J s b, FrK I0 J → res = (s, some b) → (∀ c, c < n → J 72 c = rv ((mv s.2.1 n L G (some b)).1 c)) → (∀ c, c < n → J 71 c = rv ((mv s.2.1 n L G (some b)).2 c)) → qi Q 1 J sp pl) : ∀ (e k : Nat) (s : bS) (I : Nat → Nat → Int32), k + e = n + 1 → k ≤ s.2.2.length → BI f F L n root s → bfQ f F L n e k s = res → FrK I0 I → (∀ c, c < n → I 72 c = rv (L c)) → (∀ c, c < n → I 71 c = rv (G c)) → RWC I s → ∀ l6 l7, aE z mX3_gains (rK 1) Q 15 [some (.ref 69), some (.int (nI root)), some (.int (nI (setB F n))), some (.int (nI (bdiff (setB F n) s.1))), some (.int (nI s.2.2.length)), some (.int (nI k)), l6, l7] [] (nn pl) (MM I sp pl) 0 0 := by
  intro e
  induction e with
  | zero =>
    intro k s I hk hl hB
    have := BI_len hB
    omega
  | succ e ih =>
    intro k s I hk hl hB hres hfr hr1 hr2 hrw l6 l7
    have hln := BI_len hB
    by_cases hkl : k = s.2.2.length
    · rw [show bfQ f F L n (e + 1) k s = (s, none) by unfold bfQ; rw [List.getElem?_eq_none (by omega)]] at hres
      refine aE_iload dX3_gains_15 rfl ?_
      refine aE_iload dX3_gains_17 rfl ?_
      refine aE_icmp_ge (tgt := 132) dX3_gains_19 (by decide) (fun h19 => ?_) (fun h19 => absurd (by rw [hkl]; exact Int32.le_refl _) h19)
      refine aE_iconst (v := 0) dX3_gains_132 rfl ?_
      refine aE_zret dX3_gains_133 rfl (by first | exact Or.inl rfl | exact Or.inr rfl | exact wi_or _ _ _ | assumption) ⟨by decide, by decide⟩ ?_
      exact hN I s hfr hres.symm hr1 hr2
    · have hlt : k < s.2.2.length := by omega
      obtain ⟨a, hka⟩ : ∃ a, s.2.2[k]? = some a := ⟨_, List.getElem?_eq_getElem hlt⟩
      have ha := hB.2.2.2.2 a (List.mem_of_getElem? hka)
      refine aE_iload dX3_gains_15 rfl ?_
      refine aE_iload dX3_gains_17 rfl ?_
      refine aE_icmp_ge (tgt := 132) dX3_gains_19 (by decide) (fun h19 => absurd h19 (nI_ge hlt (by omega))) (fun h19 => ?_)
      refine aE_aload_n dX3_gains_22 rfl rfl ?_
      refine aE_getf (v := .ref 74) dX3_gains_23 fw_X3_24 (lt_nn (by decide)) rfl rfl ?_
      refine aE_iload dX3_gains_26 rfl ?_
      refine aE_ildM dX3_gains_28 (lt_nn (by decide)) rfl (by decide) rfl (by omega) ?_
      refine aE_top (hrw.2 k a hka) ?_
      refine aE_istore dX3_gains_29 (by decide) rfl (aE_loc (ls' := [_, _, _, _, _, _, _, _]) rfl ?_)
      refine aE_iconst (v := 0) dX3_gains_31 rfl ?_
      refine aE_istore dX3_gains_32 (by decide) rfl (aE_loc (ls' := [_, _, _, _, _, _, _, _]) rfl ?_)
      refine l_gn2 f F n root L G hA hC h10 I0 hn hmay k a ha (bfB f F L n a n s) (fun I2 s2 l6 l7 q1 q2 q2' q3 q4 q5 q6 => ?_) (fun J s2 b q1 q2 q3 q4 => ?_) n 0 s I (by omega) hB hka rfl hfr hr1 hr2 hrw
      · have h15 := ih (k + 1) s2 I2 (by omega) ((List.getElem?_eq_some_iff.mp q5).1) q4 (by
          rw [← hres, bfQ, hka]
          dsimp only
          rw [q6]) q1 q2 q2' q3
        refine aE_iinc dX3_gains_126 rfl (a_inc _) (by decide) rfl (aE_loc (ls' := [_, _, _, _, _, _, _, _]) rfl ?_)
        refine aE_goto (tgt := 15) dX3_gains_129 (by decide) ?_
        exact h15 _ _
      · refine kS J s2 b q1 ?_ q3 q4
        rw [← hres, bfQ, hka]
        dsimp only
        rw [q2]
theorem c_gains (f : Nat → Nat → Bool) (F : Nat → Bool) (n root : Nat) (L G : pM) (hA : BA L n root) (hC : Cst L G) (h10 : n ≤ 10) (hn : I 69 0 = nI n) (hmay : ∀ a, a < n → I 70 a = nI (setB (f a) n)) (hr1 : ∀ c, c < n → I 72 c = rv (L c)) (hr2 : ∀ c, c < n → I 71 c = rv (G c)) (hQ : ∀ J, FrK I J → (∀ c, c < n → J 72 c = rv ((gn f F n (L, G) root).2.1 c)) → (∀ c, c < n → J 71 c = rv ((gn f F n (L, G) root).2.2 c)) → qi Q (if (gn f F n (L, G) root).1 then 1 else 0) J sp pl) : aRuns mX3_gains (rK 1) [.ref 69, .int (nI root), .int (nI (setB F n))] (nn pl) (MM I sp pl) Q := by
  have hrt := hA.1
  refine aRuns_of pn_X3_gains (Nat.le_of_ble_eq_true rfl) (fun z => aE_loc (ls' := [_, _, _, _, _, _, _, _]) rfl ?_)
  refine aE_iload_n dX3_gains_0 rfl rfl ?_
  refine aE_istore_n dX3_gains_1 rfl (by decide) rfl (aE_loc (ls' := [_, _, _, _, _, _, _, _]) rfl ?_)
  refine aE_iconst (v := 1) dX3_gains_2 rfl ?_
  refine aE_istore dX3_gains_3 (by decide) rfl (aE_loc (ls' := [_, _, _, _, _, _, _, _]) rfl ?_)
  refine aE_aload_n dX3_gains_5 rfl rfl ?_
  refine aE_getf (v := .ref 74) dX3_gains_6 fw_X3_24 (lt_nn (by decide)) rfl rfl ?_
  refine aE_iconst (v := 0) dX3_gains_9 rfl ?_
  refine aE_iload_n dX3_gains_10 rfl rfl ?_
  refine aE_istM dX3_gains_11 (lt_nn (by decide)) rfl (by decide) rfl (by decide) ?_
  refine aE_iconst (v := 0) dX3_gains_12 rfl ?_
  refine aE_istore dX3_gains_13 (by decide) rfl (aE_loc (ls' := [_, _, _, _, _, _, _, _]) rfl ?_)
  have h15 := l_gn1 (Q := Q) (z := z) (sp := sp) (pl := pl) f F n root L G hA hC h10 I hn hmay (bfQ f F L n (n + 1) 0 (0, fun _ => 0, [root])) (fun K s q1 q2 q3 q4 => by
      have e : (gn f F n (L, G) root) = (false, L, G) := by unfold gn; rw [q2]
      rw [e] at hQ
      exact hQ K q1 q3 q4) (fun K s b q1 q2 q3 q4 => by
      have e : (gn f F n (L, G) root) = (true, mv s.2.1 n L G (some b)) := by unfold gn; rw [q2]
      rw [e] at hQ
      exact hQ K q1 q3 q4) (n + 1) 0 (0, fun _ => 0, [root]) (iu I 74 0 (nI root)) (by omega) (by omega) (BI_0 hA.1) rfl (fun q i h => iu_ne (by omega)) (fun c hc => (iu_ne (by omega)).trans (hr1 c hc)) (fun c hc => (iu_ne (by omega)).trans (hr2 c hc)) ⟨fun c hc => by simp at hc, fun i y hy => by
      cases i with
      | zero => simp at hy; rw [← hy]; exact iu_eq
      | succ i => simp at hy⟩
  rw [bdiff_0] at h15
  exact h15 _ _
theorem l_most (f : Nat → Nat → Bool) (F : Nat → Bool) (n fi : Nat) (h10 : n ≤ 10) (I0 : Nat → Nat → Int32) (hn : I0 69 0 = nI n) (hmay : ∀ a, a < n → I0 70 a = nI (setB (f a) n)) (fin : Nat) (hQ : ∀ J, FrK I0 J → qi Q (nI fin) J sp pl) : ∀ (e a cnt : Nat) (PP : pM × pM) (I : Nat → Nat → Int32), a + e = n → fi ≤ a → MI f F n fi a cnt PP → (ms f F n e (cnt, PP)).1 = fin → FrK I0 I → (∀ c, c < n → I 72 c = rv (PP.1 c)) → (∀ c, c < n → I 71 c = rv (PP.2 c)) → aE z mX3_most (rK 2) Q 21 [some (.ref 69), some (.int (nI fi)), some (.int (nI (setB F n))), some (.int (nI cnt)), some (.int (nI a))] [] (nn pl) (MM I sp pl) 0 0 := by
  intro e
  induction e with
  | zero =>
    intro a cnt PP I ha hfi hM hfin hfr hr1 hr2
    have ha : a = n := by omega
    subst ha
    have hfin : cnt = fin := hfin
    subst hfin
    refine aE_iload dX3_most_21 rfl ?_
    refine aE_aload_n dX3_most_23 rfl rfl ?_
    refine aE_geti dX3_most_24 fw_X3_33 (lt_nn (by decide)) rfl (by decide) rfl ?_
    refine aE_icmp_ge (tgt := 49) dX3_most_27 (by decide) (fun h27 => ?_) (fun h27 => absurd (by rw [hfr 69 0 (by omega), hn]; exact Int32.le_refl _) h27)
    refine aE_iload_n dX3_most_49 rfl rfl ?_
    refine aE_iret dX3_most_50 rfl ⟨by decide, by decide⟩ ?_
    exact hQ I hfr
  | succ e ih =>
    intro a cnt PP I ha hfi hM hfin hfr hr1 hr2
    have hMg := MI_gn hM hfi (show a < n by omega)
    have hms : ms f F n (e + 1) (cnt, PP) = ms f F n e (cnt + (if (gn f F n PP a).1 then 1 else 0), (gn f F n PP a).2) := by
      have : n - (e + 1) = a := by omega
      rw [ms, this]
    rw [hms] at hfin
    refine aE_iload dX3_most_21 rfl ?_
    refine aE_aload_n dX3_most_23 rfl rfl ?_
    refine aE_geti dX3_most_24 fw_X3_33 (lt_nn (by decide)) rfl (by decide) rfl ?_
    refine aE_icmp_ge (tgt := 49) dX3_most_27 (by decide) (fun h27 => absurd h27 (by rw [hfr 69 0 (by omega), hn]; exact nI_ge (by omega) (by omega))) (fun h27 => ?_)
    refine aE_aload_n dX3_most_30 rfl rfl ?_
    refine aE_iload dX3_most_31 rfl ?_
    refine aE_iload_n dX3_most_33 rfl rfl ?_
    refine aE_cVq dX3_most_34 lk_X3_37 mv_X3_gains (c_gains (Q := (fun r n' m' => n' = nn pl ∧ ∃ J, m' = MM J sp pl ∧ r = some (.int (if (gn f F n PP a).1 then 1 else 0)) ∧ FrK I J ∧ (∀ c, c < n → J 72 c = rv ((gn f F n PP a).2.1 c)) ∧ (∀ c, c < n → J 71 c = rv ((gn f F n PP a).2.2 c)))) f F n a PP.1 PP.2 (MI_BA hM (by omega)) hM.1 h10 ((hfr 69 0 (by omega)).trans hn) (fun a ha => (hfr 70 a (by omega)).trans (hmay a ha)) hr1 hr2 (fun J h1 h2 h3 => ⟨rfl, J, rfl, rfl, h1, h2, h3⟩)) rfl (lt_nn (by decide)) rfl rfl ⟨by decide, by decide⟩ (Nat.le_of_ble_eq_true rfl) ⟨rfl, rfl⟩ ⟨by decide, by decide⟩ ?_
    rintro r n' m' ⟨rfl, J, rfl, rfl, hJ1, hJ2, hJ3⟩
    have hfr2 : FrK I0 J := fun q i h => (hJ1 q i h).trans (hfr q i h)
    refine aE_if_eq (tgt := 43) dX3_most_37 (by decide) (fun h37 => ?_) (fun h37 => ?_)
    · skip
      refine aE_iinc dX3_most_43 rfl (a_inc _) (by decide) rfl (aE_loc (ls' := [_, _, _, _, _]) rfl ?_)
      refine aE_goto (tgt := 21) dX3_most_46 (by decide) ?_
      first
        | (have hg : ¬ (gn f F n PP a).1 = true := fun q => by rw [if_pos q] at h37; exact absurd h37 (by decide)
           rw [if_neg hg] at hfin hMg
           exact ih (a + 1) _ _ _ (by omega) (by omega) hMg hfin hfr2 hJ2 hJ3)
        | (have hg : (gn f F n PP a).1 = true := Classical.byContradiction (fun q => h37 (by rw [if_neg q]))
           rw [if_pos hg] at hfin hMg
           exact ih (a + 1) _ _ _ (by omega) (by omega) hMg hfin hfr2 hJ2 hJ3)
    · skip
      refine aE_iinc dX3_most_40 rfl (a_inc _) (by decide) rfl (aE_loc (ls' := [_, _, _, _, _]) rfl ?_)
      refine aE_iinc dX3_most_43 rfl (a_inc _) (by decide) rfl (aE_loc (ls' := [_, _, _, _, _]) rfl ?_)
      refine aE_goto (tgt := 21) dX3_most_46 (by decide) ?_
      first
        | (have hg : ¬ (gn f F n PP a).1 = true := fun q => by rw [if_pos q] at h37; exact absurd h37 (by decide)
           rw [if_neg hg] at hfin hMg
           exact ih (a + 1) _ _ _ (by omega) (by omega) hMg hfin hfr2 hJ2 hJ3)
        | (have hg : (gn f F n PP a).1 = true := Classical.byContradiction (fun q => h37 (by rw [if_neg q]))
           rw [if_pos hg] at hfin hMg
           exact ih (a + 1) _ _ _ (by omega) (by omega) hMg hfin hfr2 hJ2 hJ3)
theorem c_most (f : Nat → Nat → Bool) (n fi T : Nat) (h10 : n ≤ 10) (hfi : fi ≤ n) (hn : I 69 0 = nI n) (hmay : ∀ a, a < n → I 70 a = nI (setB (f a) n)) (hQ : ∀ J, FrK I J → qi Q (nI (mxF f n (n - fi) T)) J sp pl) : aRuns mX3_most (rK 2) [.ref 69, .int (nI fi), .int (nI (setB (fun b => !T.testBit b) n))] (nn pl) (MM I sp pl) Q := by
  refine aRuns_of pn_X3_most (Nat.le_of_ble_eq_true rfl) (fun z => aE_loc (ls' := [_, _, _, _, _]) rfl ?_)
  refine aE_aload_n dX3_most_0 rfl rfl ?_
  refine aE_getf (v := .ref 71) dX3_most_1 fw_X3_15 (lt_nn (by decide)) rfl rfl ?_
  refine aE_iconst (v := -1) dX3_most_4 rfl ?_
  refine aE_cSv dX3_most_5 lk_X3_27 ms_J7_fill_53178 (c_fill 71 10 _ (lt_nn (by decide)) rfl (by decide)) rfl rfl ⟨by decide, by decide⟩ (Nat.le_of_ble_eq_true rfl) ⟨rfl, rfl⟩ ⟨by decide, by decide⟩ ?_
  refine aE_aload_n dX3_most_8 rfl rfl ?_
  refine aE_getf (v := .ref 72) dX3_most_9 fw_X3_18 (lt_nn (by decide)) rfl rfl ?_
  refine aE_iconst (v := -1) dX3_most_12 rfl ?_
  refine aE_cSv dX3_most_13 lk_X3_27 ms_J7_fill_53178 (c_fill 72 10 _ (lt_nn (by decide)) rfl (by decide)) rfl rfl ⟨by decide, by decide⟩ (Nat.le_of_ble_eq_true rfl) ⟨rfl, rfl⟩ ⟨by decide, by decide⟩ ?_
  refine aE_iconst (v := 0) dX3_most_16 rfl ?_
  refine aE_istore_n dX3_most_17 rfl (by decide) rfl (aE_loc (ls' := [_, _, _, _, _]) rfl ?_)
  refine aE_iload_n dX3_most_18 rfl rfl ?_
  refine aE_istore dX3_most_19 (by decide) rfl (aE_loc (ls' := [_, _, _, _, _]) rfl ?_)
  refine l_most f (fun b => !T.testBit b) n fi h10 I hn hmay (mxF f n (n - fi) T) hQ (n - fi) fi 0 M0 _ (by omega) (Nat.le_refl _) MI_0 (ms_mx (by omega)) (fun q i h => ?_) (fun c hc => ?_) (fun c hc => ?_)
  · rw [fillI_eq, fillI_eq]; dsimp only; rw [if_neg (by omega), if_neg (by omega)]
  · rw [fillI_eq]; dsimp only; rw [if_pos ⟨rfl, by omega⟩]; rfl
  · rw [fillI_eq, fillI_eq]; dsimp only; rw [if_neg (by omega), if_pos ⟨rfl, by omega⟩]; rfl
end CMT
