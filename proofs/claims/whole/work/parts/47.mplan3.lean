/-- what plans are made from: stops, their corners, distances, pupils, seats; a school: corner, longest ride -/
abbrev pD : Type := Nat × (Nat → Nat) × tT × (Nat → Int32) × Int32
abbrev pC : Type := Nat × Int32
abbrev fS (d : pD) (c : pC) (S f : Nat) : Int32 := fB d.1 (fun f g => d.2.2.1 (d.2.1 f) (d.2.1 g)) (fun f => d.2.2.1 (d.2.1 f) c.1) S f
abbrev lS (d : pD) (c : pC) (S : Nat) : Int32 := leB d.1 (fun f g => d.2.2.1 (d.2.1 f) (d.2.1 g)) (fun f => d.2.2.1 (d.2.1 f) c.1) S
abbrev rS (d : pD) (c : pC) (S : Nat) : Bool := rtB d.1 (fun f g => d.2.2.1 (d.2.1 f) (d.2.1 g)) (fun f => d.2.2.1 (d.2.1 f) c.1) d.2.2.2.1 c.2 d.2.2.2.2 S
abbrev pS (d : pD) (c : pC) (S : Nat) : pP := pB (rS d c) (lS d c) S
/-- the model's rows hold what is known of the set S -/
def TabM (I : Nat → Nat → Int32) (d : pD) (c : pC) (S : Nat) : Prop := (∀ f, f < d.1 → S.testBit f = true → I 122 (10 * S + f) = fS d c S f) ∧ I 123 S = lS d c S ∧ I 124 S = (pS d c S).1 ∧ I 125 S = (pS d c S).2.1 ∧ ((pS d c S).1 < 1000000 → I 126 S = nI (pS d c S).2.2)
theorem TabM_fr {I J : Nat → Nat → Int32} {d : pD} {c : pC} {S : Nat} (hn : d.1 ≤ 10) (h : TabM I d c S) (h1 : ∀ f, f < 10 → J 122 (10 * S + f) = I 122 (10 * S + f)) (h2 : ∀ q, 123 ≤ q → q ≤ 126 → J q S = I q S) : TabM J d c S :=
  ⟨fun f hf hb => (h1 f (by omega)).trans (h.1 f hf hb), (h2 123 (by omega) (by omega)).trans h.2.1, (h2 124 (by omega) (by omega)).trans h.2.2.1, (h2 125 (by omega) (by omega)).trans h.2.2.2.1, fun q => (h2 126 (by omega) (by omega)).trans (h.2.2.2.2 q)⟩
theorem sumB_congr {S : Nat} {g g' : Nat → Int32} : ∀ n, (∀ k, k < n → g k = g' k) → sumB S g n = sumB S g' n
  | 0, _ => rfl
  | n + 1, h => by
    rw [sumB_s, sumB_s, sumB_congr n (fun k hk => h k (by omega)), h n (by omega)]
theorem rtB_congr {n : Nat} {W : Nat → Nat → Int32} {hm pu pu' : Nat → Int32} {may seats : Int32} (h : ∀ k, k < n → pu k = pu' k) : rtB n W hm pu may seats = rtB n W hm pu' may seats := by
  funext S; unfold rtB; rw [sumB_congr n h]
/-- the model's data -/
def mdD (I : Nat → Nat → Int32) (d : pD) : Prop := mdH I d.1 d.2.1 d.2.2.1 ∧ (∀ k, k < d.1 → I 112 k = d.2.2.2.1 k) ∧ I 101 7 = d.2.2.2.2
theorem mdD_fr {I0 I : Nat → Nat → Int32} {d : pD} (h : mdD I0 d) (hq : ∀ q i, q < 122 → (q = 101 → i < 10) → I q i = I0 q i) : mdD I d :=
  ⟨mdH_fr h.1 (fun q i hh => hq q i (by omega) (by omega)), fun k hk => (hq 112 k (by omega) (by omega)).trans (h.2.1 k hk), (hq 101 7 (by omega) (by omega)).trans h.2.2⟩
/-- a school of the model: its corner and longest ride -/
def mdC (I : Nat → Nat → Int32) (s : Nat) (c : pC) : Prop := c.1 < 8 ∧ I 107 s = nI c.1 ∧ (if I 106 s = 3 then I 101 8 / 2 else I 101 8) = c.2
/-- since Ib only what belongs to subsets of A has been written -/
def frA (Ib : Nat → Nat → Int32) (A : Nat) (I : Nat → Nat → Int32) : Prop := (∀ q i, ¬ (122 ≤ q ∧ q ≤ 126) → I q i = Ib q i) ∧ (∀ i, (¬ bdiff (i / 10) A = 0 ∨ i / 10 = 0) → I 122 i = Ib 122 i) ∧ ∀ q i, 123 ≤ q → q ≤ 126 → (¬ bdiff i A = 0 ∨ i = 0) → I q i = Ib q i
theorem bsub_tr {R S A : Nat} (h1 : bdiff R S = 0) (h2 : bdiff S A = 0) : bdiff R A = 0 := by
  apply Nat.eq_of_testBit_eq
  intro i
  have a := bdiff_tb R S i
  have b := bdiff_tb S A i
  rw [h1, Nat.zero_testBit] at a
  rw [h2, Nat.zero_testBit] at b
  rw [bdiff_tb, Nat.zero_testBit]
  revert a b
  cases R.testBit i <;> cases S.testBit i <;> cases A.testBit i <;> simp
section MPL3
variable {z : Nat × (Nat → Int32)} {n : Nat} {mem : aM} {I : Nat → Nat → Int32} {sp : Nat → Nat} {pl : Bool} {Q : Option Value → Nat → aM → Prop} {R : Room}
theorem l_sets (Ib : Nat → Nat → Int32) (s A : Nat) (d : pD) (c : pC) (hd : mdD Ib d) (hc : mdC Ib s c) (hs : s < 4) (hA : A < 1024) (hz0 : Ib 124 0 = 0 ∧ Ib 125 0 = 0) (k0 : ∀ I, frA Ib A I → (∀ S, S ≠ 0 → bdiff S A = 0 → TabM I d c S) → ∀ l3, aE z mX12_plan (rK 4) Q 94 [some (.ref 101), some (.int (nI s)), some (.int (nI A)), l3] [] (nn pl) (MM I sp pl) 0 0) : ∀ (e u : Nat), u + e = A + 1 → u ≠ 0 → ∀ I, frA Ib A I → (∀ S, S ≠ 0 → S < u → bdiff S A = 0 → TabM I d c S) → aE z mX12_plan (rK 4) Q 60 [some (.ref 101), some (.int (nI s)), some (.int (nI A)), some (.int (nI u))] [] (nn pl) (MM I sp pl) 0 0 := by
  intro e
  induction e with
  | zero =>
    intro u hu hu0 I hfr htab
    have hu : u = A + 1 := by omega
    subst hu
    refine aE_iload_n dX12_plan_60 rfl rfl ?_
    refine aE_iload_n dX12_plan_61 rfl rfl ?_
    refine aE_icmp_gt (tgt := 94) dX12_plan_62 (by decide) (fun h62 => ?_) (fun h62 => absurd (nI_lt (by omega) (by omega)) h62)
    refine k0 I hfr (fun S hS0 hSs => htab S hS0 ?_ hSs) _
    have hle : S ≤ A := Nat.le_of_testBit (fun i hi => by
      have a := bdiff_tb S A i
      rw [hSs, Nat.zero_testBit, hi] at a
      simpa using a)
    omega
  | succ e ih =>
    intro u hu hu0 I hfr htab
    refine aE_iload_n dX12_plan_60 rfl rfl ?_
    refine aE_iload_n dX12_plan_61 rfl rfl ?_
    refine aE_icmp_gt (tgt := 94) dX12_plan_62 (by decide) (fun h62 => absurd h62 (nI_nlt (by omega) (by omega))) (fun h62 => ?_)
    refine aE_iload_n dX12_plan_65 rfl rfl ?_
    refine aE_iload_n dX12_plan_66 rfl rfl ?_
    refine aE_iconst (v := -1) dX12_plan_67 rfl ?_
    refine aE_ixor dX12_plan_68 ?_
    refine aE_iand dX12_plan_69 ?_
    refine aE_top (nb_andn u A) ?_
    refine aE_if_eq (tgt := 76) dX12_plan_70 (by decide) (fun h70 => ?_) (fun h70 => ?_)
    · skip
      have hsub : bdiff u A = 0 := (nI_eq (b := 0) (by have := bdiff_le u A; omega) (by omega)).mp h70
      have hmd : mdD I d := mdD_fr hd (fun q i h1 h2 => hfr.1 q i (by omega))
      have hmc : c.1 < 8 ∧ I 107 s = nI c.1 ∧ (if I 106 s = 3 then I 101 8 / 2 else I 101 8) = c.2 := ⟨hc.1, (hfr.1 107 s (by omega)).trans hc.2.1, by rw [hfr.1 106 s (by omega), hfr.1 101 8 (by omega)]; exact hc.2.2⟩
      refine aE_aload_n dX12_plan_76 rfl rfl ?_
      refine aE_iload_n dX12_plan_77 rfl rfl ?_
      refine aE_iload_n dX12_plan_78 rfl rfl ?_
      refine aE_cVq dX12_plan_79 lk_X12_236 mv_X12_lengths (m_lengths (Q := (fun (r : Option Value) (n' : Nat) (m' : aM) => r = none ∧ n' = nn pl ∧ ∃ J, m' = MM J sp pl ∧ frL I u J ∧ (∀ f, f < d.1 → u.testBit f = true → J 122 (10 * u + f) = fS d c u f) ∧ J 123 u = lS d c u)) d.1 s u c.1 d.2.1 d.2.2.1 hmd.1 (by omega) hs hmc.1 hmc.2.1 (fun R hR hRs g hg hb => (htab R (fun q => by rw [q] at hb; simp at hb) hR (bsub_tr hRs hsub)).1 g hg hb) (fun J h1 h2 h3 => ⟨rfl, rfl, J, rfl, h1, h2, h3⟩)) rfl (lt_nn (by decide)) rfl rfl ⟨by decide, by decide⟩ (Nat.le_of_ble_eq_true rfl) ⟨rfl, rfl⟩ ⟨by decide, by decide⟩ ?_
      rintro r n' m' ⟨rfl, rfl, J, rfl, hJ, hJf, hJl⟩
      have hrt : rtB d.1 (fun f g => d.2.2.1 (d.2.1 f) (d.2.1 g)) (fun f => d.2.2.1 (d.2.1 f) c.1) (J 112) c.2 (J 101 7) = rS d c := by
        funext P
        rw [hJ.1 101 7 (by omega) (by omega), hmd.2.2, rtB_congr (fun k hk => (hJ.1 112 k (by omega) (by omega)).trans (hmd.2.1 k hk))]
      have h0 : J 124 0 = (pS d c 0).1 ∧ J 125 0 = (pS d c 0).2.1 := by
        rw [show pS d c 0 = (0, 0, 0) from pB_0, hJ.1 124 0 (by omega) (by omega), hJ.1 125 0 (by omega) (by omega), hfr.2.2 124 0 (by omega) (by omega) (Or.inr rfl), hfr.2.2 125 0 (by omega) (by omega) (Or.inr rfl)]
        exact hz0
      refine aE_aload_n dX12_plan_82 rfl rfl ?_
      refine aE_iload_n dX12_plan_83 rfl rfl ?_
      refine aE_iload_n dX12_plan_84 rfl rfl ?_
      refine aE_cVq dX12_plan_85 lk_X12_240 mv_X12_part (m_part (Q := (fun (r : Option Value) (n' : Nat) (m' : aM) => r = none ∧ n' = nn pl ∧ ∃ K, m' = MM K sp pl ∧ frP J u K ∧ K 124 u = (pS d c u).1 ∧ K 125 u = (pS d c u).2.1 ∧ ((pS d c u).1 < 1000000 → K 126 u = nI (pS d c u).2.2))) d.1 s u c.1 d.2.1 d.2.2.1 c.2 ((hJ.1 101 3 (by omega) (by omega)).trans hmd.1.1) hmd.1.2.1 (by omega) (by omega) hs (by rw [hJ.1 106 s (by omega) (by omega), hJ.1 101 8 (by omega) (by omega)]; exact hmc.2.2) (fun P hP0 hPu hPs => by by_cases e : P = u; (subst e; exact hJl); (rw [hJ.2.2 P e]; exact (htab P hP0 (by omega) (bsub_tr hPs hsub)).2.1)) (fun R hR hRs => by rw [hrt]; by_cases e : R = 0; (subst e; exact h0); exact ⟨by rw [hJ.1 124 R (by omega) (by omega)]; exact (htab R e hR (bsub_tr hRs hsub)).2.2.1, by rw [hJ.1 125 R (by omega) (by omega)]; exact (htab R e hR (bsub_tr hRs hsub)).2.2.2.1⟩) (by rw [hrt]; exact fun K h1 h2 h3 h4 => ⟨rfl, rfl, K, rfl, h1, h2, h3, h4⟩)) rfl (lt_nn (by decide)) rfl rfl ⟨by decide, by decide⟩ (Nat.le_of_ble_eq_true rfl) ⟨rfl, rfl⟩ ⟨by decide, by decide⟩ ?_
      rintro r n' m' ⟨rfl, rfl, K, rfl, hK, hK1, hK2, hK3⟩
      refine aE_iinc dX12_plan_88 rfl (a_inc _) (by decide) rfl (aE_loc (ls' := [_, _, _, _]) rfl ?_)
      refine aE_goto (tgt := 60) dX12_plan_91 (by decide) ?_
      first
        | exact ih (u + 1) (by omega) (by omega) I hfr (fun S hS0 hSu hSs => htab S hS0 (by
            rcases Nat.lt_or_ge S u with w | w
            · exact w
            · exfalso; exact h70 (by rw [show u = S by omega, hSs]; rfl)) hSs)
        | (refine ih (u + 1) (by omega) (by omega) K ⟨fun q i h1 => ?_, fun i h1 => ?_, fun q i h1 h2 h3 => ?_⟩ (fun S hS0 hSu hSs => ?_)
           · rw [hK q i (by omega), hJ.1 q i (by omega) (by omega)]; exact hfr.1 q i h1
           · rw [hK 122 i (by omega), hJ.2.1 i (fun w => h1.elim (fun e => e (by rw [show i / 10 = u by omega]; exact hsub)) (fun e => by omega))]; exact hfr.2.1 i h1
           · have hne : i ≠ u := fun e => h3.elim (fun w => w (e ▸ hsub)) (fun w => by omega)
             rw [hK q i (by omega)]
             by_cases e : q = 123
             · subst e; rw [hJ.2.2 i hne]; exact hfr.2.2 123 i h1 h2 h3
             · rw [hJ.1 q i (by omega) e]; exact hfr.2.2 q i h1 h2 h3
           · by_cases e : S = u
             · subst e
               exact ⟨fun f hf hb => (hK 122 _ (by omega)).trans (hJf f hf hb), (hK 123 _ (by omega)).trans hJl, hK1, hK2, hK3⟩
             · exact TabM_fr hmd.1.2.1 (htab S hS0 (by omega) hSs) (fun f hf => by rw [hK 122 _ (by omega), hJ.2.1 _ (by omega)]) (fun q h1 h2 => by
                 rw [hK q S (by omega)]
                 by_cases e2 : q = 123
                 · subst e2; exact hJ.2.2 S e
                 · exact hJ.1 q S (by omega) e2))
    · skip
      refine aE_goto (tgt := 88) dX12_plan_73 (by decide) ?_
      refine aE_iinc dX12_plan_88 rfl (a_inc _) (by decide) rfl (aE_loc (ls' := [_, _, _, _]) rfl ?_)
      refine aE_goto (tgt := 60) dX12_plan_91 (by decide) ?_
      first
        | exact ih (u + 1) (by omega) (by omega) I hfr (fun S hS0 hSu hSs => htab S hS0 (by
            rcases Nat.lt_or_ge S u with w | w
            · exact w
            · exfalso; exact h70 (by rw [show u = S by omega, hSs]; rfl)) hSs)
        | (refine ih (u + 1) (by omega) (by omega) K ⟨fun q i h1 => ?_, fun i h1 => ?_, fun q i h1 h2 h3 => ?_⟩ (fun S hS0 hSu hSs => ?_)
           · rw [hK q i (by omega), hJ.1 q i (by omega) (by omega)]; exact hfr.1 q i h1
           · rw [hK 122 i (by omega), hJ.2.1 i (fun w => h1.elim (fun e => e (by rw [show i / 10 = u by omega]; exact hsub)) (fun e => by omega))]; exact hfr.2.1 i h1
           · have hne : i ≠ u := fun e => h3.elim (fun w => w (e ▸ hsub)) (fun w => by omega)
             rw [hK q i (by omega)]
             by_cases e : q = 123
             · subst e; rw [hJ.2.2 i hne]; exact hfr.2.2 123 i h1 h2 h3
             · rw [hJ.1 q i (by omega) e]; exact hfr.2.2 q i h1 h2 h3
           · by_cases e : S = u
             · subst e
               exact ⟨fun f hf hb => (hK 122 _ (by omega)).trans (hJf f hf hb), (hK 123 _ (by omega)).trans hJl, hK1, hK2, hK3⟩
             · exact TabM_fr hmd.1.2.1 (htab S hS0 (by omega) hSs) (fun f hf => by rw [hK 122 _ (by omega), hJ.2.1 _ (by omega)]) (fun q h1 h2 => by
                 rw [hK q S (by omega)]
                 by_cases e2 : q = 123
                 · subst e2; exact hJ.2.2 S e
                 · exact hJ.1 q S (by omega) e2))
end MPL3
