/-- manyRoutes of a school; whether the first k schools have plans -/
def mrV (d : pD) (c : pC) (A : Nat) : Int32 := if (pS d c A).1 < 1000000 then (pS d c A).1 else -1
def allH (d : pD) (cs : Nat → pC) (al : Nat → Nat) : Nat → Bool
  | 0 => true
  | k + 1 => allH d cs al k && decide ((pS d (cs k) (al k)).1 < 1000000)
theorem mrV_neg {d : pD} {c : pC} {A : Nat} (hA : A < 1024) : mrV d c A < 0 ↔ ¬ (pS d c A).1 < 1000000 := by
  unfold mrV
  by_cases h : (pS d c A).1 < 1000000
  · rw [if_pos h]
    obtain ⟨m, hm⟩ := pB_lt hA h
    have := cdB_bound A 10
    constructor
    · intro q; rw [show (pS d c A).1 = nI m from hm.2.1] at q; exact absurd q (nI_pos (by have := hm.1; omega))
    · intro q; exact absurd h q
  · rw [if_neg h]
    exact ⟨fun _ => h, fun _ => by decide⟩
/-- the model's plan stands: the first k schools -/
def PlM (I : Nat → Nat → Int32) (d : pD) (cs : Nat → pC) (al : Nat → Nat) (k : Nat) : Prop := (I 124 0 = 0 ∧ I 125 0 = 0) ∧ (∀ s, s < k → ∀ S, S ≠ 0 → bdiff S (al s) = 0 → TabM I d (cs s) S) ∧ RtM I d cs (RR d cs al k) ∧ (∀ s, s < k → I 130 s = nI (RR d cs al s).length ∧ I 131 s = mrV d (cs s) (al s)) ∧ I 101 43 = (if allH d cs al k then 1 else 0)
def FrM (I0 I : Nat → Nat → Int32) : Prop := ∀ q i, ¬ (122 ≤ q ∧ q ≤ 131) → ¬ (q = 101 ∧ (i = 42 ∨ i = 43)) → I q i = I0 q i
theorem al_dis {f : Nat → Int32} {n s s' S : Nat} (hs : s < 1000) (hs' : s' < 1000) (hne : s ≠ s') (hS : S ≠ 0) (h : bdiff S (setOf f (nI s') n) = 0) : ¬ bdiff S (setOf f (nI s) n) = 0 := by
  intro h2
  obtain ⟨i, hi⟩ := Nat.exists_testBit_of_ne_zero hS
  have a := bdiff_tb S (setOf f (nI s') n) i
  have b := bdiff_tb S (setOf f (nI s) n) i
  rw [h, Nat.zero_testBit, hi, setOf_tb] at a
  rw [h2, Nat.zero_testBit, hi, setOf_tb] at b
  simp only [Bool.true_and] at a b
  have a' : i < n ∧ f i = nI s' := by simpa using a.symm
  have b' : i < n ∧ f i = nI s := by simpa using b.symm
  exact hne ((nI_eq (by omega) (by omega)).mp (b'.2.symm.trans a'.2))
section MPL5
variable {z : Nat × (Nat → Int32)} {n : Nat} {mem : aM} {I : Nat → Nat → Int32} {sp : Nat → Nat} {pl : Bool} {Q : Option Value → Nat → aM → Prop} {R : Room}
theorem bdiff_self (A : Nat) : bdiff A A = 0 := by
  apply Nat.eq_of_testBit_eq
  intro i
  rw [bdiff_tb, Nat.zero_testBit]
  cases A.testBit i <;> rfl
set_option maxHeartbeats 4000000 in
theorem l_schools (I0 : Nat → Nat → Int32) (ns : Nat) (d : pD) (cs : Nat → pC) (hns : I0 101 2 = nI ns) (hs4 : ns ≤ 4) (hd : mdD I0 d) (hc : ∀ s, s < ns → mdC I0 s (cs s)) (hQ : ∀ J, FrM I0 J → PlM J d cs (fun s => setOf (I0 110) (nI s) d.1) ns → Q none (nn pl) (MM J sp pl)) : ∀ (e s : Nat), s + e = ns → ∀ (I : Nat → Nat → Int32) (l2 l3 : Option Value), FrM I0 I → PlM I d cs (fun s => setOf (I0 110) (nI s) d.1) s → aE z mX12_plan (rK 4) Q 44 [some (.ref 101), some (.int (nI s)), l2, l3] [] (nn pl) (MM I sp pl) 0 0 := by
  intro e
  induction e with
  | zero =>
    intro s hs I l2 l3 hfr hP
    have hs : s = ns := by omega
    subst hs
    refine aE_iload_n dX12_plan_44 rfl rfl ?_
    refine aE_aload_n dX12_plan_45 rfl rfl ?_
    refine aE_geti dX12_plan_46 fw_X12_163 (lt_nn (by decide)) rfl (by decide) rfl ?_
    refine aE_icmp_ge (tgt := 246) dX12_plan_49 (by decide) (fun h49 => ?_) (fun h49 => absurd (by rw [hfr 101 2 (by omega) (by omega), hns]; exact Int32.le_refl _) h49)
    refine aE_vret dX12_plan_246 rfl ⟨by decide, by decide⟩ ?_
    exact hQ I hfr hP
  | succ e ih =>
    intro s hs I l2 l3 hfr hP
    refine aE_iload_n dX12_plan_44 rfl rfl ?_
    refine aE_aload_n dX12_plan_45 rfl rfl ?_
    refine aE_geti dX12_plan_46 fw_X12_163 (lt_nn (by decide)) rfl (by decide) rfl ?_
    refine aE_icmp_ge (tgt := 246) dX12_plan_49 (by decide) (fun h49 => absurd h49 (by rw [hfr 101 2 (by omega) (by omega), hns]; exact nI_ge (by omega) (by omega))) (fun h49 => ?_)
    refine aE_aload_n dX12_plan_52 rfl rfl ?_
    refine aE_iload_n dX12_plan_53 rfl rfl ?_
    refine aE_cVi dX12_plan_54 lk_X12_209 mv_X12_stopsOf (m_stopsOf (nI s) d.1 ((hfr 101 3 (by omega) (by omega)).trans hd.1.1) hd.1.2.1) rfl (lt_nn (by decide)) rfl rfl ⟨by decide, by decide⟩ (Nat.le_of_ble_eq_true rfl) ⟨rfl, rfl⟩ ⟨by decide, by decide⟩ ?_
    rw [show I 110 = I0 110 from funext fun i => hfr 110 i (by omega) (by omega)]
    obtain ⟨A, hA⟩ : ∃ A, setOf (I0 110) (nI s) d.1 = A := ⟨_, rfl⟩
    rw [hA]
    have hA10 : A < 1024 := by rw [← hA]; exact Nat.lt_of_lt_of_le (setOf_lt _ _ _) (pow10' hd.1.2.1)
    refine aE_istore_n dX12_plan_57 rfl (by decide) rfl (aE_loc (ls' := [_, _, _, _]) rfl ?_)
    refine aE_iconst (v := 1) dX12_plan_58 rfl ?_
    refine aE_istore_n dX12_plan_59 rfl (by decide) rfl (aE_loc (ls' := [_, _, _, _]) rfl ?_)
    refine l_sets I s A d (cs s) (mdD_fr hd (fun q i h1 h2 => hfr q i (by omega) (by omega))) ⟨(hc s (by omega)).1, (hfr 107 s (by omega) (by omega)).trans (hc s (by omega)).2.1, by rw [hfr 106 s (by omega) (by omega), hfr 101 8 (by omega) (by omega)]; exact (hc s (by omega)).2.2⟩ (by omega) hA10 hP.1 (fun J hJ hJt l3 => ?_) A 1 (by omega) (by omega) I ⟨fun _ _ _ => rfl, fun _ _ => rfl, fun _ _ _ _ _ => rfl⟩ (fun S h1 h2 => absurd h2 (by omega))
    have hJ0 : J 124 0 = 0 ∧ J 125 0 = 0 := ⟨(hJ.2.2 124 0 (by omega) (by omega) (Or.inr rfl)).trans hP.1.1, (hJ.2.2 125 0 (by omega) (by omega) (Or.inr rfl)).trans hP.1.2⟩
    have hJA : J 124 A = (pS d (cs s) A).1 := by
      by_cases e : A = 0
      · rw [e, hJ0.1, show pS d (cs s) 0 = (0, 0, 0) from pB_0]
      · exact (hJt A e (bdiff_self A)).2.2.1
    have hJr : J 101 42 = nI (RR d cs (fun s => setOf (I0 110) (nI s) d.1) s).length := (hJ.1 101 42 (by omega)).trans hP.2.2.1.1
    have eAll : allH d cs (fun s => setOf (I0 110) (nI s) d.1) (s + 1) = (allH d cs (fun s => setOf (I0 110) (nI s) d.1) s && decide ((pS d (cs s) A).1 < 1000000)) := by rw [← hA]; rfl
    refine aE_aload_n dX12_plan_94 rfl rfl ?_
    refine aE_getf (v := .ref 130) dX12_plan_95 fw_X12_102 (lt_nn (by decide)) rfl rfl ?_
    refine aE_iload_n dX12_plan_98 rfl rfl ?_
    refine aE_aload_n dX12_plan_99 rfl rfl ?_
    refine aE_geti dX12_plan_100 fw_X12_230 (lt_nn (by decide)) rfl (by decide) rfl ?_
    refine aE_istM dX12_plan_103 (lt_nn (by decide)) rfl (by decide) rfl (by omega) ?_
    refine aE_aload_n dX12_plan_104 rfl rfl ?_
    refine aE_getf (v := .ref 131) dX12_plan_105 fw_X12_105 (lt_nn (by decide)) rfl rfl ?_
    refine aE_iload_n dX12_plan_108 rfl rfl ?_
    refine aE_aload_n dX12_plan_109 rfl rfl ?_
    refine aE_getf (v := .ref 124) dX12_plan_110 fw_X12_84 (lt_nn (by decide)) rfl rfl ?_
    refine aE_iload_n dX12_plan_113 rfl rfl ?_
    refine aE_ildM dX12_plan_114 (lt_nn (by decide)) rfl (by decide) rfl (by omega) ?_
    refine aE_top (x' := (pS d (cs s) A).1) ((iu_ne (by omega)).trans hJA) ?_
    refine aE_ldc dX12_plan_115 ct_X12_192 ?_
    refine aE_icmp_lt (tgt := 124) dX12_plan_117 (by decide) (fun h117 => ?_) (fun h117 => ?_)
    · skip
      refine aE_aload_n dX12_plan_124 rfl rfl ?_
      refine aE_getf (v := .ref 124) dX12_plan_125 fw_X12_84 (lt_nn (by decide)) rfl rfl ?_
      refine aE_iload_n dX12_plan_128 rfl rfl ?_
      refine aE_ildM dX12_plan_129 (lt_nn (by decide)) rfl (by decide) rfl (by omega) ?_
      refine aE_top (x' := (pS d (cs s) A).1) ((iu_ne (by omega)).trans hJA) ?_
      refine aE_top (x' := mrV d (cs s) A) (by unfold mrV; first | rw [if_neg h117] | rw [if_pos h117]) ?_
      refine aE_istM dX12_plan_130 (lt_nn (by decide)) rfl (by decide) rfl (by omega) ?_
      refine aE_aload_n dX12_plan_131 rfl rfl ?_
      refine aE_aload_n dX12_plan_132 rfl rfl ?_
      refine aE_geti dX12_plan_133 fw_X12_233 (lt_nn (by decide)) rfl (by decide) rfl ?_
      refine aE_top (x' := if allH d cs (fun s => setOf (I0 110) (nI s) d.1) s then 1 else 0) ((iu_ne (by omega)).trans ((iu_ne (by omega)).trans ((hJ.1 101 43 (by omega)).trans hP.2.2.2.2))) ?_
      refine aE_if_eq (tgt := 152) dX12_plan_136 (by decide) (fun h136 => ?_) (fun h136 => ?_)
      · skip
        refine aE_iconst (v := 0) dX12_plan_152 rfl ?_
        refine aE_top (x' := if allH d cs (fun s => setOf (I0 110) (nI s) d.1) (s + 1) then 1 else 0) (by
          rw [eAll]
          first
            | (rw [show allH d cs (fun s => setOf (I0 110) (nI s) d.1) s = false from Bool.eq_false_iff.mpr (fun q => by rw [if_pos q] at h136; exact absurd h136 (by decide))]; rfl)
            | (rw [decide_eq_false ((mrV_neg hA10).mp h145)]; simp)
            | (rw [decide_eq_true (Classical.not_not.mp (fun q => h145 ((mrV_neg hA10).mpr q))), show allH d cs (fun s => setOf (I0 110) (nI s) d.1) s = true from Classical.byContradiction fun q => by rw [if_neg q] at h136; exact h136 rfl]; rfl)) ?_
        refine aE_puti dX12_plan_153 fp_X12_233 (Or.inl rfl) (lt_nn (by decide)) rfl (fun _ => a_narZ (by split; exact Or.inr rfl; exact Or.inl rfl)) (by decide) rfl ?_
        refine aE_iload_n dX12_plan_156 rfl rfl ?_
        refine aE_istore_n dX12_plan_157 rfl (by decide) rfl (aE_loc (ls' := [_, _, _, _]) rfl ?_)
        obtain ⟨Jb, hJb⟩ : ∃ Jb, iu (iu (iu J 130 s (J 101 42)) 131 s (mrV d (cs s) A)) 101 43 (if allH d cs (fun s => setOf (I0 110) (nI s) d.1) (s + 1) then 1 else 0) = Jb := ⟨_, rfl⟩
        have hx : iu J 130 s (J 101 42) = iu J 130 s (J 101 42) := rfl
        have hb1 : ∀ q i, ¬ (q = 130 ∧ i = s) → ¬ (q = 131 ∧ i = s) → ¬ (q = 101 ∧ i = 43) → Jb q i = J q i := fun q i h1 h2 h3 => by
          rw [← hJb, iu_ne (by omega), iu_ne (by omega), iu_ne (by omega)]
        have hb2 : Jb 131 s = mrV d (cs s) A := by rw [← hJb, iu_ne (by omega), iu_eq]
        have hb3 : Jb 130 s = nI (RR d cs (fun s => setOf (I0 110) (nI s) d.1) s).length := by rw [← hJb, iu_ne (by omega), iu_ne (by omega), iu_eq, hJr]
        have hb4 : Jb 101 43 = if allH d cs (fun s => setOf (I0 110) (nI s) d.1) (s + 1) then 1 else 0 := by rw [← hJb, iu_eq]
        refine aE_I (I' := Jb) hJb ?_
        have hbt : ∀ S, S ≠ 0 → bdiff S A = 0 → TabM Jb d (cs s) S := fun S h1 h2 => TabM_fr hd.1.2.1 (hJt S h1 h2) (fun f hf => hb1 122 _ (by omega) (by omega) (by omega)) (fun q h3 h4 => hb1 q S (by omega) (by omega) (by omega))
        have hbr : RtM Jb d cs (RR d cs (fun s => setOf (I0 110) (nI s) d.1) s) := ⟨(hb1 101 42 (by omega) (by omega) (by omega)).trans hJr, fun r s' S h => by
          rw [hb1 127 r (by omega) (by omega) (by omega), hb1 128 r (by omega) (by omega) (by omega), hb1 129 r (by omega) (by omega) (by omega), hJ.1 127 r (by omega), hJ.1 128 r (by omega), hJ.1 129 r (by omega)]
          exact hP.2.2.1.2 r s' S h⟩
        have hlen : (RR d cs (fun s => setOf (I0 110) (nI s) d.1) (s + 1)).length ≤ 10 := by
          have a1 := RR_len (d := d) (cs := cs) (al := (fun s => setOf (I0 110) (nI s) d.1)) (fun s => Nat.lt_of_lt_of_le (setOf_lt _ _ _) (pow10' hd.1.2.1)) (s + 1)
          have a2 := sumC_card (I0 110) d.1 (s + 1) (by omega) 10
          have a3 := hd.1.2.1
          omega
        have next : ∀ K, RtM K d cs (RR d cs (fun s => setOf (I0 110) (nI s) d.1) (s + 1)) → (∀ q i, ¬ (127 ≤ q ∧ q ≤ 129) → ¬ (q = 101 ∧ i = 42) → K q i = Jb q i) → ∀ l3, aE z mX12_plan (rK 4) Q 240 [some (.ref 101), some (.int (nI s)), some (.int (nI A)), l3] [] (nn pl) (MM K sp pl) 0 0 := by
          intro K hK1 hK2 l3
          refine aE_iinc dX12_plan_240 rfl (a_inc _) (by decide) rfl (aE_loc (ls' := [_, _, _, _]) rfl ?_)
          refine aE_goto (tgt := 44) dX12_plan_243 (by decide) ?_
          refine ih (s + 1) (by omega) K _ _ (fun q i h1 h2 => ?_) ⟨?_, fun s' hs' S h1 h2 => ?_, hK1, fun s' hs' => ?_, ?_⟩
          · rw [hK2 q i (by omega) (by omega), hb1 q i (by omega) (by omega) (by omega), hJ.1 q i (by omega)]; exact hfr q i h1 h2
          · rw [hK2 124 0 (by omega) (by omega), hK2 125 0 (by omega) (by omega), hb1 124 0 (by omega) (by omega) (by omega), hb1 125 0 (by omega) (by omega) (by omega)]; exact hJ0
          · have hKT : ∀ c, TabM J d c S → TabM K d c S := fun c h => TabM_fr hd.1.2.1 h (fun f hf => by rw [hK2 122 _ (by omega) (by omega), hb1 122 _ (by omega) (by omega) (by omega)]) (fun q h3 h4 => by rw [hK2 q S (by omega) (by omega), hb1 q S (by omega) (by omega) (by omega)])
            by_cases e : s' = s
            · subst e; exact hKT _ (hJt S h1 (hA ▸ h2))
            · have hno : ¬ bdiff S A = 0 := hA ▸ al_dis (s := s) (s' := s') (by omega) (by omega) (Ne.symm e) h1 h2
              exact hKT _ (TabM_fr hd.1.2.1 (hP.2.1 s' (by omega) S h1 h2) (fun f hf => hJ.2.1 _ (Or.inl (by rw [show (10 * S + f) / 10 = S by omega]; exact hno))) (fun q h3 h4 => hJ.2.2 q S h3 h4 (Or.inl hno)))
          · rw [hK2 130 s' (by omega) (by omega), hK2 131 s' (by omega) (by omega)]
            by_cases e : s' = s
            · subst e; exact ⟨hb3, by rw [hb2, ← hA]⟩
            · rw [hb1 130 s' (by omega) (by omega) (by omega), hb1 131 s' (by omega) (by omega) (by omega), hJ.1 130 s' (by omega), hJ.1 131 s' (by omega)]
              exact hP.2.2.2.1 s' (by omega)
          · rw [hK2 101 43 (by omega) (by omega)]; exact hb4
        by_cases hpl : (pS d (cs s) A).1 < 1000000
        · obtain ⟨m, hm⟩ := pB_lt hA10 hpl
          have hcb := cdB_bound A 10
          have hm10 : m ≤ 10 := by have := hm.1; omega
          have eRL : RLs d (cs s) A = rtL (rS d (cs s)) (lS d (cs s)) m A := by
            unfold RLs; rw [if_pos hpl]; exact rtL_fuel 10 A m hA10 hm10 hm
          have eRR : RR d cs (fun s => setOf (I0 110) (nI s) d.1) (s + 1) = RR d cs (fun s => setOf (I0 110) (nI s) d.1) s ++ (rtL (rS d (cs s)) (lS d (cs s)) m A).map (fun S => (s, S)) := by
            rw [← eRL]; simp only [RR]; rw [hA]
          have hlm : (RR d cs (fun s => setOf (I0 110) (nI s) d.1) s).length + m ≤ 10 := by
            rw [eRR, List.length_append, List.length_map, rtL_len m A m hA10 (Nat.le_refl _) hm] at hlen; exact hlen
          exact l_routes Jb s A d cs (by omega) hA10 hbt (by rw [hb2]; exact fun q => (mrV_neg hA10).mp q hpl) m A Jb _ hA10 (bdiff_self A) hm hlm hbr (fun _ _ _ _ => rfl) (fun K hK1 hK2 l3 => next K (eRR ▸ hK1) hK2 l3)
        · have hA0 : A ≠ 0 := fun q => hpl (by rw [q, show pS d (cs s) 0 = (0, 0, 0) from pB_0]; decide)
          have eRR : RR d cs (fun s => setOf (I0 110) (nI s) d.1) (s + 1) = RR d cs (fun s => setOf (I0 110) (nI s) d.1) s := by
            simp only [RR]; rw [hA]; unfold RLs; rw [if_neg hpl]; simp
          refine aE_iload_n dX12_plan_158 rfl rfl ?_
          refine aE_if_eq (tgt := 240) dX12_plan_159 (by decide) (fun h159 => absurd h159 (fun q => hA0 ((nI_eq (b := 0) (by omega) (by omega)).mp q))) (fun h159 => ?_)
          refine aE_aload_n dX12_plan_162 rfl rfl ?_
          refine aE_getf (v := .ref 131) dX12_plan_163 fw_X12_105 (lt_nn (by decide)) rfl rfl ?_
          refine aE_iload_n dX12_plan_166 rfl rfl ?_
          refine aE_ildM dX12_plan_167 (lt_nn (by decide)) rfl (by decide) rfl (by omega) ?_
          refine aE_top hb2 ?_
          refine aE_if_lt (tgt := 240) dX12_plan_168 (by decide) (fun h168 => ?_) (fun h168 => absurd ((mrV_neg hA10).mpr hpl) h168)
          exact next Jb (eRR ▸ hbr) (fun _ _ _ _ => rfl) _
      · skip
        refine aE_aload_n dX12_plan_139 rfl rfl ?_
        refine aE_getf (v := .ref 131) dX12_plan_140 fw_X12_105 (lt_nn (by decide)) rfl rfl ?_
        refine aE_iload_n dX12_plan_143 rfl rfl ?_
        refine aE_ildM dX12_plan_144 (lt_nn (by decide)) rfl (by decide) rfl (by omega) ?_
        refine aE_top (x' := mrV d (cs s) A) iu_eq ?_
        refine aE_if_lt (tgt := 152) dX12_plan_145 (by decide) (fun h145 => ?_) (fun h145 => ?_)
        · skip
          refine aE_iconst (v := 0) dX12_plan_152 rfl ?_
          refine aE_top (x' := if allH d cs (fun s => setOf (I0 110) (nI s) d.1) (s + 1) then 1 else 0) (by
            rw [eAll]
            first
              | (rw [show allH d cs (fun s => setOf (I0 110) (nI s) d.1) s = false from Bool.eq_false_iff.mpr (fun q => by rw [if_pos q] at h136; exact absurd h136 (by decide))]; rfl)
              | (rw [decide_eq_false ((mrV_neg hA10).mp h145)]; simp)
              | (rw [decide_eq_true (Classical.not_not.mp (fun q => h145 ((mrV_neg hA10).mpr q))), show allH d cs (fun s => setOf (I0 110) (nI s) d.1) s = true from Classical.byContradiction fun q => by rw [if_neg q] at h136; exact h136 rfl]; rfl)) ?_
          refine aE_puti dX12_plan_153 fp_X12_233 (Or.inl rfl) (lt_nn (by decide)) rfl (fun _ => a_narZ (by split; exact Or.inr rfl; exact Or.inl rfl)) (by decide) rfl ?_
          refine aE_iload_n dX12_plan_156 rfl rfl ?_
          refine aE_istore_n dX12_plan_157 rfl (by decide) rfl (aE_loc (ls' := [_, _, _, _]) rfl ?_)
          obtain ⟨Jb, hJb⟩ : ∃ Jb, iu (iu (iu J 130 s (J 101 42)) 131 s (mrV d (cs s) A)) 101 43 (if allH d cs (fun s => setOf (I0 110) (nI s) d.1) (s + 1) then 1 else 0) = Jb := ⟨_, rfl⟩
          have hx : iu J 130 s (J 101 42) = iu J 130 s (J 101 42) := rfl
          have hb1 : ∀ q i, ¬ (q = 130 ∧ i = s) → ¬ (q = 131 ∧ i = s) → ¬ (q = 101 ∧ i = 43) → Jb q i = J q i := fun q i h1 h2 h3 => by
            rw [← hJb, iu_ne (by omega), iu_ne (by omega), iu_ne (by omega)]
          have hb2 : Jb 131 s = mrV d (cs s) A := by rw [← hJb, iu_ne (by omega), iu_eq]
          have hb3 : Jb 130 s = nI (RR d cs (fun s => setOf (I0 110) (nI s) d.1) s).length := by rw [← hJb, iu_ne (by omega), iu_ne (by omega), iu_eq, hJr]
          have hb4 : Jb 101 43 = if allH d cs (fun s => setOf (I0 110) (nI s) d.1) (s + 1) then 1 else 0 := by rw [← hJb, iu_eq]
          refine aE_I (I' := Jb) hJb ?_
          have hbt : ∀ S, S ≠ 0 → bdiff S A = 0 → TabM Jb d (cs s) S := fun S h1 h2 => TabM_fr hd.1.2.1 (hJt S h1 h2) (fun f hf => hb1 122 _ (by omega) (by omega) (by omega)) (fun q h3 h4 => hb1 q S (by omega) (by omega) (by omega))
          have hbr : RtM Jb d cs (RR d cs (fun s => setOf (I0 110) (nI s) d.1) s) := ⟨(hb1 101 42 (by omega) (by omega) (by omega)).trans hJr, fun r s' S h => by
            rw [hb1 127 r (by omega) (by omega) (by omega), hb1 128 r (by omega) (by omega) (by omega), hb1 129 r (by omega) (by omega) (by omega), hJ.1 127 r (by omega), hJ.1 128 r (by omega), hJ.1 129 r (by omega)]
            exact hP.2.2.1.2 r s' S h⟩
          have hlen : (RR d cs (fun s => setOf (I0 110) (nI s) d.1) (s + 1)).length ≤ 10 := by
            have a1 := RR_len (d := d) (cs := cs) (al := (fun s => setOf (I0 110) (nI s) d.1)) (fun s => Nat.lt_of_lt_of_le (setOf_lt _ _ _) (pow10' hd.1.2.1)) (s + 1)
            have a2 := sumC_card (I0 110) d.1 (s + 1) (by omega) 10
            have a3 := hd.1.2.1
            omega
          have next : ∀ K, RtM K d cs (RR d cs (fun s => setOf (I0 110) (nI s) d.1) (s + 1)) → (∀ q i, ¬ (127 ≤ q ∧ q ≤ 129) → ¬ (q = 101 ∧ i = 42) → K q i = Jb q i) → ∀ l3, aE z mX12_plan (rK 4) Q 240 [some (.ref 101), some (.int (nI s)), some (.int (nI A)), l3] [] (nn pl) (MM K sp pl) 0 0 := by
            intro K hK1 hK2 l3
            refine aE_iinc dX12_plan_240 rfl (a_inc _) (by decide) rfl (aE_loc (ls' := [_, _, _, _]) rfl ?_)
            refine aE_goto (tgt := 44) dX12_plan_243 (by decide) ?_
            refine ih (s + 1) (by omega) K _ _ (fun q i h1 h2 => ?_) ⟨?_, fun s' hs' S h1 h2 => ?_, hK1, fun s' hs' => ?_, ?_⟩
            · rw [hK2 q i (by omega) (by omega), hb1 q i (by omega) (by omega) (by omega), hJ.1 q i (by omega)]; exact hfr q i h1 h2
            · rw [hK2 124 0 (by omega) (by omega), hK2 125 0 (by omega) (by omega), hb1 124 0 (by omega) (by omega) (by omega), hb1 125 0 (by omega) (by omega) (by omega)]; exact hJ0
            · have hKT : ∀ c, TabM J d c S → TabM K d c S := fun c h => TabM_fr hd.1.2.1 h (fun f hf => by rw [hK2 122 _ (by omega) (by omega), hb1 122 _ (by omega) (by omega) (by omega)]) (fun q h3 h4 => by rw [hK2 q S (by omega) (by omega), hb1 q S (by omega) (by omega) (by omega)])
              by_cases e : s' = s
              · subst e; exact hKT _ (hJt S h1 (hA ▸ h2))
              · have hno : ¬ bdiff S A = 0 := hA ▸ al_dis (s := s) (s' := s') (by omega) (by omega) (Ne.symm e) h1 h2
                exact hKT _ (TabM_fr hd.1.2.1 (hP.2.1 s' (by omega) S h1 h2) (fun f hf => hJ.2.1 _ (Or.inl (by rw [show (10 * S + f) / 10 = S by omega]; exact hno))) (fun q h3 h4 => hJ.2.2 q S h3 h4 (Or.inl hno)))
            · rw [hK2 130 s' (by omega) (by omega), hK2 131 s' (by omega) (by omega)]
              by_cases e : s' = s
              · subst e; exact ⟨hb3, by rw [hb2, ← hA]⟩
              · rw [hb1 130 s' (by omega) (by omega) (by omega), hb1 131 s' (by omega) (by omega) (by omega), hJ.1 130 s' (by omega), hJ.1 131 s' (by omega)]
                exact hP.2.2.2.1 s' (by omega)
            · rw [hK2 101 43 (by omega) (by omega)]; exact hb4
          by_cases hpl : (pS d (cs s) A).1 < 1000000
          · obtain ⟨m, hm⟩ := pB_lt hA10 hpl
            have hcb := cdB_bound A 10
            have hm10 : m ≤ 10 := by have := hm.1; omega
            have eRL : RLs d (cs s) A = rtL (rS d (cs s)) (lS d (cs s)) m A := by
              unfold RLs; rw [if_pos hpl]; exact rtL_fuel 10 A m hA10 hm10 hm
            have eRR : RR d cs (fun s => setOf (I0 110) (nI s) d.1) (s + 1) = RR d cs (fun s => setOf (I0 110) (nI s) d.1) s ++ (rtL (rS d (cs s)) (lS d (cs s)) m A).map (fun S => (s, S)) := by
              rw [← eRL]; simp only [RR]; rw [hA]
            have hlm : (RR d cs (fun s => setOf (I0 110) (nI s) d.1) s).length + m ≤ 10 := by
              rw [eRR, List.length_append, List.length_map, rtL_len m A m hA10 (Nat.le_refl _) hm] at hlen; exact hlen
            exact l_routes Jb s A d cs (by omega) hA10 hbt (by rw [hb2]; exact fun q => (mrV_neg hA10).mp q hpl) m A Jb _ hA10 (bdiff_self A) hm hlm hbr (fun _ _ _ _ => rfl) (fun K hK1 hK2 l3 => next K (eRR ▸ hK1) hK2 l3)
          · have hA0 : A ≠ 0 := fun q => hpl (by rw [q, show pS d (cs s) 0 = (0, 0, 0) from pB_0]; decide)
            have eRR : RR d cs (fun s => setOf (I0 110) (nI s) d.1) (s + 1) = RR d cs (fun s => setOf (I0 110) (nI s) d.1) s := by
              simp only [RR]; rw [hA]; unfold RLs; rw [if_neg hpl]; simp
            refine aE_iload_n dX12_plan_158 rfl rfl ?_
            refine aE_if_eq (tgt := 240) dX12_plan_159 (by decide) (fun h159 => absurd h159 (fun q => hA0 ((nI_eq (b := 0) (by omega) (by omega)).mp q))) (fun h159 => ?_)
            refine aE_aload_n dX12_plan_162 rfl rfl ?_
            refine aE_getf (v := .ref 131) dX12_plan_163 fw_X12_105 (lt_nn (by decide)) rfl rfl ?_
            refine aE_iload_n dX12_plan_166 rfl rfl ?_
            refine aE_ildM dX12_plan_167 (lt_nn (by decide)) rfl (by decide) rfl (by omega) ?_
            refine aE_top hb2 ?_
            refine aE_if_lt (tgt := 240) dX12_plan_168 (by decide) (fun h168 => ?_) (fun h168 => absurd ((mrV_neg hA10).mpr hpl) h168)
            exact next Jb (eRR ▸ hbr) (fun _ _ _ _ => rfl) _
        · skip
          refine aE_iconst (v := 1) dX12_plan_148 rfl ?_
          refine aE_goto (tgt := 153) dX12_plan_149 (by decide) ?_
          refine aE_top (x' := if allH d cs (fun s => setOf (I0 110) (nI s) d.1) (s + 1) then 1 else 0) (by
            rw [eAll]
            first
              | (rw [show allH d cs (fun s => setOf (I0 110) (nI s) d.1) s = false from Bool.eq_false_iff.mpr (fun q => by rw [if_pos q] at h136; exact absurd h136 (by decide))]; rfl)
              | (rw [decide_eq_false ((mrV_neg hA10).mp h145)]; simp)
              | (rw [decide_eq_true (Classical.not_not.mp (fun q => h145 ((mrV_neg hA10).mpr q))), show allH d cs (fun s => setOf (I0 110) (nI s) d.1) s = true from Classical.byContradiction fun q => by rw [if_neg q] at h136; exact h136 rfl]; rfl)) ?_
          refine aE_puti dX12_plan_153 fp_X12_233 (Or.inl rfl) (lt_nn (by decide)) rfl (fun _ => a_narZ (by split; exact Or.inr rfl; exact Or.inl rfl)) (by decide) rfl ?_
          refine aE_iload_n dX12_plan_156 rfl rfl ?_
          refine aE_istore_n dX12_plan_157 rfl (by decide) rfl (aE_loc (ls' := [_, _, _, _]) rfl ?_)
          obtain ⟨Jb, hJb⟩ : ∃ Jb, iu (iu (iu J 130 s (J 101 42)) 131 s (mrV d (cs s) A)) 101 43 (if allH d cs (fun s => setOf (I0 110) (nI s) d.1) (s + 1) then 1 else 0) = Jb := ⟨_, rfl⟩
          have hx : iu J 130 s (J 101 42) = iu J 130 s (J 101 42) := rfl
          have hb1 : ∀ q i, ¬ (q = 130 ∧ i = s) → ¬ (q = 131 ∧ i = s) → ¬ (q = 101 ∧ i = 43) → Jb q i = J q i := fun q i h1 h2 h3 => by
            rw [← hJb, iu_ne (by omega), iu_ne (by omega), iu_ne (by omega)]
          have hb2 : Jb 131 s = mrV d (cs s) A := by rw [← hJb, iu_ne (by omega), iu_eq]
          have hb3 : Jb 130 s = nI (RR d cs (fun s => setOf (I0 110) (nI s) d.1) s).length := by rw [← hJb, iu_ne (by omega), iu_ne (by omega), iu_eq, hJr]
          have hb4 : Jb 101 43 = if allH d cs (fun s => setOf (I0 110) (nI s) d.1) (s + 1) then 1 else 0 := by rw [← hJb, iu_eq]
          refine aE_I (I' := Jb) hJb ?_
          have hbt : ∀ S, S ≠ 0 → bdiff S A = 0 → TabM Jb d (cs s) S := fun S h1 h2 => TabM_fr hd.1.2.1 (hJt S h1 h2) (fun f hf => hb1 122 _ (by omega) (by omega) (by omega)) (fun q h3 h4 => hb1 q S (by omega) (by omega) (by omega))
          have hbr : RtM Jb d cs (RR d cs (fun s => setOf (I0 110) (nI s) d.1) s) := ⟨(hb1 101 42 (by omega) (by omega) (by omega)).trans hJr, fun r s' S h => by
            rw [hb1 127 r (by omega) (by omega) (by omega), hb1 128 r (by omega) (by omega) (by omega), hb1 129 r (by omega) (by omega) (by omega), hJ.1 127 r (by omega), hJ.1 128 r (by omega), hJ.1 129 r (by omega)]
            exact hP.2.2.1.2 r s' S h⟩
          have hlen : (RR d cs (fun s => setOf (I0 110) (nI s) d.1) (s + 1)).length ≤ 10 := by
            have a1 := RR_len (d := d) (cs := cs) (al := (fun s => setOf (I0 110) (nI s) d.1)) (fun s => Nat.lt_of_lt_of_le (setOf_lt _ _ _) (pow10' hd.1.2.1)) (s + 1)
            have a2 := sumC_card (I0 110) d.1 (s + 1) (by omega) 10
            have a3 := hd.1.2.1
            omega
          have next : ∀ K, RtM K d cs (RR d cs (fun s => setOf (I0 110) (nI s) d.1) (s + 1)) → (∀ q i, ¬ (127 ≤ q ∧ q ≤ 129) → ¬ (q = 101 ∧ i = 42) → K q i = Jb q i) → ∀ l3, aE z mX12_plan (rK 4) Q 240 [some (.ref 101), some (.int (nI s)), some (.int (nI A)), l3] [] (nn pl) (MM K sp pl) 0 0 := by
            intro K hK1 hK2 l3
            refine aE_iinc dX12_plan_240 rfl (a_inc _) (by decide) rfl (aE_loc (ls' := [_, _, _, _]) rfl ?_)
            refine aE_goto (tgt := 44) dX12_plan_243 (by decide) ?_
            refine ih (s + 1) (by omega) K _ _ (fun q i h1 h2 => ?_) ⟨?_, fun s' hs' S h1 h2 => ?_, hK1, fun s' hs' => ?_, ?_⟩
            · rw [hK2 q i (by omega) (by omega), hb1 q i (by omega) (by omega) (by omega), hJ.1 q i (by omega)]; exact hfr q i h1 h2
            · rw [hK2 124 0 (by omega) (by omega), hK2 125 0 (by omega) (by omega), hb1 124 0 (by omega) (by omega) (by omega), hb1 125 0 (by omega) (by omega) (by omega)]; exact hJ0
            · have hKT : ∀ c, TabM J d c S → TabM K d c S := fun c h => TabM_fr hd.1.2.1 h (fun f hf => by rw [hK2 122 _ (by omega) (by omega), hb1 122 _ (by omega) (by omega) (by omega)]) (fun q h3 h4 => by rw [hK2 q S (by omega) (by omega), hb1 q S (by omega) (by omega) (by omega)])
              by_cases e : s' = s
              · subst e; exact hKT _ (hJt S h1 (hA ▸ h2))
              · have hno : ¬ bdiff S A = 0 := hA ▸ al_dis (s := s) (s' := s') (by omega) (by omega) (Ne.symm e) h1 h2
                exact hKT _ (TabM_fr hd.1.2.1 (hP.2.1 s' (by omega) S h1 h2) (fun f hf => hJ.2.1 _ (Or.inl (by rw [show (10 * S + f) / 10 = S by omega]; exact hno))) (fun q h3 h4 => hJ.2.2 q S h3 h4 (Or.inl hno)))
            · rw [hK2 130 s' (by omega) (by omega), hK2 131 s' (by omega) (by omega)]
              by_cases e : s' = s
              · subst e; exact ⟨hb3, by rw [hb2, ← hA]⟩
              · rw [hb1 130 s' (by omega) (by omega) (by omega), hb1 131 s' (by omega) (by omega) (by omega), hJ.1 130 s' (by omega), hJ.1 131 s' (by omega)]
                exact hP.2.2.2.1 s' (by omega)
            · rw [hK2 101 43 (by omega) (by omega)]; exact hb4
          by_cases hpl : (pS d (cs s) A).1 < 1000000
          · obtain ⟨m, hm⟩ := pB_lt hA10 hpl
            have hcb := cdB_bound A 10
            have hm10 : m ≤ 10 := by have := hm.1; omega
            have eRL : RLs d (cs s) A = rtL (rS d (cs s)) (lS d (cs s)) m A := by
              unfold RLs; rw [if_pos hpl]; exact rtL_fuel 10 A m hA10 hm10 hm
            have eRR : RR d cs (fun s => setOf (I0 110) (nI s) d.1) (s + 1) = RR d cs (fun s => setOf (I0 110) (nI s) d.1) s ++ (rtL (rS d (cs s)) (lS d (cs s)) m A).map (fun S => (s, S)) := by
              rw [← eRL]; simp only [RR]; rw [hA]
            have hlm : (RR d cs (fun s => setOf (I0 110) (nI s) d.1) s).length + m ≤ 10 := by
              rw [eRR, List.length_append, List.length_map, rtL_len m A m hA10 (Nat.le_refl _) hm] at hlen; exact hlen
            exact l_routes Jb s A d cs (by omega) hA10 hbt (by rw [hb2]; exact fun q => (mrV_neg hA10).mp q hpl) m A Jb _ hA10 (bdiff_self A) hm hlm hbr (fun _ _ _ _ => rfl) (fun K hK1 hK2 l3 => next K (eRR ▸ hK1) hK2 l3)
          · have hA0 : A ≠ 0 := fun q => hpl (by rw [q, show pS d (cs s) 0 = (0, 0, 0) from pB_0]; decide)
            have eRR : RR d cs (fun s => setOf (I0 110) (nI s) d.1) (s + 1) = RR d cs (fun s => setOf (I0 110) (nI s) d.1) s := by
              simp only [RR]; rw [hA]; unfold RLs; rw [if_neg hpl]; simp
            refine aE_iload_n dX12_plan_158 rfl rfl ?_
            refine aE_if_eq (tgt := 240) dX12_plan_159 (by decide) (fun h159 => absurd h159 (fun q => hA0 ((nI_eq (b := 0) (by omega) (by omega)).mp q))) (fun h159 => ?_)
            refine aE_aload_n dX12_plan_162 rfl rfl ?_
            refine aE_getf (v := .ref 131) dX12_plan_163 fw_X12_105 (lt_nn (by decide)) rfl rfl ?_
            refine aE_iload_n dX12_plan_166 rfl rfl ?_
            refine aE_ildM dX12_plan_167 (lt_nn (by decide)) rfl (by decide) rfl (by omega) ?_
            refine aE_top hb2 ?_
            refine aE_if_lt (tgt := 240) dX12_plan_168 (by decide) (fun h168 => ?_) (fun h168 => absurd ((mrV_neg hA10).mpr hpl) h168)
            exact next Jb (eRR ▸ hbr) (fun _ _ _ _ => rfl) _
    · skip
      refine aE_iconst (v := -1) dX12_plan_120 rfl ?_
      refine aE_goto (tgt := 130) dX12_plan_121 (by decide) ?_
      refine aE_top (x' := mrV d (cs s) A) (by unfold mrV; first | rw [if_neg h117] | rw [if_pos h117]) ?_
      refine aE_istM dX12_plan_130 (lt_nn (by decide)) rfl (by decide) rfl (by omega) ?_
      refine aE_aload_n dX12_plan_131 rfl rfl ?_
      refine aE_aload_n dX12_plan_132 rfl rfl ?_
      refine aE_geti dX12_plan_133 fw_X12_233 (lt_nn (by decide)) rfl (by decide) rfl ?_
      refine aE_top (x' := if allH d cs (fun s => setOf (I0 110) (nI s) d.1) s then 1 else 0) ((iu_ne (by omega)).trans ((iu_ne (by omega)).trans ((hJ.1 101 43 (by omega)).trans hP.2.2.2.2))) ?_
      refine aE_if_eq (tgt := 152) dX12_plan_136 (by decide) (fun h136 => ?_) (fun h136 => ?_)
      · skip
        refine aE_iconst (v := 0) dX12_plan_152 rfl ?_
        refine aE_top (x' := if allH d cs (fun s => setOf (I0 110) (nI s) d.1) (s + 1) then 1 else 0) (by
          rw [eAll]
          first
            | (rw [show allH d cs (fun s => setOf (I0 110) (nI s) d.1) s = false from Bool.eq_false_iff.mpr (fun q => by rw [if_pos q] at h136; exact absurd h136 (by decide))]; rfl)
            | (rw [decide_eq_false ((mrV_neg hA10).mp h145)]; simp)
            | (rw [decide_eq_true (Classical.not_not.mp (fun q => h145 ((mrV_neg hA10).mpr q))), show allH d cs (fun s => setOf (I0 110) (nI s) d.1) s = true from Classical.byContradiction fun q => by rw [if_neg q] at h136; exact h136 rfl]; rfl)) ?_
        refine aE_puti dX12_plan_153 fp_X12_233 (Or.inl rfl) (lt_nn (by decide)) rfl (fun _ => a_narZ (by split; exact Or.inr rfl; exact Or.inl rfl)) (by decide) rfl ?_
        refine aE_iload_n dX12_plan_156 rfl rfl ?_
        refine aE_istore_n dX12_plan_157 rfl (by decide) rfl (aE_loc (ls' := [_, _, _, _]) rfl ?_)
        obtain ⟨Jb, hJb⟩ : ∃ Jb, iu (iu (iu J 130 s (J 101 42)) 131 s (mrV d (cs s) A)) 101 43 (if allH d cs (fun s => setOf (I0 110) (nI s) d.1) (s + 1) then 1 else 0) = Jb := ⟨_, rfl⟩
        have hx : iu J 130 s (J 101 42) = iu J 130 s (J 101 42) := rfl
        have hb1 : ∀ q i, ¬ (q = 130 ∧ i = s) → ¬ (q = 131 ∧ i = s) → ¬ (q = 101 ∧ i = 43) → Jb q i = J q i := fun q i h1 h2 h3 => by
          rw [← hJb, iu_ne (by omega), iu_ne (by omega), iu_ne (by omega)]
        have hb2 : Jb 131 s = mrV d (cs s) A := by rw [← hJb, iu_ne (by omega), iu_eq]
        have hb3 : Jb 130 s = nI (RR d cs (fun s => setOf (I0 110) (nI s) d.1) s).length := by rw [← hJb, iu_ne (by omega), iu_ne (by omega), iu_eq, hJr]
        have hb4 : Jb 101 43 = if allH d cs (fun s => setOf (I0 110) (nI s) d.1) (s + 1) then 1 else 0 := by rw [← hJb, iu_eq]
        refine aE_I (I' := Jb) hJb ?_
        have hbt : ∀ S, S ≠ 0 → bdiff S A = 0 → TabM Jb d (cs s) S := fun S h1 h2 => TabM_fr hd.1.2.1 (hJt S h1 h2) (fun f hf => hb1 122 _ (by omega) (by omega) (by omega)) (fun q h3 h4 => hb1 q S (by omega) (by omega) (by omega))
        have hbr : RtM Jb d cs (RR d cs (fun s => setOf (I0 110) (nI s) d.1) s) := ⟨(hb1 101 42 (by omega) (by omega) (by omega)).trans hJr, fun r s' S h => by
          rw [hb1 127 r (by omega) (by omega) (by omega), hb1 128 r (by omega) (by omega) (by omega), hb1 129 r (by omega) (by omega) (by omega), hJ.1 127 r (by omega), hJ.1 128 r (by omega), hJ.1 129 r (by omega)]
          exact hP.2.2.1.2 r s' S h⟩
        have hlen : (RR d cs (fun s => setOf (I0 110) (nI s) d.1) (s + 1)).length ≤ 10 := by
          have a1 := RR_len (d := d) (cs := cs) (al := (fun s => setOf (I0 110) (nI s) d.1)) (fun s => Nat.lt_of_lt_of_le (setOf_lt _ _ _) (pow10' hd.1.2.1)) (s + 1)
          have a2 := sumC_card (I0 110) d.1 (s + 1) (by omega) 10
          have a3 := hd.1.2.1
          omega
        have next : ∀ K, RtM K d cs (RR d cs (fun s => setOf (I0 110) (nI s) d.1) (s + 1)) → (∀ q i, ¬ (127 ≤ q ∧ q ≤ 129) → ¬ (q = 101 ∧ i = 42) → K q i = Jb q i) → ∀ l3, aE z mX12_plan (rK 4) Q 240 [some (.ref 101), some (.int (nI s)), some (.int (nI A)), l3] [] (nn pl) (MM K sp pl) 0 0 := by
          intro K hK1 hK2 l3
          refine aE_iinc dX12_plan_240 rfl (a_inc _) (by decide) rfl (aE_loc (ls' := [_, _, _, _]) rfl ?_)
          refine aE_goto (tgt := 44) dX12_plan_243 (by decide) ?_
          refine ih (s + 1) (by omega) K _ _ (fun q i h1 h2 => ?_) ⟨?_, fun s' hs' S h1 h2 => ?_, hK1, fun s' hs' => ?_, ?_⟩
          · rw [hK2 q i (by omega) (by omega), hb1 q i (by omega) (by omega) (by omega), hJ.1 q i (by omega)]; exact hfr q i h1 h2
          · rw [hK2 124 0 (by omega) (by omega), hK2 125 0 (by omega) (by omega), hb1 124 0 (by omega) (by omega) (by omega), hb1 125 0 (by omega) (by omega) (by omega)]; exact hJ0
          · have hKT : ∀ c, TabM J d c S → TabM K d c S := fun c h => TabM_fr hd.1.2.1 h (fun f hf => by rw [hK2 122 _ (by omega) (by omega), hb1 122 _ (by omega) (by omega) (by omega)]) (fun q h3 h4 => by rw [hK2 q S (by omega) (by omega), hb1 q S (by omega) (by omega) (by omega)])
            by_cases e : s' = s
            · subst e; exact hKT _ (hJt S h1 (hA ▸ h2))
            · have hno : ¬ bdiff S A = 0 := hA ▸ al_dis (s := s) (s' := s') (by omega) (by omega) (Ne.symm e) h1 h2
              exact hKT _ (TabM_fr hd.1.2.1 (hP.2.1 s' (by omega) S h1 h2) (fun f hf => hJ.2.1 _ (Or.inl (by rw [show (10 * S + f) / 10 = S by omega]; exact hno))) (fun q h3 h4 => hJ.2.2 q S h3 h4 (Or.inl hno)))
          · rw [hK2 130 s' (by omega) (by omega), hK2 131 s' (by omega) (by omega)]
            by_cases e : s' = s
            · subst e; exact ⟨hb3, by rw [hb2, ← hA]⟩
            · rw [hb1 130 s' (by omega) (by omega) (by omega), hb1 131 s' (by omega) (by omega) (by omega), hJ.1 130 s' (by omega), hJ.1 131 s' (by omega)]
              exact hP.2.2.2.1 s' (by omega)
          · rw [hK2 101 43 (by omega) (by omega)]; exact hb4
        by_cases hpl : (pS d (cs s) A).1 < 1000000
        · obtain ⟨m, hm⟩ := pB_lt hA10 hpl
          have hcb := cdB_bound A 10
          have hm10 : m ≤ 10 := by have := hm.1; omega
          have eRL : RLs d (cs s) A = rtL (rS d (cs s)) (lS d (cs s)) m A := by
            unfold RLs; rw [if_pos hpl]; exact rtL_fuel 10 A m hA10 hm10 hm
          have eRR : RR d cs (fun s => setOf (I0 110) (nI s) d.1) (s + 1) = RR d cs (fun s => setOf (I0 110) (nI s) d.1) s ++ (rtL (rS d (cs s)) (lS d (cs s)) m A).map (fun S => (s, S)) := by
            rw [← eRL]; simp only [RR]; rw [hA]
          have hlm : (RR d cs (fun s => setOf (I0 110) (nI s) d.1) s).length + m ≤ 10 := by
            rw [eRR, List.length_append, List.length_map, rtL_len m A m hA10 (Nat.le_refl _) hm] at hlen; exact hlen
          exact l_routes Jb s A d cs (by omega) hA10 hbt (by rw [hb2]; exact fun q => (mrV_neg hA10).mp q hpl) m A Jb _ hA10 (bdiff_self A) hm hlm hbr (fun _ _ _ _ => rfl) (fun K hK1 hK2 l3 => next K (eRR ▸ hK1) hK2 l3)
        · have hA0 : A ≠ 0 := fun q => hpl (by rw [q, show pS d (cs s) 0 = (0, 0, 0) from pB_0]; decide)
          have eRR : RR d cs (fun s => setOf (I0 110) (nI s) d.1) (s + 1) = RR d cs (fun s => setOf (I0 110) (nI s) d.1) s := by
            simp only [RR]; rw [hA]; unfold RLs; rw [if_neg hpl]; simp
          refine aE_iload_n dX12_plan_158 rfl rfl ?_
          refine aE_if_eq (tgt := 240) dX12_plan_159 (by decide) (fun h159 => absurd h159 (fun q => hA0 ((nI_eq (b := 0) (by omega) (by omega)).mp q))) (fun h159 => ?_)
          refine aE_aload_n dX12_plan_162 rfl rfl ?_
          refine aE_getf (v := .ref 131) dX12_plan_163 fw_X12_105 (lt_nn (by decide)) rfl rfl ?_
          refine aE_iload_n dX12_plan_166 rfl rfl ?_
          refine aE_ildM dX12_plan_167 (lt_nn (by decide)) rfl (by decide) rfl (by omega) ?_
          refine aE_top hb2 ?_
          refine aE_if_lt (tgt := 240) dX12_plan_168 (by decide) (fun h168 => ?_) (fun h168 => absurd ((mrV_neg hA10).mpr hpl) h168)
          exact next Jb (eRR ▸ hbr) (fun _ _ _ _ => rfl) _
      · skip
        refine aE_aload_n dX12_plan_139 rfl rfl ?_
        refine aE_getf (v := .ref 131) dX12_plan_140 fw_X12_105 (lt_nn (by decide)) rfl rfl ?_
        refine aE_iload_n dX12_plan_143 rfl rfl ?_
        refine aE_ildM dX12_plan_144 (lt_nn (by decide)) rfl (by decide) rfl (by omega) ?_
        refine aE_top (x' := mrV d (cs s) A) iu_eq ?_
        refine aE_if_lt (tgt := 152) dX12_plan_145 (by decide) (fun h145 => ?_) (fun h145 => ?_)
        · skip
          refine aE_iconst (v := 0) dX12_plan_152 rfl ?_
          refine aE_top (x' := if allH d cs (fun s => setOf (I0 110) (nI s) d.1) (s + 1) then 1 else 0) (by
            rw [eAll]
            first
              | (rw [show allH d cs (fun s => setOf (I0 110) (nI s) d.1) s = false from Bool.eq_false_iff.mpr (fun q => by rw [if_pos q] at h136; exact absurd h136 (by decide))]; rfl)
              | (rw [decide_eq_false ((mrV_neg hA10).mp h145)]; simp)
              | (rw [decide_eq_true (Classical.not_not.mp (fun q => h145 ((mrV_neg hA10).mpr q))), show allH d cs (fun s => setOf (I0 110) (nI s) d.1) s = true from Classical.byContradiction fun q => by rw [if_neg q] at h136; exact h136 rfl]; rfl)) ?_
          refine aE_puti dX12_plan_153 fp_X12_233 (Or.inl rfl) (lt_nn (by decide)) rfl (fun _ => a_narZ (by split; exact Or.inr rfl; exact Or.inl rfl)) (by decide) rfl ?_
          refine aE_iload_n dX12_plan_156 rfl rfl ?_
          refine aE_istore_n dX12_plan_157 rfl (by decide) rfl (aE_loc (ls' := [_, _, _, _]) rfl ?_)
          obtain ⟨Jb, hJb⟩ : ∃ Jb, iu (iu (iu J 130 s (J 101 42)) 131 s (mrV d (cs s) A)) 101 43 (if allH d cs (fun s => setOf (I0 110) (nI s) d.1) (s + 1) then 1 else 0) = Jb := ⟨_, rfl⟩
          have hx : iu J 130 s (J 101 42) = iu J 130 s (J 101 42) := rfl
          have hb1 : ∀ q i, ¬ (q = 130 ∧ i = s) → ¬ (q = 131 ∧ i = s) → ¬ (q = 101 ∧ i = 43) → Jb q i = J q i := fun q i h1 h2 h3 => by
            rw [← hJb, iu_ne (by omega), iu_ne (by omega), iu_ne (by omega)]
          have hb2 : Jb 131 s = mrV d (cs s) A := by rw [← hJb, iu_ne (by omega), iu_eq]
          have hb3 : Jb 130 s = nI (RR d cs (fun s => setOf (I0 110) (nI s) d.1) s).length := by rw [← hJb, iu_ne (by omega), iu_ne (by omega), iu_eq, hJr]
          have hb4 : Jb 101 43 = if allH d cs (fun s => setOf (I0 110) (nI s) d.1) (s + 1) then 1 else 0 := by rw [← hJb, iu_eq]
          refine aE_I (I' := Jb) hJb ?_
          have hbt : ∀ S, S ≠ 0 → bdiff S A = 0 → TabM Jb d (cs s) S := fun S h1 h2 => TabM_fr hd.1.2.1 (hJt S h1 h2) (fun f hf => hb1 122 _ (by omega) (by omega) (by omega)) (fun q h3 h4 => hb1 q S (by omega) (by omega) (by omega))
          have hbr : RtM Jb d cs (RR d cs (fun s => setOf (I0 110) (nI s) d.1) s) := ⟨(hb1 101 42 (by omega) (by omega) (by omega)).trans hJr, fun r s' S h => by
            rw [hb1 127 r (by omega) (by omega) (by omega), hb1 128 r (by omega) (by omega) (by omega), hb1 129 r (by omega) (by omega) (by omega), hJ.1 127 r (by omega), hJ.1 128 r (by omega), hJ.1 129 r (by omega)]
            exact hP.2.2.1.2 r s' S h⟩
          have hlen : (RR d cs (fun s => setOf (I0 110) (nI s) d.1) (s + 1)).length ≤ 10 := by
            have a1 := RR_len (d := d) (cs := cs) (al := (fun s => setOf (I0 110) (nI s) d.1)) (fun s => Nat.lt_of_lt_of_le (setOf_lt _ _ _) (pow10' hd.1.2.1)) (s + 1)
            have a2 := sumC_card (I0 110) d.1 (s + 1) (by omega) 10
            have a3 := hd.1.2.1
            omega
          have next : ∀ K, RtM K d cs (RR d cs (fun s => setOf (I0 110) (nI s) d.1) (s + 1)) → (∀ q i, ¬ (127 ≤ q ∧ q ≤ 129) → ¬ (q = 101 ∧ i = 42) → K q i = Jb q i) → ∀ l3, aE z mX12_plan (rK 4) Q 240 [some (.ref 101), some (.int (nI s)), some (.int (nI A)), l3] [] (nn pl) (MM K sp pl) 0 0 := by
            intro K hK1 hK2 l3
            refine aE_iinc dX12_plan_240 rfl (a_inc _) (by decide) rfl (aE_loc (ls' := [_, _, _, _]) rfl ?_)
            refine aE_goto (tgt := 44) dX12_plan_243 (by decide) ?_
            refine ih (s + 1) (by omega) K _ _ (fun q i h1 h2 => ?_) ⟨?_, fun s' hs' S h1 h2 => ?_, hK1, fun s' hs' => ?_, ?_⟩
            · rw [hK2 q i (by omega) (by omega), hb1 q i (by omega) (by omega) (by omega), hJ.1 q i (by omega)]; exact hfr q i h1 h2
            · rw [hK2 124 0 (by omega) (by omega), hK2 125 0 (by omega) (by omega), hb1 124 0 (by omega) (by omega) (by omega), hb1 125 0 (by omega) (by omega) (by omega)]; exact hJ0
            · have hKT : ∀ c, TabM J d c S → TabM K d c S := fun c h => TabM_fr hd.1.2.1 h (fun f hf => by rw [hK2 122 _ (by omega) (by omega), hb1 122 _ (by omega) (by omega) (by omega)]) (fun q h3 h4 => by rw [hK2 q S (by omega) (by omega), hb1 q S (by omega) (by omega) (by omega)])
              by_cases e : s' = s
              · subst e; exact hKT _ (hJt S h1 (hA ▸ h2))
              · have hno : ¬ bdiff S A = 0 := hA ▸ al_dis (s := s) (s' := s') (by omega) (by omega) (Ne.symm e) h1 h2
                exact hKT _ (TabM_fr hd.1.2.1 (hP.2.1 s' (by omega) S h1 h2) (fun f hf => hJ.2.1 _ (Or.inl (by rw [show (10 * S + f) / 10 = S by omega]; exact hno))) (fun q h3 h4 => hJ.2.2 q S h3 h4 (Or.inl hno)))
            · rw [hK2 130 s' (by omega) (by omega), hK2 131 s' (by omega) (by omega)]
              by_cases e : s' = s
              · subst e; exact ⟨hb3, by rw [hb2, ← hA]⟩
              · rw [hb1 130 s' (by omega) (by omega) (by omega), hb1 131 s' (by omega) (by omega) (by omega), hJ.1 130 s' (by omega), hJ.1 131 s' (by omega)]
                exact hP.2.2.2.1 s' (by omega)
            · rw [hK2 101 43 (by omega) (by omega)]; exact hb4
          by_cases hpl : (pS d (cs s) A).1 < 1000000
          · obtain ⟨m, hm⟩ := pB_lt hA10 hpl
            have hcb := cdB_bound A 10
            have hm10 : m ≤ 10 := by have := hm.1; omega
            have eRL : RLs d (cs s) A = rtL (rS d (cs s)) (lS d (cs s)) m A := by
              unfold RLs; rw [if_pos hpl]; exact rtL_fuel 10 A m hA10 hm10 hm
            have eRR : RR d cs (fun s => setOf (I0 110) (nI s) d.1) (s + 1) = RR d cs (fun s => setOf (I0 110) (nI s) d.1) s ++ (rtL (rS d (cs s)) (lS d (cs s)) m A).map (fun S => (s, S)) := by
              rw [← eRL]; simp only [RR]; rw [hA]
            have hlm : (RR d cs (fun s => setOf (I0 110) (nI s) d.1) s).length + m ≤ 10 := by
              rw [eRR, List.length_append, List.length_map, rtL_len m A m hA10 (Nat.le_refl _) hm] at hlen; exact hlen
            exact l_routes Jb s A d cs (by omega) hA10 hbt (by rw [hb2]; exact fun q => (mrV_neg hA10).mp q hpl) m A Jb _ hA10 (bdiff_self A) hm hlm hbr (fun _ _ _ _ => rfl) (fun K hK1 hK2 l3 => next K (eRR ▸ hK1) hK2 l3)
          · have hA0 : A ≠ 0 := fun q => hpl (by rw [q, show pS d (cs s) 0 = (0, 0, 0) from pB_0]; decide)
            have eRR : RR d cs (fun s => setOf (I0 110) (nI s) d.1) (s + 1) = RR d cs (fun s => setOf (I0 110) (nI s) d.1) s := by
              simp only [RR]; rw [hA]; unfold RLs; rw [if_neg hpl]; simp
            refine aE_iload_n dX12_plan_158 rfl rfl ?_
            refine aE_if_eq (tgt := 240) dX12_plan_159 (by decide) (fun h159 => absurd h159 (fun q => hA0 ((nI_eq (b := 0) (by omega) (by omega)).mp q))) (fun h159 => ?_)
            refine aE_aload_n dX12_plan_162 rfl rfl ?_
            refine aE_getf (v := .ref 131) dX12_plan_163 fw_X12_105 (lt_nn (by decide)) rfl rfl ?_
            refine aE_iload_n dX12_plan_166 rfl rfl ?_
            refine aE_ildM dX12_plan_167 (lt_nn (by decide)) rfl (by decide) rfl (by omega) ?_
            refine aE_top hb2 ?_
            refine aE_if_lt (tgt := 240) dX12_plan_168 (by decide) (fun h168 => ?_) (fun h168 => absurd ((mrV_neg hA10).mpr hpl) h168)
            exact next Jb (eRR ▸ hbr) (fun _ _ _ _ => rfl) _
        · skip
          refine aE_iconst (v := 1) dX12_plan_148 rfl ?_
          refine aE_goto (tgt := 153) dX12_plan_149 (by decide) ?_
          refine aE_top (x' := if allH d cs (fun s => setOf (I0 110) (nI s) d.1) (s + 1) then 1 else 0) (by
            rw [eAll]
            first
              | (rw [show allH d cs (fun s => setOf (I0 110) (nI s) d.1) s = false from Bool.eq_false_iff.mpr (fun q => by rw [if_pos q] at h136; exact absurd h136 (by decide))]; rfl)
              | (rw [decide_eq_false ((mrV_neg hA10).mp h145)]; simp)
              | (rw [decide_eq_true (Classical.not_not.mp (fun q => h145 ((mrV_neg hA10).mpr q))), show allH d cs (fun s => setOf (I0 110) (nI s) d.1) s = true from Classical.byContradiction fun q => by rw [if_neg q] at h136; exact h136 rfl]; rfl)) ?_
          refine aE_puti dX12_plan_153 fp_X12_233 (Or.inl rfl) (lt_nn (by decide)) rfl (fun _ => a_narZ (by split; exact Or.inr rfl; exact Or.inl rfl)) (by decide) rfl ?_
          refine aE_iload_n dX12_plan_156 rfl rfl ?_
          refine aE_istore_n dX12_plan_157 rfl (by decide) rfl (aE_loc (ls' := [_, _, _, _]) rfl ?_)
          obtain ⟨Jb, hJb⟩ : ∃ Jb, iu (iu (iu J 130 s (J 101 42)) 131 s (mrV d (cs s) A)) 101 43 (if allH d cs (fun s => setOf (I0 110) (nI s) d.1) (s + 1) then 1 else 0) = Jb := ⟨_, rfl⟩
          have hx : iu J 130 s (J 101 42) = iu J 130 s (J 101 42) := rfl
          have hb1 : ∀ q i, ¬ (q = 130 ∧ i = s) → ¬ (q = 131 ∧ i = s) → ¬ (q = 101 ∧ i = 43) → Jb q i = J q i := fun q i h1 h2 h3 => by
            rw [← hJb, iu_ne (by omega), iu_ne (by omega), iu_ne (by omega)]
          have hb2 : Jb 131 s = mrV d (cs s) A := by rw [← hJb, iu_ne (by omega), iu_eq]
          have hb3 : Jb 130 s = nI (RR d cs (fun s => setOf (I0 110) (nI s) d.1) s).length := by rw [← hJb, iu_ne (by omega), iu_ne (by omega), iu_eq, hJr]
          have hb4 : Jb 101 43 = if allH d cs (fun s => setOf (I0 110) (nI s) d.1) (s + 1) then 1 else 0 := by rw [← hJb, iu_eq]
          refine aE_I (I' := Jb) hJb ?_
          have hbt : ∀ S, S ≠ 0 → bdiff S A = 0 → TabM Jb d (cs s) S := fun S h1 h2 => TabM_fr hd.1.2.1 (hJt S h1 h2) (fun f hf => hb1 122 _ (by omega) (by omega) (by omega)) (fun q h3 h4 => hb1 q S (by omega) (by omega) (by omega))
          have hbr : RtM Jb d cs (RR d cs (fun s => setOf (I0 110) (nI s) d.1) s) := ⟨(hb1 101 42 (by omega) (by omega) (by omega)).trans hJr, fun r s' S h => by
            rw [hb1 127 r (by omega) (by omega) (by omega), hb1 128 r (by omega) (by omega) (by omega), hb1 129 r (by omega) (by omega) (by omega), hJ.1 127 r (by omega), hJ.1 128 r (by omega), hJ.1 129 r (by omega)]
            exact hP.2.2.1.2 r s' S h⟩
          have hlen : (RR d cs (fun s => setOf (I0 110) (nI s) d.1) (s + 1)).length ≤ 10 := by
            have a1 := RR_len (d := d) (cs := cs) (al := (fun s => setOf (I0 110) (nI s) d.1)) (fun s => Nat.lt_of_lt_of_le (setOf_lt _ _ _) (pow10' hd.1.2.1)) (s + 1)
            have a2 := sumC_card (I0 110) d.1 (s + 1) (by omega) 10
            have a3 := hd.1.2.1
            omega
          have next : ∀ K, RtM K d cs (RR d cs (fun s => setOf (I0 110) (nI s) d.1) (s + 1)) → (∀ q i, ¬ (127 ≤ q ∧ q ≤ 129) → ¬ (q = 101 ∧ i = 42) → K q i = Jb q i) → ∀ l3, aE z mX12_plan (rK 4) Q 240 [some (.ref 101), some (.int (nI s)), some (.int (nI A)), l3] [] (nn pl) (MM K sp pl) 0 0 := by
            intro K hK1 hK2 l3
            refine aE_iinc dX12_plan_240 rfl (a_inc _) (by decide) rfl (aE_loc (ls' := [_, _, _, _]) rfl ?_)
            refine aE_goto (tgt := 44) dX12_plan_243 (by decide) ?_
            refine ih (s + 1) (by omega) K _ _ (fun q i h1 h2 => ?_) ⟨?_, fun s' hs' S h1 h2 => ?_, hK1, fun s' hs' => ?_, ?_⟩
            · rw [hK2 q i (by omega) (by omega), hb1 q i (by omega) (by omega) (by omega), hJ.1 q i (by omega)]; exact hfr q i h1 h2
            · rw [hK2 124 0 (by omega) (by omega), hK2 125 0 (by omega) (by omega), hb1 124 0 (by omega) (by omega) (by omega), hb1 125 0 (by omega) (by omega) (by omega)]; exact hJ0
            · have hKT : ∀ c, TabM J d c S → TabM K d c S := fun c h => TabM_fr hd.1.2.1 h (fun f hf => by rw [hK2 122 _ (by omega) (by omega), hb1 122 _ (by omega) (by omega) (by omega)]) (fun q h3 h4 => by rw [hK2 q S (by omega) (by omega), hb1 q S (by omega) (by omega) (by omega)])
              by_cases e : s' = s
              · subst e; exact hKT _ (hJt S h1 (hA ▸ h2))
              · have hno : ¬ bdiff S A = 0 := hA ▸ al_dis (s := s) (s' := s') (by omega) (by omega) (Ne.symm e) h1 h2
                exact hKT _ (TabM_fr hd.1.2.1 (hP.2.1 s' (by omega) S h1 h2) (fun f hf => hJ.2.1 _ (Or.inl (by rw [show (10 * S + f) / 10 = S by omega]; exact hno))) (fun q h3 h4 => hJ.2.2 q S h3 h4 (Or.inl hno)))
            · rw [hK2 130 s' (by omega) (by omega), hK2 131 s' (by omega) (by omega)]
              by_cases e : s' = s
              · subst e; exact ⟨hb3, by rw [hb2, ← hA]⟩
              · rw [hb1 130 s' (by omega) (by omega) (by omega), hb1 131 s' (by omega) (by omega) (by omega), hJ.1 130 s' (by omega), hJ.1 131 s' (by omega)]
                exact hP.2.2.2.1 s' (by omega)
            · rw [hK2 101 43 (by omega) (by omega)]; exact hb4
          by_cases hpl : (pS d (cs s) A).1 < 1000000
          · obtain ⟨m, hm⟩ := pB_lt hA10 hpl
            have hcb := cdB_bound A 10
            have hm10 : m ≤ 10 := by have := hm.1; omega
            have eRL : RLs d (cs s) A = rtL (rS d (cs s)) (lS d (cs s)) m A := by
              unfold RLs; rw [if_pos hpl]; exact rtL_fuel 10 A m hA10 hm10 hm
            have eRR : RR d cs (fun s => setOf (I0 110) (nI s) d.1) (s + 1) = RR d cs (fun s => setOf (I0 110) (nI s) d.1) s ++ (rtL (rS d (cs s)) (lS d (cs s)) m A).map (fun S => (s, S)) := by
              rw [← eRL]; simp only [RR]; rw [hA]
            have hlm : (RR d cs (fun s => setOf (I0 110) (nI s) d.1) s).length + m ≤ 10 := by
              rw [eRR, List.length_append, List.length_map, rtL_len m A m hA10 (Nat.le_refl _) hm] at hlen; exact hlen
            exact l_routes Jb s A d cs (by omega) hA10 hbt (by rw [hb2]; exact fun q => (mrV_neg hA10).mp q hpl) m A Jb _ hA10 (bdiff_self A) hm hlm hbr (fun _ _ _ _ => rfl) (fun K hK1 hK2 l3 => next K (eRR ▸ hK1) hK2 l3)
          · have hA0 : A ≠ 0 := fun q => hpl (by rw [q, show pS d (cs s) 0 = (0, 0, 0) from pB_0]; decide)
            have eRR : RR d cs (fun s => setOf (I0 110) (nI s) d.1) (s + 1) = RR d cs (fun s => setOf (I0 110) (nI s) d.1) s := by
              simp only [RR]; rw [hA]; unfold RLs; rw [if_neg hpl]; simp
            refine aE_iload_n dX12_plan_158 rfl rfl ?_
            refine aE_if_eq (tgt := 240) dX12_plan_159 (by decide) (fun h159 => absurd h159 (fun q => hA0 ((nI_eq (b := 0) (by omega) (by omega)).mp q))) (fun h159 => ?_)
            refine aE_aload_n dX12_plan_162 rfl rfl ?_
            refine aE_getf (v := .ref 131) dX12_plan_163 fw_X12_105 (lt_nn (by decide)) rfl rfl ?_
            refine aE_iload_n dX12_plan_166 rfl rfl ?_
            refine aE_ildM dX12_plan_167 (lt_nn (by decide)) rfl (by decide) rfl (by omega) ?_
            refine aE_top hb2 ?_
            refine aE_if_lt (tgt := 240) dX12_plan_168 (by decide) (fun h168 => ?_) (fun h168 => absurd ((mrV_neg hA10).mpr hpl) h168)
            exact next Jb (eRR ▸ hbr) (fun _ _ _ _ => rfl) _
set_option maxHeartbeats 4000000 in
/-- the model's plan(): either what stood, or anew -/
theorem m_plan (ns nstr nc : Nat) (d : pD) (cs : Nat → pC) (fr to : Nat → Nat) (hns : I 101 2 = nI ns) (hs4 : ns ≤ 4) (hstr : I 101 1 = nI nstr) (h14 : nstr ≤ 14) (h8 : nc ≤ 8) (hst : ∀ s, s < nstr → fr s < nc ∧ to s < nc ∧ I 102 s = nI (fr s) ∧ I 103 s = nI (to s)) (hD : d.2.2.1 = dTab fr to (I 104) (I 105) 0 nstr) (hn : I 101 3 = nI d.1) (h10 : d.1 ≤ 10) (hsa : ∀ k, k < d.1 → d.2.1 k < 8 ∧ I 111 k = nI (d.2.1 k)) (hpu : ∀ k, k < d.1 → I 112 k = d.2.2.2.1 k) (hse : I 101 7 = d.2.2.2.2) (hc : ∀ s, s < ns → mdC I s (cs s))
    (hO : ¬ I 101 29 = 0 → Q none (nn pl) (MM (pfk I 64 (dTab fr to (I 104) (I 105) 0 nstr)) sp pl)) (hN : I 101 29 = 0 → ∀ J, FrM (iu (pfk I 64 (dTab fr to (I 104) (I 105) 0 nstr)) 101 29 1) J → PlM J d cs (fun s => setOf (I 110) (nI s) d.1) ns → Q none (nn pl) (MM J sp pl)) : aRuns mX12_plan (rK 4) [.ref 101] (nn pl) (MM I sp pl) Q := by
  refine aRuns_of pn_X12_plan (Nat.le_of_ble_eq_true rfl) (fun z => aE_loc (ls' := [_, _, _, _]) rfl ?_)
  refine aE_aload_n dX12_plan_0 rfl rfl ?_
  refine aE_iconst (v := 0) dX12_plan_1 rfl ?_
  refine aE_cVv dX12_plan_2 lk_X12_193 mv_X12_findFars (m_findFars 0 nstr nc fr to hstr h14 h8 hst) rfl (lt_nn (by decide)) rfl rfl ⟨by decide, by decide⟩ (Nat.le_of_ble_eq_true rfl) ⟨rfl, rfl⟩ ⟨by decide, by decide⟩ ?_
  refine aE_aload_n dX12_plan_5 rfl rfl ?_
  refine aE_geti dX12_plan_6 fw_X12_169 (lt_nn (by decide)) rfl (by decide) rfl ?_
  refine aE_top (x' := I 101 29) (pfk_o (by decide)) ?_
  refine aE_if_eq (tgt := 13) dX12_plan_9 (by decide) (fun h9 => ?_) (fun h9 => ?_)
  · skip
    refine aE_aload_n dX12_plan_13 rfl rfl ?_
    refine aE_iconst (v := 1) dX12_plan_14 rfl ?_
    refine aE_puti dX12_plan_15 fp_X12_169 (Or.inl rfl) (lt_nn (by decide)) rfl (fun _ => a_narZ (by first | exact Or.inl rfl | exact Or.inr rfl | assumption)) (by decide) rfl ?_
    refine aE_aload_n dX12_plan_18 rfl rfl ?_
    refine aE_iconst (v := 0) dX12_plan_19 rfl ?_
    refine aE_puti dX12_plan_20 fp_X12_230 (Or.inl rfl) (lt_nn (by decide)) rfl (fun _ => ⟨rfl, rfl⟩) (by decide) rfl ?_
    refine aE_aload_n dX12_plan_23 rfl rfl ?_
    refine aE_iconst (v := 1) dX12_plan_24 rfl ?_
    refine aE_puti dX12_plan_25 fp_X12_233 (Or.inl rfl) (lt_nn (by decide)) rfl (fun _ => a_narZ (by first | exact Or.inl rfl | exact Or.inr rfl | assumption)) (by decide) rfl ?_
    refine aE_aload_n dX12_plan_28 rfl rfl ?_
    refine aE_getf (v := .ref 124) dX12_plan_29 fw_X12_84 (lt_nn (by decide)) rfl rfl ?_
    refine aE_iconst (v := 0) dX12_plan_32 rfl ?_
    refine aE_iconst (v := 0) dX12_plan_33 rfl ?_
    refine aE_istM dX12_plan_34 (lt_nn (by decide)) rfl (by decide) rfl (by decide) ?_
    refine aE_aload_n dX12_plan_35 rfl rfl ?_
    refine aE_getf (v := .ref 125) dX12_plan_36 fw_X12_87 (lt_nn (by decide)) rfl rfl ?_
    refine aE_iconst (v := 0) dX12_plan_39 rfl ?_
    refine aE_iconst (v := 0) dX12_plan_40 rfl ?_
    refine aE_istM dX12_plan_41 (lt_nn (by decide)) rfl (by decide) rfl (by decide) ?_
    refine aE_iconst (v := 0) dX12_plan_42 rfl ?_
    refine aE_istore_n dX12_plan_43 rfl (by decide) rfl (aE_loc (ls' := [_, _, _, _]) rfl ?_)
    obtain ⟨Ia, hIa⟩ : ∃ Ia, iu (iu (iu (iu (iu (pfk I 64 (dTab fr to (I 104) (I 105) 0 nstr)) 101 29 1) 101 42 0) 101 43 1) 124 0 0) 125 0 0 = Ia := ⟨_, rfl⟩
    refine aE_I (I' := Ia) hIa ?_
    have hIf : FrM (iu (pfk I 64 (dTab fr to (I 104) (I 105) 0 nstr)) 101 29 1) Ia := fun q i h1 h2 => by
      rw [← hIa, iu_ne (by omega), iu_ne (by omega), iu_ne (by omega), iu_ne (by omega)]
    have hI0 : ∀ q i, q ≠ 121 → ¬ (122 ≤ q ∧ q ≤ 131) → ¬ (q = 101 ∧ (i = 29 ∨ i = 42 ∨ i = 43)) → Ia q i = I q i := fun q i h0 h1 h2 => ((hIf q i h1 (by omega)).trans (iu_ne (by omega))).trans (pfk_o h0)
    have e110 : Ia 110 = I 110 := funext fun i => hI0 110 i (by omega) (by omega) (by omega)
    refine l_schools Ia ns d cs ((hI0 101 2 (by omega) (by omega) (by omega)).trans hns) hs4 ⟨⟨(hI0 101 3 (by omega) (by omega) (by omega)).trans hn, h10, fun k hk => ⟨(hsa k hk).1, (hI0 111 k (by omega) (by omega) (by omega)).trans (hsa k hk).2⟩, fun a b ha hb => ?_⟩, fun k hk => (hI0 112 k (by omega) (by omega) (by omega)).trans (hpu k hk), (hI0 101 7 (by omega) (by omega) (by omega)).trans hse⟩ (fun s hs => ⟨(hc s hs).1, (hI0 107 s (by omega) (by omega) (by omega)).trans (hc s hs).2.1, by rw [hI0 106 s (by omega) (by omega) (by omega), hI0 101 8 (by omega) (by omega) (by omega)]; exact (hc s hs).2.2⟩) (fun J hJ1 hJ2 => ?_) ns 0 (by omega) Ia _ _ (fun _ _ _ _ => rfl) ⟨⟨?_, ?_⟩, fun s hs => absurd hs (by omega), ⟨?_, fun r s S h => by simp [RR] at h⟩, fun s hs => absurd hs (by omega), ?_⟩
    · rw [hIf 121 _ (by omega) (by omega), iu_ne (by omega), hD]; exact pfk_at ha hb
    · rw [e110] at hJ2
      exact hN h9 J (fun q i h1 h2 => (hJ1 q i h1 h2).trans (hIf q i h1 h2)) hJ2
    · rw [← hIa, iu_ne (by omega), iu_eq]
    · rw [← hIa, iu_eq]
    · rw [← hIa, iu_ne (by omega), iu_ne (by omega), iu_ne (by omega), iu_eq]; rfl
    · rw [← hIa, iu_ne (by omega), iu_ne (by omega), iu_eq]; rfl
  · skip
    refine aE_vret dX12_plan_12 rfl ⟨by decide, by decide⟩ ?_
    exact hO h9
end MPL5
