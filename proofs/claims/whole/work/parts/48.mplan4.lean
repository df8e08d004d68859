theorem rtL_fuel {rt : Nat → Bool} {le : Nat → Int32} : ∀ n S m, S < 1024 → m ≤ n → goodP rt le S (pB rt le S) m → rtL rt le n S = rtL rt le m S
  | 0, S, m, _, hm, _ => by rw [show m = 0 by omega]
  | n + 1, S, m, hS, hm, h => by
    by_cases h0 : S = 0
    · subst h0
      cases m <;> simp [rtL]
    · obtain ⟨hc, m', e1, e2, e3⟩ := h.2.2 h0
      subst e1
      have hl := loI_tb S hS h0
      have hlt := bdiff_lt2 hl.1 (cdP_1 hc).2.1
      have hb := cdB_bound S 10
      have hb2 := h.1
      have hlt9 : (pB rt le (bdiff S (pB rt le S).2.2)).1 < 1000000 := by rw [e2]; exact nI_far (by omega)
      obtain ⟨m2, h2⟩ := pB_lt (by omega) hlt9
      have em : m2 = m' := by
        have a := h2.2.1.symm.trans e2
        have := h2.1; have := cdB_bound (bdiff S (pB rt le S).2.2) 10
        exact (nI_eq (by omega) (by omega)).mp a
      subst em
      simp only [rtL]
      rw [if_neg h0, if_neg h0, rtL_fuel n _ m2 (by omega) (by omega) h2]
/-- the routes of a school -/
def RLs (d : pD) (c : pC) (A : Nat) : List Nat := if (pS d c A).1 < 1000000 then rtL (rS d c) (lS d c) 10 A else []
/-- the routes of the first k schools, with their schools -/
def RR (d : pD) (cs : Nat → pC) (al : Nat → Nat) : Nat → List (Nat × Nat)
  | 0 => []
  | k + 1 => RR d cs al k ++ (RLs d (cs k) (al k)).map (fun S => (k, S))
theorem RLs_card {d : pD} {c : pC} {A : Nat} (hA : A < 1024) : (RLs d c A).length ≤ cdB A 10 := by
  unfold RLs
  split
  · rename_i h
    obtain ⟨m, hm⟩ := pB_lt hA h
    have := cdB_bound A 10
    rw [rtL_len 10 A m hA (by have := hm.1; omega) hm]
    exact hm.1
  · exact Nat.zero_le _
def sumC (g : Nat → Nat) : Nat → Nat
  | 0 => 0
  | k + 1 => sumC g k + g k
theorem sumC_bit (f : Nat → Int32) (j nst : Nat) : ∀ k, k ≤ 1000 → sumC (fun s => if (setOf f (nI s) nst).testBit j then 1 else 0) k ≤ 1 ∧ ((∀ s, s < k → f j ≠ nI s) → sumC (fun s => if (setOf f (nI s) nst).testBit j then 1 else 0) k = 0)
  | 0, _ => ⟨by simp [sumC], fun _ => rfl⟩
  | k + 1, hk => by
    obtain ⟨h1, h2⟩ := sumC_bit f j nst k (by omega)
    simp only [sumC, setOf_tb] at *
    by_cases e : f j = nI k
    · have h0 := h2 (fun s hs q => by
        have := (nI_eq (by omega) (by omega)).mp (q.symm.trans e)
        omega)
      refine ⟨?_, fun q => absurd e (q k (by omega))⟩
      rw [h0]
      split <;> omega
    · refine ⟨by simp [e]; simpa using h1, fun q => ?_⟩
      have := h2 (fun s hs => q s (by omega))
      simp [e]
      simpa using this
theorem sumC_add (g h : Nat → Nat) : ∀ k, sumC (fun s => g s + h s) k = sumC g k + sumC h k
  | 0 => rfl
  | k + 1 => by simp only [sumC]; rw [sumC_add g h k]; omega
theorem sumC_zero : ∀ k, sumC (fun _ => 0) k = 0
  | 0 => rfl
  | k + 1 => by simp only [sumC]; rw [sumC_zero k]
theorem sumC_card (f : Nat → Int32) (nst k : Nat) (hk : k ≤ 1000) : ∀ j, sumC (fun s => cdB (setOf f (nI s) nst) j) k ≤ min j nst
  | 0 => by simp only [cdB]; rw [sumC_zero]; omega
  | j + 1 => by
    have ih := sumC_card f nst k hk j
    have e : sumC (fun s => cdB (setOf f (nI s) nst) (j + 1)) k = sumC (fun s => cdB (setOf f (nI s) nst) j) k + sumC (fun s => if (setOf f (nI s) nst).testBit j then 1 else 0) k := by
      simp only [cdB]; exact sumC_add _ _ k
    have h1 := (sumC_bit f j nst k hk).1
    by_cases hj : j < nst
    · omega
    · have h0 : sumC (fun s => if (setOf f (nI s) nst).testBit j then 1 else 0) k = 0 := by
        have : (fun s => if (setOf f (nI s) nst).testBit j = true then 1 else 0) = fun _ => 0 := by
          funext s; rw [setOf_tb, decide_eq_false hj]; rfl
        rw [this]; exact sumC_zero k
      omega
theorem RR_len {d : pD} {cs : Nat → pC} {al : Nat → Nat} (hal : ∀ s, al s < 1024) : ∀ k, (RR d cs al k).length ≤ sumC (fun s => cdB (al s) 10) k
  | 0 => Nat.zero_le _
  | k + 1 => by
    have h1 := RR_len (d := d) (cs := cs) hal k
    have h2 := RLs_card (d := d) (c := cs k) (hal k)
    simp only [RR, sumC, List.length_append, List.length_map]
    omega
/-- the model's rows hold the routes L -/
def RtM (I : Nat → Nat → Int32) (d : pD) (cs : Nat → pC) (L : List (Nat × Nat)) : Prop := I 101 42 = nI L.length ∧ ∀ r s S, L[r]? = some (s, S) → I 127 r = nI S ∧ I 128 r = nI s ∧ I 129 r = lS d (cs s) S
section MPL4
variable {z : Nat × (Nat → Int32)} {n : Nat} {mem : aM} {I : Nat → Nat → Int32} {sp : Nat → Nat} {pl : Bool} {Q : Option Value → Nat → aM → Prop} {R : Room}
theorem l_routes (Ib : Nat → Nat → Int32) (s A : Nat) (d : pD) (cs : Nat → pC) (hs : s < 4) (hA : A < 1024) (htab : ∀ S, S ≠ 0 → bdiff S A = 0 → TabM Ib d (cs s) S) (hmr : ¬ Ib 131 s < 0) : ∀ (m left : Nat) (I : Nat → Nat → Int32) (L : List (Nat × Nat)), left < 1024 → bdiff left A = 0 → goodP (rS d (cs s)) (lS d (cs s)) left (pS d (cs s) left) m → L.length + m ≤ 10 → RtM I d cs L → (∀ q i, ¬ (127 ≤ q ∧ q ≤ 129) → ¬ (q = 101 ∧ i = 42) → I q i = Ib q i) → (∀ J, RtM J d cs (L ++ (rtL (rS d (cs s)) (lS d (cs s)) m left).map (fun S => (s, S))) → (∀ q i, ¬ (127 ≤ q ∧ q ≤ 129) → ¬ (q = 101 ∧ i = 42) → J q i = Ib q i) → ∀ l3, aE z mX12_plan (rK 4) Q 240 [some (.ref 101), some (.int (nI s)), some (.int (nI A)), l3] [] (nn pl) (MM J sp pl) 0 0) → aE z mX12_plan (rK 4) Q 158 [some (.ref 101), some (.int (nI s)), some (.int (nI A)), some (.int (nI left))] [] (nn pl) (MM I sp pl) 0 0 := by
  intro m
  induction m with
  | zero =>
    intro left I L hl1 hsub hg hlen hL hfr k0
    have h0 : left = 0 := Classical.byContradiction fun q => by
      obtain ⟨_, m', e, _⟩ := hg.2.2 q
      omega
    subst h0
    refine aE_iload_n dX12_plan_158 rfl rfl ?_
    refine aE_if_eq (tgt := 240) dX12_plan_159 (by decide) (fun h159 => ?_) (fun h159 => absurd (rfl) h159)
    exact k0 I (by simpa [rtL] using hL) hfr _
  | succ m ih =>
    intro left I L hl1 hsub hg hlen hL hfr k0
    by_cases h0 : left = 0
    · exfalso
      subst h0
      have a := hg.2.1
      rw [show pS d (cs s) 0 = (0, 0, 0) from pB_0] at a
      have b := hg.1
      have := cdB_bound 0 10
      have := (nI_eq (a := 0) (by omega) (by omega)).mp a
      omega
    refine aE_iload_n dX12_plan_158 rfl rfl ?_
    refine aE_if_eq (tgt := 240) dX12_plan_159 (by decide) (fun h159 => absurd h159 (fun q => h0 ((nI_eq (b := 0) (by omega) (by omega)).mp q))) (fun h159 => ?_)
    refine aE_aload_n dX12_plan_162 rfl rfl ?_
    refine aE_getf (v := .ref 131) dX12_plan_163 fw_X12_105 (lt_nn (by decide)) rfl rfl ?_
    refine aE_iload_n dX12_plan_166 rfl rfl ?_
    refine aE_ildM dX12_plan_167 (lt_nn (by decide)) rfl (by decide) rfl hs ?_
    refine aE_if_lt (tgt := 240) dX12_plan_168 (by decide) (fun h168 => absurd h168 (by rw [hfr 131 s (by omega) (by omega)]; exact hmr)) (fun h168 => ?_)
    obtain ⟨hc, m', e1, e2, e3⟩ := hg.2.2 h0
    obtain ⟨S, hS⟩ : ∃ S, (pS d (cs s) left).2.2 = S := ⟨_, rfl⟩
    rw [hS] at hc e2 e3
    have hcd := cdP_1 hc
    have hl := loI_tb left (by omega) h0
    have hSA : bdiff S A = 0 := bsub_tr hcd.1 hsub
    have hS0 : S ≠ 0 := fun q => by rw [q] at hcd; simp at hcd
    have hSl : S ≤ left := Nat.le_of_testBit (fun i hi => by
      have a := bdiff_tb S left i
      rw [hcd.1, Nat.zero_testBit, hi] at a
      simpa using a)
    have hlt := bdiff_lt2 hl.1 hcd.2.1
    have h126 : I 126 left = nI S := by rw [hfr 126 left (by omega) (by omega), ← hS]; exact (htab left h0 hsub).2.2.2.2 (goodP_lt hg)
    have h123 : I 123 S = lS d (cs s) S := (hfr 123 S (by omega) (by omega)).trans (htab S hS0 hSA).2.1
    have hLl : L.length < 10 := by omega
    refine aE_aload_n dX12_plan_171 rfl rfl ?_
    refine aE_getf (v := .ref 127) dX12_plan_172 fw_X12_93 (lt_nn (by decide)) rfl rfl ?_
    refine aE_aload_n dX12_plan_175 rfl rfl ?_
    refine aE_geti dX12_plan_176 fw_X12_230 (lt_nn (by decide)) rfl (by decide) rfl ?_
    refine aE_aload_n dX12_plan_179 rfl rfl ?_
    refine aE_getf (v := .ref 126) dX12_plan_180 fw_X12_90 (lt_nn (by decide)) rfl rfl ?_
    refine aE_iload_n dX12_plan_183 rfl rfl ?_
    refine aE_ildM dX12_plan_184 (lt_nn (by decide)) rfl (by decide) rfl (by omega) ?_
    refine aE_top h126 ?_
    refine aE_istM dX12_plan_185 (lt_nn (by decide)) rfl (by decide) hL.1 hLl ?_
    refine aE_aload_n dX12_plan_186 rfl rfl ?_
    refine aE_getf (v := .ref 128) dX12_plan_187 fw_X12_96 (lt_nn (by decide)) rfl rfl ?_
    refine aE_aload_n dX12_plan_190 rfl rfl ?_
    refine aE_geti dX12_plan_191 fw_X12_230 (lt_nn (by decide)) rfl (by decide) rfl ?_
    refine aE_iload_n dX12_plan_194 rfl rfl ?_
    refine aE_istM dX12_plan_195 (lt_nn (by decide)) rfl (by decide) hL.1 hLl ?_
    refine aE_aload_n dX12_plan_196 rfl rfl ?_
    refine aE_getf (v := .ref 129) dX12_plan_197 fw_X12_99 (lt_nn (by decide)) rfl rfl ?_
    refine aE_aload_n dX12_plan_200 rfl rfl ?_
    refine aE_geti dX12_plan_201 fw_X12_230 (lt_nn (by decide)) rfl (by decide) rfl ?_
    refine aE_aload_n dX12_plan_204 rfl rfl ?_
    refine aE_getf (v := .ref 123) dX12_plan_205 fw_X12_81 (lt_nn (by decide)) rfl rfl ?_
    refine aE_aload_n dX12_plan_208 rfl rfl ?_
    refine aE_getf (v := .ref 126) dX12_plan_209 fw_X12_90 (lt_nn (by decide)) rfl rfl ?_
    refine aE_iload_n dX12_plan_212 rfl rfl ?_
    refine aE_ildM dX12_plan_213 (lt_nn (by decide)) rfl (by decide) rfl (by omega) ?_
    refine aE_top (x' := nI S) ((iu_ne (by omega)).trans ((iu_ne (by omega)).trans h126)) ?_
    refine aE_ildM dX12_plan_214 (lt_nn (by decide)) rfl (by decide) rfl (by omega) ?_
    refine aE_top (x' := lS d (cs s) S) ((iu_ne (by omega)).trans ((iu_ne (by omega)).trans h123)) ?_
    refine aE_istM dX12_plan_215 (lt_nn (by decide)) rfl (by decide) hL.1 hLl ?_
    refine aE_aload_n dX12_plan_216 rfl rfl ?_
    refine aE_dup dX12_plan_217 rfl ?_
    refine aE_geti dX12_plan_218 fw_X12_230 (lt_nn (by decide)) rfl (by decide) rfl ?_
    refine aE_top (x' := nI L.length) hL.1 ?_
    refine aE_iconst (v := 1) dX12_plan_221 rfl ?_
    refine aE_iadd dX12_plan_222 ?_
    refine aE_top (nI_1 L.length) ?_
    refine aE_puti dX12_plan_223 fp_X12_230 (Or.inl rfl) (lt_nn (by decide)) rfl (fun _ => ⟨rfl, rfl⟩) (by decide) rfl ?_
    refine aE_iload_n dX12_plan_226 rfl rfl ?_
    refine aE_aload_n dX12_plan_227 rfl rfl ?_
    refine aE_getf (v := .ref 126) dX12_plan_228 fw_X12_90 (lt_nn (by decide)) rfl rfl ?_
    refine aE_iload_n dX12_plan_231 rfl rfl ?_
    refine aE_ildM dX12_plan_232 (lt_nn (by decide)) rfl (by decide) rfl (by omega) ?_
    refine aE_top (x' := nI S) ((iu_ne (by omega)).trans ((iu_ne (by omega)).trans ((iu_ne (by omega)).trans ((iu_ne (by omega)).trans h126)))) ?_
    refine aE_iconst (v := -1) dX12_plan_233 rfl ?_
    refine aE_ixor dX12_plan_234 ?_
    refine aE_iand dX12_plan_235 ?_
    refine aE_top (nb_andn left S) ?_
    refine aE_istore_n dX12_plan_236 rfl (by decide) rfl (aE_loc (ls' := [_, _, _, _]) rfl ?_)
    refine aE_goto (tgt := 158) dX12_plan_237 (by decide) ?_
    have hlt9 : (pS d (cs s) (bdiff left S)).1 < 1000000 := by rw [show (pS d (cs s) (bdiff left S)).1 = nI m' from e2]; exact nI_far (by omega)
    obtain ⟨m2, h2⟩ := pB_lt (rt := rS d (cs s)) (le := lS d (cs s)) (by omega) hlt9
    have em : m2 = m' := by
      have a := h2.2.1.symm.trans e2
      have := h2.1; have := cdB_bound (bdiff left S) 10
      exact (nI_eq (by omega) (by omega)).mp a
    subst em
    have e4 : m = m2 := by omega
    subst e4
    refine ih (bdiff left S) _ (L ++ [(s, S)]) (by omega) (bsub_tr (bdiff_sub left S) hsub) h2 (by rw [List.length_append]; simp; omega) ⟨?_, fun r s' S' hr => ?_⟩ (fun q i h1 h2 => ?_) (fun J hJ1 hJ2 l3 => ?_)
    · rw [iu_eq, List.length_append]; rfl
    · rw [iu_ne (by omega)]
      by_cases er : r < L.length
      · rw [List.getElem?_append_left er] at hr
        obtain ⟨a1, a2, a3⟩ := hL.2 r s' S' hr
        rw [iu_ne (by omega), iu_ne (by omega), iu_ne (by omega), iu_ne (by omega), iu_ne (by omega), iu_ne (by omega), iu_ne (by omega), iu_ne (by omega), iu_ne (by omega), iu_ne (by omega), iu_ne (by omega)]
        exact ⟨a1, a2, a3⟩
      · rw [List.getElem?_append_right (by omega)] at hr
        have hz : r - L.length < 1 := (List.getElem?_eq_some_iff.mp hr).1
        have er2 : r = L.length := by omega
        subst er2
        rw [Nat.sub_self] at hr
        cases hr
        refine ⟨?_, ?_, ?_⟩
        · rw [iu_ne (by omega), iu_ne (by omega), iu_eq]
        · rw [iu_ne (by omega), iu_ne (by omega), iu_eq]
        · rw [iu_ne (by omega), iu_eq]
    · rw [iu_ne (by omega), iu_ne (by omega), iu_ne (by omega), iu_ne (by omega)]; exact hfr q i h1 h2
    · refine k0 J ?_ hJ2 l3
      have e5 : rtL (rS d (cs s)) (lS d (cs s)) (m + 1) left = S :: rtL (rS d (cs s)) (lS d (cs s)) m (bdiff left S) := by
        simp only [rtL]; rw [if_neg h0]; rw [show (pB (rS d (cs s)) (lS d (cs s)) left).2.2 = S from hS]
      rw [e5, List.map_cons, ← List.singleton_append (x := (s, S)), ← List.append_assoc]
      exact hJ1
end MPL4
