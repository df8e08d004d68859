section K13
variable {I : Nat → Nat → Int32} {sp : Nat → Nat} {pl : Bool} {J K : Nat → Nat → Int32} {ns nstr nc : Nat} {d : pD} {cs : Nat → pC} {fr to sc kd : Nat → Nat} {nr tl nm : Nat} {cn : Nat → Nat}
/-- the model's call ends with v, and all holds -/
def ends (p : Bool) (sp' : Nat → Nat) (v : Int32) : Option Value → Nat → aM → Prop := fun r2 n2 m2 => ∃ K, r2 = some (.int v) ∧ n2 = nn p ∧ m2 = MM K sp' p ∧ Inv K sp' p
theorem ends_F (hC : Core I sp ns nstr nc d cs fr to sc kd nr tl nm cn) (hK : Cach I sp pl ns d cs nr) : qi (ends pl sp (-1000001)) (-1000001) (fndM (fnd I)) sp pl := ⟨_, rfl, rfl, rfl, Inv_f2 hC hK⟩
theorem ends_N (hC : Core I sp ns nstr nc d cs fr to sc kd nr tl nm cn) (hK : Cach I sp pl ns d cs nr) (v : Int32) (hF : ∀ q i, ¬ (121 ≤ q ∧ q ≤ 139) → q ≠ 143 → q ≠ 145 → ¬ (q = 101 ∧ (i = 29 ∨ i = 42 ∨ i = 43)) → K q i = fnd I q i) (hP : PlM K d cs (alM (fnd I) d) ns) : qi (ends pl sp v) v (fndM K) sp pl := ⟨_, rfl, rfl, rfl, fin_N hC hK hF hP⟩
theorem ends_O (hC : Core I sp ns nstr nc d cs fr to sc kd nr tl nm cn) (hK : Cach I sp pl ns d cs nr) {v v' : Int32} (hv : v' = v) (hF : ∀ q i, ¬ (121 ≤ q ∧ q ≤ 139) → q ≠ 143 → q ≠ 145 → ¬ (q = 101 ∧ (i = 29 ∨ i = 42 ∨ i = 43)) → K q i = I q i) (hP : PlM K d cs (alM I d) ns) : qi (ends pl sp v) v' K sp pl := ⟨_, by rw [hv], rfl, rfl, by obtain ⟨a, b⟩ := fin_O hC hK hF hP; exact Inv_of a b⟩
theorem RLs_ix {c : pC} {A i S : Nat} (hA : A < 1024) (h : (RLs d c A)[i]? = some S) : i < 10 ∧ i < (RLs d c A).length ∧ (RLs d c A).length ≤ 10 ∧ (pS d c A).1 < 1000000 ∧ (pS d c A).1 = nI (RLs d c A).length := by
  have h1 : i < (RLs d c A).length := (List.getElem?_eq_some_iff.mp h).1
  have h2 := RLs_card (d := d) (c := c) hA
  have h3 := cdB_bound A 10
  have h4 : (pS d c A).1 < 1000000 := by
    by_cases q : (pS d c A).1 < 1000000
    · exact q
    · unfold RLs at h; rw [if_neg q] at h; simp at h
  exact ⟨by omega, h1, by omega, h4, RLs_len hA h4⟩
theorem RR_sch {al : Nat → Nat} (hal : ∀ s, al s < 1024) (hns : ns ≤ 4) (r : Nat) : (rt0 (RR d cs al ns) r).1 < 4 := by
  by_cases h : r < (RR d cs al ns).length
  · have h1 := rt0_ex h
    have h2 := RR_mem hal ns (rt0 (RR d cs al ns) r).1 (rt0 (RR d cs al ns) r).2 (List.mem_of_getElem? (i := r) h1)
    omega
  · show ((RR d cs al ns).getD r (0, 0)).1 < 4
    rw [List.getD_eq_getElem?_getD, List.getElem?_eq_none (by omega)]
    decide
theorem cf1_eq {tr tr' : Nat → Int32} {sl : Int32} {s : Nat} {p : Nat × Nat} (h1 : tr s = tr' s) (h2 : tr p.1 = tr' p.1) : cf1 d cs tr sl s p = cf1 d cs tr' sl s p := by
  unfold cf1 st1
  rw [h1, h2]
theorem mayF_eq {al : Nat → Nat} (hal : ∀ s, al s < 1024) (hns : ns ≤ 4) {tr tr' : Nat → Int32} {sl sl' : Int32} (hsl : sl = sl') (h : ∀ s, s < 4 → tr s = tr' s) : mayF d cs tr sl (RR d cs al ns) = mayF d cs tr' sl' (RR d cs al ns) := by
  funext a b
  subst hsl
  unfold mayF
  rw [cf1_eq (h _ (RR_sch (d := d) (cs := cs) hal hns a)) (h _ (RR_sch (d := d) (cs := cs) hal hns b))]
theorem Core_may (hC : Core I sp ns nstr nc d cs fr to sc kd nr tl nm cn) : mayF d cs (fun s => I 108 s) (I 101 9) (RR d cs (alC I sp d) ns) = fC I sp ns d cs := mayF_eq (CW_al hC.1).1 hC.1.1.2 hC.2.1.2.2.2.2.2.2.2.2.2 (fun s hs => (hC.2.2.2.2.1 s hs).2.2.1)
theorem al1024 (hC : Core I sp ns nstr nc d cs fr to sc kd nr tl nm cn) : ∀ s, alC I sp d s < 1024 := (CW_al hC.1).1
theorem mB_routes (hC : Core I sp ns nstr nc d cs fr to sc kd nr tl nm cn) (hK : Cach I sp pl ns d cs nr) (v : Int32) (hb : wi v 0 (I 1 4 - 1) = 0) : aRuns mX12_routes (rK 5) [.ref 101, .int v] (nn pl) (MM (fnd I) sp pl) (ends pl sp (-1000001)) := by
  have hns := hC.1.1.2
  have wx : ∀ s, s < ns → v = nI s → ∀ x, x = nI ns → ¬ wi v 0 (x - 1) = 0 := fun s hs hv x hx => by rw [hv, hx]; exact wi_nx (by omega) hs
  have w1 := hC.1.1.1
  have w2 := hC.2.1.2.2.1
  have w3 : fnd I 101 2 = nI ns := (fnd_o (by omega)).trans w2
  have eqs : ∀ s s', s < ns → s' < ns → v = nI s → v = nI s' → s = s' := fun s s' h1 h2 a b => (nI_eq (by omega) (by omega)).mp (a.symm.trans b)
  exact m_routes v ns nstr nc d cs fr to (mo_MW hC (fun q i h => fnd_o (by omega))) (mo_Pl hC hK (fun q i h => fnd_o (by omega))) (fun _ => ends_F hC hK) (fun s J hs hv _ _ _ => (wx s hs hv _ w1 hb).elim) (fun s J hs hv _ _ _ => (wx s hs hv _ w1 hb).elim)
theorem mN_routes (hC : Core I sp ns nstr nc d cs fr to sc kd nr tl nm cn) (hK : Cach I sp pl ns d cs nr) (v : Int32) (s : Nat) (hs : s < ns) (hv : v = nI s) (hp : ¬ (pS d (cs s) ((alC I sp d) s)).1 < 1000000) : aRuns mX12_routes (rK 5) [.ref 101, .int v] (nn pl) (MM (fnd I) sp pl) (ends pl sp (-1000004)) := by
  have hns := hC.1.1.2
  have wx : ∀ s, s < ns → v = nI s → ∀ x, x = nI ns → ¬ wi v 0 (x - 1) = 0 := fun s hs hv x hx => by rw [hv, hx]; exact wi_nx (by omega) hs
  have w1 := hC.1.1.1
  have w2 := hC.2.1.2.2.1
  have w3 : fnd I 101 2 = nI ns := (fnd_o (by omega)).trans w2
  have eqs : ∀ s s', s < ns → s' < ns → v = nI s → v = nI s' → s = s' := fun s s' h1 h2 a b => (nI_eq (by omega) (by omega)).mp (a.symm.trans b)
  have e : alM (fnd I) d = alC I sp d := mo_al hC (fun q i h => fnd_o (by omega))
  refine m_routes v ns nstr nc d cs fr to (mo_MW hC (fun q i h => fnd_o (by omega))) (mo_Pl hC hK (fun q i h => fnd_o (by omega))) (fun hb => (wx s hs hv _ w3 hb).elim) (fun s' K hs' hv' hF hM hp' => ends_N hC hK _ (frP_F hF) hM.2.2.2.2.1) (fun s' K hs' hv' hF hM hp' => ?_)
  exfalso; rw [e, eqs s' s hs' hs hv' hv] at hp'; exact hp hp'
theorem mO_routes (hC : Core I sp ns nstr nc d cs fr to sc kd nr tl nm cn) (hK : Cach I sp pl ns d cs nr) (v : Int32) (s : Nat) (hs : s < ns) (hv : v = nI s) (hp : (pS d (cs s) ((alC I sp d) s)).1 < 1000000) : aRuns mX12_routes (rK 5) [.ref 101, .int v] (nn pl) (MM I sp pl) (ends pl sp ((pS d (cs s) ((alC I sp d) s)).1)) := by
  have hns := hC.1.1.2
  have wx : ∀ s, s < ns → v = nI s → ∀ x, x = nI ns → ¬ wi v 0 (x - 1) = 0 := fun s hs hv x hx => by rw [hv, hx]; exact wi_nx (by omega) hs
  have w1 := hC.1.1.1
  have w2 := hC.2.1.2.2.1
  have w3 : fnd I 101 2 = nI ns := (fnd_o (by omega)).trans w2
  have eqs : ∀ s s', s < ns → s' < ns → v = nI s → v = nI s' → s = s' := fun s s' h1 h2 a b => (nI_eq (by omega) (by omega)).mp (a.symm.trans b)
  have e : alM I d = alC I sp d := Core_al hC
  refine m_routes v ns nstr nc d cs fr to (Core_MW hC) hK.2.2.2.1 (fun hb => (wx s hs hv _ w2 hb).elim) (fun s' K hs' hv' hF hM hp' => ?_) (fun s' K hs' hv' hF hM hp' => ends_O hC hK (by rw [e, eqs s' s hs' hs hv' hv]) (frP_F hF) hM.2.2.2.2.1)
  exfalso; rw [e, eqs s' s hs' hs hv' hv] at hp'; exact hp' hp
theorem mB_rou2 (hC : Core I sp ns nstr nc d cs fr to sc kd nr tl nm cn) (hK : Cach I sp pl ns d cs nr) (v i k : Int32) (hb : wi v 0 (I 1 4 - 1) = 0 ∨ i < 0 ∨ k < -1) : aRuns mX12_route (rK 5) [.ref 101, .int v, .int i, .int k] (nn pl) (MM (fnd I) sp pl) (ends pl sp (-1000001)) := by
  have hns := hC.1.1.2
  have wx : ∀ s, s < ns → v = nI s → ∀ x, x = nI ns → ¬ wi v 0 (x - 1) = 0 := fun s hs hv x hx => by rw [hv, hx]; exact wi_nx (by omega) hs
  have w1 := hC.1.1.1
  have w2 := hC.2.1.2.2.1
  have w3 : fnd I 101 2 = nI ns := (fnd_o (by omega)).trans w2
  have eqs : ∀ s s', s < ns → s' < ns → v = nI s → v = nI s' → s = s' := fun s s' h1 h2 a b => (nI_eq (by omega) (by omega)).mp (a.symm.trans b)
  have e : alM (fnd I) d = alC I sp d := mo_al hC (fun q i h => fnd_o (by omega))
  have hal := al1024 hC
  have ixp : ∀ s ii S, (RLs d (cs s) (alC I sp d s))[ii]? = some S → i = nI ii → ¬ i < 0 := fun s ii S h hi => by rw [hi]; exact nI_pos (by have := (RLs_ix (hal s) h).1; omega)
  refine m_rou2 v i k ns nstr nc d cs fr to (mo_MW hC (fun q i h => fnd_o (by omega))) (mo_Pl hC hK (fun q i h => fnd_o (by omega))) (fun _ => ends_F hC hK) (fun s J hs hv hi hk _ _ _ => ?_) (fun s J ii S hs hv hi _ _ hS hk => ?_) (fun s J ii S kk hs hv hi h31 hk _ _ hS => ?_)
  · exfalso; rcases hb with q | q | q; exact wx s hs hv _ w1 q; exact hi q; exact hk q
  · exfalso; rw [e] at hS; rcases hb with q | q | q; exact wx s hs hv _ w1 q; exact ixp _ _ _ hS hi q; rw [hk] at q; exact absurd q (by decide)
  · exfalso; rw [e] at hS; rcases hb with q | q | q; exact wx s hs hv _ w1 q; exact ixp _ _ _ hS hi q; exact (by rw [hk] at q; exact nI_pos h31 (Int32.lt_trans q (by decide)))
theorem mN_rou2 (hC : Core I sp ns nstr nc d cs fr to sc kd nr tl nm cn) (hK : Cach I sp pl ns d cs nr) (v i k : Int32) (s : Nat) (hs : s < ns) (hv : v = nI s) (hi0 : ¬ i < 0) (hk0 : ¬ k < -1) (hp : ¬ (pS d (cs s) ((alC I sp d) s)).1 < 1000000 ∨ (pS d (cs s) ((alC I sp d) s)).1 ≤ i) : aRuns mX12_route (rK 5) [.ref 101, .int v, .int i, .int k] (nn pl) (MM (fnd I) sp pl) (ends pl sp (-1000004)) := by
  have hns := hC.1.1.2
  have wx : ∀ s, s < ns → v = nI s → ∀ x, x = nI ns → ¬ wi v 0 (x - 1) = 0 := fun s hs hv x hx => by rw [hv, hx]; exact wi_nx (by omega) hs
  have w1 := hC.1.1.1
  have w2 := hC.2.1.2.2.1
  have w3 : fnd I 101 2 = nI ns := (fnd_o (by omega)).trans w2
  have eqs : ∀ s s', s < ns → s' < ns → v = nI s → v = nI s' → s = s' := fun s s' h1 h2 a b => (nI_eq (by omega) (by omega)).mp (a.symm.trans b)
  have e : alM (fnd I) d = alC I sp d := mo_al hC (fun q i h => fnd_o (by omega))
  have hal := al1024 hC
  have ixp : ∀ s ii S, (RLs d (cs s) (alC I sp d s))[ii]? = some S → i = nI ii → ¬ i < 0 := fun s ii S h hi => by rw [hi]; exact nI_pos (by have := (RLs_ix (hal s) h).1; omega)
  have no : ∀ s' ii S, s' = s → (RLs d (cs s') (alC I sp d s'))[ii]? = some S → i = nI ii → False := fun s' ii S hss h hi => by
    rw [hss] at h
    obtain ⟨a1, a2, a3, a4, a5⟩ := RLs_ix (hal s) h
    rcases hp with q | q
    · exact q a4
    · rw [a5, hi] at q
      have := (nI_leI (by omega) (by omega)).mp q
      omega
  refine m_rou2 v i k ns nstr nc d cs fr to (mo_MW hC (fun q i h => fnd_o (by omega))) (mo_Pl hC hK (fun q i h => fnd_o (by omega))) (fun hb => by
    exfalso; rcases hb with q | q | q
    · exact wx s hs hv _ w3 q
    · exact hi0 q
    · exact hk0 q) (fun s' K hs' hv' _ _ hF hM hp' => ends_N hC hK _ (frP_F hF) hM.2.2.2.2.1) (fun s' J ii S hs' hv' hi _ _ hS hk => ?_) (fun s' J ii S kk hs' hv' hi h31 hk _ _ hS => ?_)
  · rw [e] at hS; exact (no s' ii S (eqs s' s hs' hs hv' hv) hS hi).elim
  · rw [e] at hS; exact (no s' ii S (eqs s' s hs' hs hv' hv) hS hi).elim
theorem mO_rou2 (hC : Core I sp ns nstr nc d cs fr to sc kd nr tl nm cn) (hK : Cach I sp pl ns d cs nr) (v i k : Int32) (s : Nat) (hs : s < ns) (hv : v = nI s) (ii S : Nat) (hi : i = nI ii) (hS : (RLs d (cs s) ((alC I sp d) s))[ii]? = some S) (w : Int32) (hk0 : ¬ k < -1) (hw : (k = -1 → w = lS d (cs s) S) ∧ ∀ kk, kk < 2 ^ 31 → k = nI kk → w = rv (oS d (cs s) S (min kk 10)).2) : aRuns mX12_route (rK 5) [.ref 101, .int v, .int i, .int k] (nn pl) (MM I sp pl) (ends pl sp (w)) := by
  have hns := hC.1.1.2
  have wx : ∀ s, s < ns → v = nI s → ∀ x, x = nI ns → ¬ wi v 0 (x - 1) = 0 := fun s hs hv x hx => by rw [hv, hx]; exact wi_nx (by omega) hs
  have w1 := hC.1.1.1
  have w2 := hC.2.1.2.2.1
  have w3 : fnd I 101 2 = nI ns := (fnd_o (by omega)).trans w2
  have eqs : ∀ s s', s < ns → s' < ns → v = nI s → v = nI s' → s = s' := fun s s' h1 h2 a b => (nI_eq (by omega) (by omega)).mp (a.symm.trans b)
  have e : alM I d = alC I sp d := Core_al hC
  have hal := al1024 hC
  have ixp : ∀ s ii S, (RLs d (cs s) (alC I sp d s))[ii]? = some S → i = nI ii → ¬ i < 0 := fun s ii S h hi => by rw [hi]; exact nI_pos (by have := (RLs_ix (hal s) h).1; omega)
  have same : ∀ s' ii' S', s' = s → (RLs d (cs s') (alC I sp d s'))[ii']? = some S' → i = nI ii' → S' = S := fun s' ii' S' hss h hi' => by
    rw [hss] at h
    have a1 := RLs_ix (hal s) h
    have b1 := RLs_ix (hal s) hS
    have : ii' = ii := (nI_eq (by omega) (by omega)).mp (hi'.symm.trans hi)
    rw [this, hS] at h
    exact (Option.some.inj h).symm
  have hi0 := ixp _ _ _ hS hi
  have yes : ¬ (¬ (pS d (cs s) (alC I sp d s)).1 < 1000000 ∨ (pS d (cs s) (alC I sp d s)).1 ≤ i) := fun q => by
    have b1 := RLs_ix (hal s) hS
    rcases q with q | q
    · exact q b1.2.2.2.1
    · rw [b1.2.2.2.2, hi] at q
      have := (nI_leI (by omega) (by omega)).mp q
      omega
  refine m_rou2 v i k ns nstr nc d cs fr to (Core_MW hC) hK.2.2.2.1 (fun hb => by
    exfalso; rcases hb with q | q | q
    · exact wx s hs hv _ w2 q
    · exact hi0 q
    · exact hk0 q) (fun s' K hs' hv' _ _ hF hM hp' => by exfalso; rw [e, eqs s' s hs' hs hv' hv] at hp'; exact yes hp') (fun s' K ii' S' hs' hv' hi' hF hM hS' hk => ?_) (fun s' K ii' S' kk hs' hv' hi' h31 hk hF hM hS' => ?_)
  · rw [e] at hS'
    have es := eqs s' s hs' hs hv' hv
    exact ends_O hC hK (by rw [hw.1 hk, same s' ii' S' es hS' hi', es]) (frP_F hF) hM.2.2.2.2.1
  · rw [e] at hS'
    have es := eqs s' s hs' hs hv' hv
    exact ends_O hC hK (by rw [hw.2 kk h31 hk, same s' ii' S' es hS' hi', es]) (frP_F hF) hM.2.2.2.2.1
theorem mB_ride (hC : Core I sp ns nstr nc d cs fr to sc kd nr tl nm cn) (hK : Cach I sp pl ns d cs nr) (v : Int32) (hb : wi v 0 (I 1 5 - 1) = 0) : aRuns mX12_ride (rK 5) [.ref 101, .int v] (nn pl) (MM (fnd I) sp pl) (ends pl sp (-1000001)) := by
  have h10 := hC.1.2.2.2.2.2.2.1.2
  have hns := hC.1.1.2
  have wx : ∀ s, s < d.1 → v = nI s → ∀ x, x = nI d.1 → ¬ wi v 0 (x - 1) = 0 := fun s hs hv x hx => by rw [hv, hx]; exact wi_nx (by omega) hs
  have w1 := hC.1.2.2.2.2.2.2.1.1
  have w2 := hC.2.1.2.2.2.1
  have w3 : fnd I 101 3 = nI d.1 := (fnd_o (by omega)).trans w2
  have eqs : ∀ s s', s < d.1 → s' < d.1 → v = nI s → v = nI s' → s = s' := fun s s' h1 h2 a b => (nI_eq (by omega) (by omega)).mp (a.symm.trans b)
  have hsc : ∀ k, k < d.1 → sc k < ns ∧ I 110 k = nI (sc k) := fun k hk => ⟨(hC.2.2.2.2.2.2.1 k hk).1, (hC.2.2.2.2.2.2.1 k hk).2.2.1.trans (hC.2.2.2.2.2.2.1 k hk).2.1⟩
  have hsf : ∀ k, k < d.1 → sc k < ns ∧ fnd I 110 k = nI (sc k) := fun k hk => ⟨(hsc k hk).1, (fnd_o (by omega)).trans (hsc k hk).2⟩
  exact m_ride v sc ns nstr nc d cs fr to (mo_MW hC (fun q i h => fnd_o (by omega))) (mo_Pl hC hK (fun q i h => fnd_o (by omega))) hsf (fun _ => ends_F hC hK) (fun s J hs hv _ _ _ => (wx s hs hv _ w1 hb).elim) (fun s J hs hv _ _ _ => (wx s hs hv _ w1 hb).elim)
theorem mN_ride (hC : Core I sp ns nstr nc d cs fr to sc kd nr tl nm cn) (hK : Cach I sp pl ns d cs nr) (v : Int32) (s : Nat) (hs : s < d.1) (hv : v = nI s) (hp : ¬ (pS d (cs (sc s)) ((alC I sp d) (sc s))).1 < 1000000) : aRuns mX12_ride (rK 5) [.ref 101, .int v] (nn pl) (MM (fnd I) sp pl) (ends pl sp (-1000004)) := by
  have h10 := hC.1.2.2.2.2.2.2.1.2
  have hns := hC.1.1.2
  have wx : ∀ s, s < d.1 → v = nI s → ∀ x, x = nI d.1 → ¬ wi v 0 (x - 1) = 0 := fun s hs hv x hx => by rw [hv, hx]; exact wi_nx (by omega) hs
  have w1 := hC.1.2.2.2.2.2.2.1.1
  have w2 := hC.2.1.2.2.2.1
  have w3 : fnd I 101 3 = nI d.1 := (fnd_o (by omega)).trans w2
  have eqs : ∀ s s', s < d.1 → s' < d.1 → v = nI s → v = nI s' → s = s' := fun s s' h1 h2 a b => (nI_eq (by omega) (by omega)).mp (a.symm.trans b)
  have hsc : ∀ k, k < d.1 → sc k < ns ∧ I 110 k = nI (sc k) := fun k hk => ⟨(hC.2.2.2.2.2.2.1 k hk).1, (hC.2.2.2.2.2.2.1 k hk).2.2.1.trans (hC.2.2.2.2.2.2.1 k hk).2.1⟩
  have hsf : ∀ k, k < d.1 → sc k < ns ∧ fnd I 110 k = nI (sc k) := fun k hk => ⟨(hsc k hk).1, (fnd_o (by omega)).trans (hsc k hk).2⟩
  have e : alM (fnd I) d = alC I sp d := mo_al hC (fun q i h => fnd_o (by omega))
  refine m_ride v sc ns nstr nc d cs fr to (mo_MW hC (fun q i h => fnd_o (by omega))) (mo_Pl hC hK (fun q i h => fnd_o (by omega))) hsf (fun hb => (wx s hs hv _ w3 hb).elim) (fun s' K hs' hv' hF hM hp' => ends_N hC hK _ (frP_F hF) hM.2.2.2.2.1) (fun s' K hs' hv' hF hM hp' => ?_)
  exfalso; rw [e, eqs s' s hs' hs hv' hv] at hp'; exact hp hp'
theorem mO_ride (hC : Core I sp ns nstr nc d cs fr to sc kd nr tl nm cn) (hK : Cach I sp pl ns d cs nr) (v : Int32) (s : Nat) (hs : s < d.1) (hv : v = nI s) (hp : (pS d (cs (sc s)) ((alC I sp d) (sc s))).1 < 1000000) : aRuns mX12_ride (rK 5) [.ref 101, .int v] (nn pl) (MM I sp pl) (ends pl sp (rideS d (cs (sc s)) s (RLs d (cs (sc s)) ((alC I sp d) (sc s))))) := by
  have h10 := hC.1.2.2.2.2.2.2.1.2
  have hns := hC.1.1.2
  have wx : ∀ s, s < d.1 → v = nI s → ∀ x, x = nI d.1 → ¬ wi v 0 (x - 1) = 0 := fun s hs hv x hx => by rw [hv, hx]; exact wi_nx (by omega) hs
  have w1 := hC.1.2.2.2.2.2.2.1.1
  have w2 := hC.2.1.2.2.2.1
  have w3 : fnd I 101 3 = nI d.1 := (fnd_o (by omega)).trans w2
  have eqs : ∀ s s', s < d.1 → s' < d.1 → v = nI s → v = nI s' → s = s' := fun s s' h1 h2 a b => (nI_eq (by omega) (by omega)).mp (a.symm.trans b)
  have hsc : ∀ k, k < d.1 → sc k < ns ∧ I 110 k = nI (sc k) := fun k hk => ⟨(hC.2.2.2.2.2.2.1 k hk).1, (hC.2.2.2.2.2.2.1 k hk).2.2.1.trans (hC.2.2.2.2.2.2.1 k hk).2.1⟩
  have hsf : ∀ k, k < d.1 → sc k < ns ∧ fnd I 110 k = nI (sc k) := fun k hk => ⟨(hsc k hk).1, (fnd_o (by omega)).trans (hsc k hk).2⟩
  have e : alM I d = alC I sp d := Core_al hC
  refine m_ride v sc ns nstr nc d cs fr to (Core_MW hC) hK.2.2.2.1 hsc (fun hb => (wx s hs hv _ w2 hb).elim) (fun s' K hs' hv' hF hM hp' => ?_) (fun s' K hs' hv' hF hM hp' => ends_O hC hK (by
    rw [e, eqs s' s hs' hs hv' hv]
    exact rideL_s2 (al1024 hC) (al_ot hns ⟨(hsc s hs).1, (hC.2.2.2.2.2.2.1 s hs).2.1⟩) (hsc s hs).1) (frP_F hF) hM.2.2.2.2.1)
  exfalso; rw [e, eqs s' s hs' hs hv' hv] at hp'; exact hp' hp
theorem mN_all (hC : Core I sp ns nstr nc d cs fr to sc kd nr tl nm cn) (hK : Cach I sp pl ns d cs nr)  (hp : allH d cs (alC I sp d) ns = false) : aRuns mX12_all (rK 5) [.ref 101] (nn pl) (MM (fnd I) sp pl) (ends pl sp (-1000004)) := by
  have e : alM (fnd I) d = alC I sp d := mo_al hC (fun q i h => fnd_o (by omega))
  refine m_all ns nstr nc d cs fr to (mo_MW hC (fun q i h => fnd_o (by omega))) (mo_Pl hC hK (fun q i h => fnd_o (by omega))) (fun K hF hM hp' => ends_N hC hK _ (frP_F hF) hM.2.2.2.2.1) (fun K hF hM hp' => ?_)
  exfalso; rw [e, hp] at hp'; exact absurd hp' (by decide)
theorem mO_all (hC : Core I sp ns nstr nc d cs fr to sc kd nr tl nm cn) (hK : Cach I sp pl ns d cs nr)  (hp : allH d cs (alC I sp d) ns = true) : aRuns mX12_all (rK 5) [.ref 101] (nn pl) (MM I sp pl) (ends pl sp (nI (RR d cs (alC I sp d) ns).length)) := by
  have e : alM I d = alC I sp d := Core_al hC
  refine m_all ns nstr nc d cs fr to (Core_MW hC) hK.2.2.2.1 (fun K hF hM hp' => ?_) (fun K hF hM hp' => ends_O hC hK (by rw [e]) (frP_F hF) hM.2.2.2.2.1)
  exfalso; rw [e, hp] at hp'; exact absurd hp' (by decide)
theorem mB_start (hC : Core I sp ns nstr nc d cs fr to sc kd nr tl nm cn) (hK : Cach I sp pl ns d cs nr) (v : Int32) (hb : v < 0) : aRuns mX12_start (rK 5) [.ref 101, .int v] (nn pl) (MM (fnd I) sp pl) (ends pl sp (-1000001)) := by
  have hal := al1024 hC
  have hA := CW_al hC.1
  have rpos : ∀ r p, (RR d cs (alC I sp d) ns)[r]? = some p → r < 10 ∧ r < (RR d cs (alC I sp d) ns).length := fun r p h => by
    have := (List.getElem?_eq_some_iff.mp h).1
    have := hA.2.1
    omega
  have e : alM (fnd I) d = alC I sp d := mo_al hC (fun q i h => fnd_o (by omega))
  refine m_start v ns nstr nc d cs fr to (mo_MW hC (fun q i h => fnd_o (by omega))) (mo_Pl hC hK (fun q i h => fnd_o (by omega))) (fun _ => ends_F hC hK) (fun J h _ _ _ => absurd hb (Int32.not_lt.mpr h)) (fun r s S J hv h _ _ _ => ?_)
  exfalso; rw [e] at h; rw [hv] at hb; exact nI_pos (by have := rpos _ _ h; omega) hb
theorem mN_start (hC : Core I sp ns nstr nc d cs fr to sc kd nr tl nm cn) (hK : Cach I sp pl ns d cs nr) (v : Int32) (h0 : 0 ≤ v) (hp : allH d cs (alC I sp d) ns = false ∨ nI (RR d cs (alC I sp d) ns).length ≤ v) : aRuns mX12_start (rK 5) [.ref 101, .int v] (nn pl) (MM (fnd I) sp pl) (ends pl sp (-1000004)) := by
  have hal := al1024 hC
  have hA := CW_al hC.1
  have rpos : ∀ r p, (RR d cs (alC I sp d) ns)[r]? = some p → r < 10 ∧ r < (RR d cs (alC I sp d) ns).length := fun r p h => by
    have := (List.getElem?_eq_some_iff.mp h).1
    have := hA.2.1
    omega
  have e : alM (fnd I) d = alC I sp d := mo_al hC (fun q i h => fnd_o (by omega))
  refine m_start v ns nstr nc d cs fr to (mo_MW hC (fun q i h => fnd_o (by omega))) (mo_Pl hC hK (fun q i h => fnd_o (by omega))) (fun hb => absurd hb (Int32.not_lt.mpr h0)) (fun K _ hF hM _ => ends_N hC hK _ (fun q i a b c f => (ataI_ne (by omega) 4).trans (frP_F hF q i a b c f)) (ataI_MS hM).2.2.2.2.1) (fun r s S J hv h _ _ hah => ?_)
  exfalso; rw [e] at h hah
  have b := rpos _ _ h
  have := hA.2.1
  rcases hp with q | q
  · rw [hah] at q; exact absurd q (by decide)
  · rw [hv] at q; have := (nI_leI (by omega) (by omega)).mp q; omega
theorem mO_start (hC : Core I sp ns nstr nc d cs fr to sc kd nr tl nm cn) (hK : Cach I sp pl ns d cs nr) (v : Int32) (r s S : Nat) (hv : v = nI r) (hr : (RR d cs (alC I sp d) ns)[r]? = some (s, S)) (hp : allH d cs (alC I sp d) ns = true) : aRuns mX12_start (rK 5) [.ref 101, .int v] (nn pl) (MM I sp pl) (ends pl sp (st1 d cs (fun s => I 26 s) (s, S))) := by
  have hal := al1024 hC
  have hA := CW_al hC.1
  have rpos : ∀ r p, (RR d cs (alC I sp d) ns)[r]? = some p → r < 10 ∧ r < (RR d cs (alC I sp d) ns).length := fun r p h => by
    have := (List.getElem?_eq_some_iff.mp h).1
    have := hA.2.1
    omega
  have e : alM I d = alC I sp d := Core_al hC
  have b := rpos _ _ hr
  have h10 := hA.2.1
  have hs4 : s < 4 := by have := (RR_mem hal ns s S (List.mem_of_getElem? (i := r) hr)).1; have := hC.1.1.2; omega
  refine m_start v ns nstr nc d cs fr to (Core_MW hC) hK.2.2.2.1 (fun hb => ?_) (fun K _ hF hM hq => ?_) (fun r' s' S' K hv' h hF hM hah => ?_)
  · rw [hv] at hb; exact absurd hb (nI_pos (by omega))
  · exfalso; rw [e] at hq; rcases hq with q | q
    · rw [hp] at q; exact absurd q (by decide)
    · rw [hv] at q; have := (nI_leI (by omega) (by omega)).mp q; omega
  · rw [e] at h
    have b' := rpos _ _ h
    have er : r' = r := (nI_eq (by omega) (by omega)).mp (hv'.symm.trans hv)
    rw [er, hr] at h
    cases h
    refine ends_O hC hK ?_ (fun q i a b c f => (ataI_ne (by omega) 4).trans (frP_F hF q i a b c f)) (ataI_MS hM).2.2.2.2.1
    show 60 + 20 * K 108 s - lS d (cs s) S = 60 + 20 * I 26 s - lS d (cs s) S
    rw [frP_F hF 108 s (by omega) (by omega) (by omega) (by omega), (hC.2.2.2.2.1 s hs4).2.2.1]
theorem mB_follows (hC : Core I sp ns nstr nc d cs fr to sc kd nr tl nm cn) (hK : Cach I sp pl ns d cs nr) (a b : Int32) (hb : a < 0 ∨ b < 0 ∨ a = b) : aRuns mX12_follows (rK 5) [.ref 101, .int a, .int b] (nn pl) (MM (fnd I) sp pl) (ends pl sp (-1000001)) := by
  have hal := al1024 hC
  have hA := CW_al hC.1
  have rpos : ∀ r p, (RR d cs (alC I sp d) ns)[r]? = some p → r < 10 ∧ r < (RR d cs (alC I sp d) ns).length := fun r p h => by
    have := (List.getElem?_eq_some_iff.mp h).1
    have := hA.2.1
    omega
  have e : alM (fnd I) d = alC I sp d := mo_al hC (fun q i h => fnd_o (by omega))
  refine m_follows a b ns nstr nc d cs fr to (mo_MW hC (fun q i h => fnd_o (by omega))) (mo_Pl hC hK (fun q i h => fnd_o (by omega))) (fun _ => ends_F hC hK) (fun J h1 h2 h3 _ _ _ => ?_) (fun r q s S s' S' v J ha hb' hn hr hq _ _ _ _ => ?_)
  · exfalso; rcases hb with q | q | q; exact h1 q; exact h2 q; exact h3 q
  · exfalso; rw [e] at hr hq
    rcases hb with x | x | x
    · rw [ha] at x; exact nI_pos (by have := rpos _ _ hr; omega) x
    · rw [hb'] at x; exact nI_pos (by have := rpos _ _ hq; omega) x
    · exact hn x
theorem mN_follows (hC : Core I sp ns nstr nc d cs fr to sc kd nr tl nm cn) (hK : Cach I sp pl ns d cs nr) (a b : Int32) (h1 : ¬ a < 0) (h2 : ¬ b < 0) (h3 : ¬ a = b) (hp : allH d cs (alC I sp d) ns = false ∨ nI (RR d cs (alC I sp d) ns).length ≤ a ∨ nI (RR d cs (alC I sp d) ns).length ≤ b) : aRuns mX12_follows (rK 5) [.ref 101, .int a, .int b] (nn pl) (MM (fnd I) sp pl) (ends pl sp (-1000004)) := by
  have hal := al1024 hC
  have hA := CW_al hC.1
  have rpos : ∀ r p, (RR d cs (alC I sp d) ns)[r]? = some p → r < 10 ∧ r < (RR d cs (alC I sp d) ns).length := fun r p h => by
    have := (List.getElem?_eq_some_iff.mp h).1
    have := hA.2.1
    omega
  have e : alM (fnd I) d = alC I sp d := mo_al hC (fun q i h => fnd_o (by omega))
  refine m_follows a b ns nstr nc d cs fr to (mo_MW hC (fun q i h => fnd_o (by omega))) (mo_Pl hC hK (fun q i h => fnd_o (by omega))) (fun hb => ?_) (fun K _ _ _ hF hM _ => ends_N hC hK _ (fun q i a b c f => (ataI_ne (by omega) 4).trans (frP_F hF q i a b c f)) (ataI_MS hM).2.2.2.2.1) (fun r q s S s' S' v J ha hb' hn hr hq _ _ hah _ => ?_)
  · exfalso; rcases hb with q | q | q; exact h1 q; exact h2 q; exact h3 q
  · exfalso; rw [e] at hr hq hah
    have b1 := rpos _ _ hr
    have b2 := rpos _ _ hq
    have := hA.2.1
    rcases hp with x | x | x
    · rw [hah] at x; exact absurd x (by decide)
    · rw [ha] at x; have := (nI_leI (by omega) (by omega)).mp x; omega
    · rw [hb'] at x; have := (nI_leI (by omega) (by omega)).mp x; omega
theorem mO_follows (hC : Core I sp ns nstr nc d cs fr to sc kd nr tl nm cn) (hK : Cach I sp pl ns d cs nr) (a b : Int32) (r u s S s2 S2 : Nat) (ha : a = nI r) (hb : b = nI u) (hn : ¬ a = b) (hr : (RR d cs (alC I sp d) ns)[r]? = some (s, S)) (hu : (RR d cs (alC I sp d) ns)[u]? = some (s2, S2)) (hp : allH d cs (alC I sp d) ns = true) : aRuns mX12_follows (rK 5) [.ref 101, .int a, .int b] (nn pl) (MM I sp pl) (ends pl sp (if cf1 d cs (fun s => I 26 s) (I 1 8) s (s2, S2) then (1 : Int32) else 0)) := by
  have hal := al1024 hC
  have hA := CW_al hC.1
  have rpos : ∀ r p, (RR d cs (alC I sp d) ns)[r]? = some p → r < 10 ∧ r < (RR d cs (alC I sp d) ns).length := fun r p h => by
    have := (List.getElem?_eq_some_iff.mp h).1
    have := hA.2.1
    omega
  have e : alM I d = alC I sp d := Core_al hC
  have b1 := rpos _ _ hr
  have b2 := rpos _ _ hu
  have h10 := hA.2.1
  have hs4 : s < 4 := by have := (RR_mem hal ns s S (List.mem_of_getElem? (i := r) hr)).1; have := hC.1.1.2; omega
  have hs5 : s2 < 4 := by have := (RR_mem hal ns s2 S2 (List.mem_of_getElem? (i := u) hu)).1; have := hC.1.1.2; omega
  refine m_follows a b ns nstr nc d cs fr to (Core_MW hC) hK.2.2.2.1 (fun q => ?_) (fun K _ _ _ hF hM hq => ?_) (fun r' u' s' S' s2' S2' v K ha' hb' _ h h' hF hM hah hv => ?_)
  · exfalso; rcases q with q | q | q
    · rw [ha] at q; exact nI_pos (by omega) q
    · rw [hb] at q; exact nI_pos (by omega) q
    · exact hn q
  · exfalso; rw [e] at hq; rcases hq with q | q | q
    · rw [hp] at q; exact absurd q (by decide)
    · rw [ha] at q; have := (nI_leI (by omega) (by omega)).mp q; omega
    · rw [hb] at q; have := (nI_leI (by omega) (by omega)).mp q; omega
  · rw [e] at h h'
    have c1 := rpos _ _ h
    have c2 := rpos _ _ h'
    have er : r' = r := (nI_eq (by omega) (by omega)).mp (ha'.symm.trans ha)
    have eu : u' = u := (nI_eq (by omega) (by omega)).mp (hb'.symm.trans hb)
    rw [er, hr] at h
    rw [eu, hu] at h'
    cases h
    cases h'
    refine ends_O hC hK ?_ (fun q i a b c f => (ataI_ne (by omega) 4).trans (frP_F hF q i a b c f)) (ataI_MS hM).2.2.2.2.1
    rw [hv]
    have ec : cf1 d cs (fun s => K 108 s) (K 101 9) s (s2, S2) = cf1 d cs (fun s => I 26 s) (I 1 8) s (s2, S2) := by
      rw [frP_F hF 101 9 (by omega) (by omega) (by omega) (by omega), hC.2.1.2.2.2.2.2.2.2.2.2]
      exact cf1_eq ((frP_F hF 108 s (by omega) (by omega) (by omega) (by omega)).trans (hC.2.2.2.2.1 s hs4).2.2.1) ((frP_F hF 108 s2 (by omega) (by omega) (by omega) (by omega)).trans (hC.2.2.2.2.1 s2 hs5).2.2.1)
    rw [ec]
end K13
