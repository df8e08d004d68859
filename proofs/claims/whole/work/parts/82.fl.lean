/-! ===== the routes of all schools, as the class numbers them ===== -/
def RI (d : pD) (cs : Nat → pC) (al : Nat → Nat) : Nat → List (Nat × Nat)
  | 0 => []
  | k + 1 => RI d cs al k ++ (List.range (RLs d (cs k) (al k)).length).map (fun i => (k, i))
def mxL (d : pD) (cs : Nat → pC) (al : Nat → Nat) : Nat → Nat
  | 0 => 0
  | k + 1 => max (mxL d cs al k) (RLs d (cs k) (al k)).length
theorem RI_len {d : pD} {cs : Nat → pC} {al : Nat → Nat} : ∀ k, (RI d cs al k).length = (RR d cs al k).length
  | 0 => rfl
  | k + 1 => by
    unfold RI RR
    rw [List.length_append, List.length_append, RI_len k, List.length_map, List.length_map, List.length_range]
theorem RI_get {d : pD} {cs : Nat → pC} {al : Nat → Nat} : ∀ k (r s S : Nat), (RR d cs al k)[r]? = some (s, S) → ∃ i, (RI d cs al k)[r]? = some (s, i) ∧ (RLs d (cs s) (al s))[i]? = some S
  | 0, r, s, S, h => by simp [RR] at h
  | k + 1, r, s, S, h => by
    unfold RR at h
    unfold RI
    rcases Nat.lt_or_ge r (RR d cs al k).length with q | q
    · rw [List.getElem?_append_left q] at h
      obtain ⟨i, h1, h2⟩ := RI_get k r s S h
      exact ⟨i, by rw [List.getElem?_append_left (by rw [RI_len]; exact q)]; exact h1, h2⟩
    · rw [List.getElem?_append_right q, List.getElem?_map] at h
      refine ⟨r - (RR d cs al k).length, ?_, ?_⟩
      · rw [List.getElem?_append_right (by rw [RI_len]; exact q), RI_len, List.getElem?_map]
        cases hg : (RLs d (cs k) (al k))[r - (RR d cs al k).length]? with
        | none => rw [hg] at h; cases h
        | some T =>
          rw [hg] at h
          cases h
          have := (List.getElem?_eq_some_iff.mp hg).1
          rw [List.getElem?_range this]; rfl
      · cases hg : (RLs d (cs k) (al k))[r - (RR d cs al k).length]? with
        | none => rw [hg] at h; cases h
        | some T => rw [hg] at h; cases h; exact hg
theorem RR_mono {d : pD} {cs : Nat → pC} {al : Nat → Nat} {k n : Nat} (h : k ≤ n) : (RR d cs al k).length ≤ (RR d cs al n).length := by
  obtain ⟨L, hL⟩ := RR_pre (d := d) (cs := cs) (al := al) n h
  rw [hL, List.length_append]; omega
theorem RR_s {d : pD} {cs : Nat → pC} {al : Nat → Nat} (k : Nat) : (RR d cs al (k + 1)).length = (RR d cs al k).length + (RLs d (cs k) (al k)).length := by
  show (RR d cs al k ++ _).length = _
  rw [List.length_append, List.length_map]
/-- what is known of the sets of stops -/
def AlOK (d : pD) (cs : Nat → pC) (al : Nat → Nat) (ns : Nat) : Prop := (∀ s, al s < 1024) ∧ (RR d cs al ns).length ≤ 10 ∧ ∀ s i, (al s).testBit i = true → i < d.1
theorem AlOK_of {d : pD} {cs : Nat → pC} {ns : Nat} (f : Nat → Int32) (h10 : d.1 ≤ 10) (hns : ns ≤ 4) : AlOK d cs (fun s => setOf f (nI s) d.1) ns := by
  have hal : ∀ s, setOf f (nI s) d.1 < 1024 := fun s => al_lt h10
  refine ⟨hal, ?_, fun s i h => ?_⟩
  · have a1 := RR_len (d := d) (cs := cs) (al := fun s => setOf f (nI s) d.1) hal ns
    have a2 := sumC_card f d.1 ns (by omega) 10
    exact Nat.le_trans a1 (Nat.le_trans a2 (by omega))
  · have h2 : (setOf f (nI s) d.1).testBit i = true := h
    rw [setOf_tb] at h2; simp at h2; exact h2.1
/-- b's bell must ring so many minutes behind a's -/
def gapF (d : pD) (cs : Nat → pC) (sl : Int32) (L : List (Nat × Nat)) (a b : Nat) : Int32 := wy1 d cs (rt0 L a).1 (rt0 L b) + sl + lS d (cs (rt0 L b).1) (rt0 L b).2
/-- the class's rows of routes -/
def FlR (I : Nat → Nat → Int32) (L : List (Nat × Nat)) : Prop := ∀ (r s i : Nat), L[r]? = some (s, i) → I 55 r = nI s ∧ I 57 r = nI i
def PCs (I : Nat → Nat → Int32) (ns : Nat) (d : pD) (cs : Nat → pC) (al : Nat → Nat) : Prop := ∀ s, s < ns → PlC I s d (cs s) (al s)
def FlC (I : Nat → Nat → Int32) (ns : Nat) (d : pD) (cs : Nat → pC) (al : Nat → Nat) (sl : Int32) : Prop := I 54 0 = (if allH d cs al ns then 1 else 0) ∧ I 54 1 = nI (RR d cs al ns).length ∧ I 54 2 = nI (mxL d cs al ns) ∧ FlR I (RI d cs al ns) ∧ (allH d cs al ns = true → ∀ a b, a < (RR d cs al ns).length → b < (RR d cs al ns).length → I (59 + a) b = gapF d cs sl (RR d cs al ns) a b)
theorem FlC_fr {I J : Nat → Nat → Int32} {ns : Nat} {d : pD} {cs : Nat → pC} {al : Nat → Nat} {sl : Int32} (hA : AlOK d cs al ns) (h : FlC I ns d cs al sl) (hq : ∀ q i, (q = 54 ∧ i < 3) ∨ q = 55 ∨ q = 57 ∨ (59 ≤ q ∧ q < 69) → J q i = I q i) : FlC J ns d cs al sl :=
  ⟨(hq _ _ (by omega)).trans h.1, (hq _ _ (by omega)).trans h.2.1, (hq _ _ (by omega)).trans h.2.2.1, fun r s i hr => ⟨(hq _ _ (by omega)).trans (h.2.2.2.1 r s i hr).1, (hq _ _ (by omega)).trans (h.2.2.2.1 r s i hr).2⟩, fun ha a b h1 h2 => (hq _ _ (by have := hA.2.1; omega)).trans (h.2.2.2.2 ha a b h1 h2)⟩
theorem PCs_fr {I J : Nat → Nat → Int32} {ns : Nat} {d : pD} {cs : Nat → pC} {al : Nat → Nat} (hns : ns ≤ 4) (h : PCs I ns d cs al) (hq : ∀ q i, 28 ≤ q ∧ q < 44 ∧ ¬ (q % 4 = 0 ∧ i < 3) → J q i = I q i) : PCs J ns d cs al := fun s hs => PlC_fr (h s hs) (fun q i hh => hq q i (by omega))
/-- a route by its number: its school, its place there, its stops -/
theorem FlR_get {I : Nat → Nat → Int32} {ns : Nat} {d : pD} {cs : Nat → pC} {al : Nat → Nat} (hA : AlOK d cs al ns) (h : FlR I (RI d cs al ns)) {r s S : Nat} (hr : (RR d cs al ns)[r]? = some (s, S)) : ∃ i, i < 10 ∧ r < 10 ∧ s < ns ∧ I 55 r = nI s ∧ I 57 r = nI i ∧ (RLs d (cs s) (al s))[i]? = some S ∧ S ≠ 0 ∧ S < 1024 ∧ (∀ g, S.testBit g = true → g < d.1) ∧ rS d (cs s) S = true ∧ bdiff S (al s) = 0 := by
  obtain ⟨i, h1, h2⟩ := RI_get ns r s S hr
  obtain ⟨m1, m2, m3, m4, m5, m6, m7⟩ := RR_mem hA.1 ns s S (List.mem_of_getElem? hr)
  have hr2 := (List.getElem?_eq_some_iff.mp hr).1
  have hi2 := (List.getElem?_eq_some_iff.mp h2).1
  have hc := RLs_card (d := d) (c := cs s) (hA.1 s)
  have hb := cdB_bound (al s) 10
  exact ⟨i, by omega, by have := hA.2.1; omega, m1, (h r s i h1).1, (h r s i h1).2, h2, m2, m3, fun g hg => hA.2.2 s g (bsub_tb m4 hg), m5, m4⟩
theorem fs1_some {d : pD} {c : pC} {S : Nat} (h0 : S ≠ 0) (hb : ∀ i, S.testBit i = true → i < d.1) : nxt d c S none = some (fs1 d c S) ∧ fs1 d c S < d.1 := by
  obtain ⟨g, h1, h2, h3⟩ := nxt_ex (d := d) (c := c) (bh := none) h0 hb
  have : fs1 d c S = g := by unfold fs1; rw [h1]; rfl
  rw [this]; exact ⟨h1, h3⟩
/-- no route has more stops than fit, and all places lie in the row -/
theorem bgn_cap {d : pD} {c : pC} : ∀ n A, A < 1024 → (pS d c A).1 < 1000000 → bgn (rtL (rS d c) (lS d c) n A) (rtL (rS d c) (lS d c) n A).length ≤ cdB A 10
  | 0, A, _, _ => Nat.zero_le _
  | n + 1, A, hA, hp => by
    unfold rtL
    by_cases h0 : A = 0
    · rw [if_pos h0]; exact Nat.zero_le _
    · rw [if_neg h0]
      obtain ⟨m, hm⟩ := pB_lt hA hp
      obtain ⟨hc, m', e1, e2, e3⟩ := hm.2.2 h0
      obtain ⟨c1, c2, c3⟩ := cdP_1 hc
      have hs := cdB_split c1 10
      have hb := cdB_bound A 10
      have hle := bdiff_le A (pB (rS d c) (lS d c) A).2.2
      have ih := bgn_cap (d := d) (c := c) n (bdiff A (pB (rS d c) (lS d c) A).2.2) (by omega) (by rw [show (pS d c (bdiff A (pB (rS d c) (lS d c) A).2.2)).1 = nI m' from e2]; exact nI_far (by have := hm.1; omega))
      show cdB (pB (rS d c) (lS d c) A).2.2 10 + bgn (rtL (rS d c) (lS d c) n (bdiff A (pB (rS d c) (lS d c) A).2.2)) (rtL (rS d c) (lS d c) n (bdiff A (pB (rS d c) (lS d c) A).2.2)).length ≤ cdB A 10
      omega
theorem bgn_RLs {d : pD} {c : pC} {A : Nat} (hA : A < 1024) : bgn (RLs d c A) (RLs d c A).length ≤ 10 := by
  unfold RLs
  by_cases h : (pS d c A).1 < 1000000
  · rw [if_pos h]
    have := bgn_cap 10 A hA h
    have := cdB_bound A 10
    omega
  · rw [if_neg h]; exact Nat.zero_le _
theorem bgn_le {d : pD} {c : pC} {A i S : Nat} (hA : A < 1024) (h : (RLs d c A)[i]? = some S) : bgn (RLs d c A) i + cdB S 10 ≤ 10 := by
  have h1 := bgn_s _ _ h
  have hi := (List.getElem?_eq_some_iff.mp h).1
  have h2 := bgn_mono (L := RLs d c A) (i := i + 1) (RLs d c A).length (by omega) (Nat.le_refl _)
  have h3 := bgn_RLs (d := d) (c := c) hA
  omega
