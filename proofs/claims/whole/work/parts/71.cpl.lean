/-! ===== THE CLASS'S PLANNER: bounds, one number for routes and minutes ===== -/
theorem i32_0 : (0 : Int32).toInt = 0 := rfl
theorem i32_M : (1000000 : Int32).toInt = 1000000 := rfl
theorem i32_1 : (1 : Int32).toInt = 1 := rfl
theorem i32_T : (10000 : Int32).toInt = 10000 := rfl
theorem minF_b {S : Nat} {w : Nat → Int32} {v0 : Int32} (h0 : 0 ≤ v0.toInt) : ∀ n, (∀ g, g < n → S.testBit g = true → 0 ≤ (w g).toInt) → 0 ≤ (minF S w v0 n).toInt ∧ (minF S w v0 n).toInt ≤ v0.toInt
  | 0, _ => ⟨h0, Int.le_refl _⟩
  | n + 1, h => by
    obtain ⟨a, b⟩ := minF_b h0 n (fun g hg => h g (by omega))
    rw [minF_s]
    split
    · rename_i hb
      have := h n (by omega) hb
      rw [mn_toInt]; omega
    · exact ⟨a, b⟩
/-- distances between 0 and FAR -/
def d01 (d : pD) : Prop := t01 d.2.2.1
theorem finV_i {v : Int32} (h0 : 0 ≤ v.toInt) (h1 : v.toInt ≤ 1000000) : (finV v).toInt = min 1000000 (v.toInt + 1) := by
  unfold finV
  split
  · rename_i h; rw [Int32.le_iff_toInt_le, i32_M] at h; rw [i32_M]; omega
  · rename_i h; rw [Int32.le_iff_toInt_le, i32_M] at h; rw [i_add (by rw [i32_1]; omega) (by rw [i32_1]; omega), i32_1]; omega
theorem finV_mn {v : Int32} (h0 : 0 ≤ v.toInt) (h1 : v.toInt ≤ 1000000) : mn (1 + v) 1000000 = finV v := by
  apply Int32.toInt_inj.mp
  rw [finV_i h0 h1, mn_toInt, i_add (by rw [i32_1]; omega) (by rw [i32_1]; omega), i32_1, i32_M]
  omega
theorem fS_b {d : pD} {c : pC} (hd : d01 d) : ∀ S f, 0 ≤ (fS d c S f).toInt ∧ (fS d c S f).toInt ≤ 1000000 := by
  intro S
  induction S using Nat.strongRecOn with
  | _ S ih =>
    intro f
    by_cases hb : S.testBit f = true
    · have hlt := bdiff_lt hb
      show 0 ≤ (fB _ _ _ _ _).toInt ∧ (fB _ _ _ _ _).toInt ≤ 1000000
      rw [fB_eq hb]
      have hv : 0 ≤ (if bdiff S (2 ^ f) = 0 then d.2.2.1 (d.2.1 f) c.1 else 1000000 : Int32).toInt ∧ (if bdiff S (2 ^ f) = 0 then d.2.2.1 (d.2.1 f) c.1 else 1000000 : Int32).toInt ≤ 1000000 := by
        split
        · exact hd _ _
        · rw [i32_M]; omega
      obtain ⟨a, b⟩ := minF_b (S := bdiff S (2 ^ f)) (w := fun g => d.2.2.1 (d.2.1 f) (d.2.1 g) + fS d c (bdiff S (2 ^ f)) g) hv.1 d.1 (fun g _ _ => by
        have h1 := hd (d.2.1 f) (d.2.1 g)
        have h2 := ih _ hlt g
        rw [i_add (by omega) (by omega)]; omega)
      rw [finV_i a (by omega)]
      omega
    · show 0 ≤ (fB _ _ _ _ _).toInt ∧ (fB _ _ _ _ _).toInt ≤ 1000000
      rw [fB, dif_neg hb, i32_M]; omega
/-- the minutes behind the first stop, before the stop's own minute -/
def preF (d : pD) (c : pC) (S f : Nat) : Int32 := minF (bdiff S (2 ^ f)) (fun g => d.2.2.1 (d.2.1 f) (d.2.1 g) + fS d c (bdiff S (2 ^ f)) g) (if bdiff S (2 ^ f) = 0 then d.2.2.1 (d.2.1 f) c.1 else 1000000) d.1
theorem fS_pre {d : pD} {c : pC} {S f : Nat} (h : S.testBit f = true) : fS d c S f = finV (preF d c S f) := fB_eq h
theorem preF_b {d : pD} {c : pC} (hd : d01 d) (S f : Nat) : 0 ≤ (preF d c S f).toInt ∧ (preF d c S f).toInt ≤ 1000000 := by
  have hv : 0 ≤ (if bdiff S (2 ^ f) = 0 then d.2.2.1 (d.2.1 f) c.1 else 1000000 : Int32).toInt ∧ (if bdiff S (2 ^ f) = 0 then d.2.2.1 (d.2.1 f) c.1 else 1000000 : Int32).toInt ≤ 1000000 := by
    split
    · exact hd _ _
    · rw [i32_M]; omega
  obtain ⟨a, b⟩ := minF_b (S := bdiff S (2 ^ f)) (w := fun g => d.2.2.1 (d.2.1 f) (d.2.1 g) + fS d c (bdiff S (2 ^ f)) g) hv.1 d.1 (fun g _ _ => by
    have h1 := hd (d.2.1 f) (d.2.1 g)
    have h2 := fS_b (c := c) hd (bdiff S (2 ^ f)) g
    rw [i_add (by omega) (by omega)]; omega)
  exact ⟨a, by unfold preF; omega⟩
theorem lS_b {d : pD} {c : pC} (hd : d01 d) (S : Nat) : 0 ≤ (lS d c S).toInt ∧ (lS d c S).toInt ≤ 1000000 := by
  obtain ⟨a, b⟩ := minF_b (S := S) (w := fS d c S) (v0 := 1000000) (by rw [i32_M]; omega) d.1 (fun g _ _ => (fS_b hd S g).1)
  exact ⟨a, b⟩
theorem rS_le {d : pD} {c : pC} {S : Nat} (h : rS d c S = true) : (lS d c S).toInt ≤ c.2.toInt := by
  have h : (decide (lS d c S ≤ c.2) && decide (sumB S d.2.2.2.1 d.1 ≤ d.2.2.2.2)) = true := h
  rw [Bool.and_eq_true, decide_eq_true_eq] at h
  exact Int32.le_iff_toInt_le.mp h.1
theorem pS_v {d : pD} {c : pC} (hd : d01 d) (hc : c.2.toInt ≤ 90) : ∀ S, S < 1024 → (pS d c S).1 < 1000000 → ∃ m, goodP (rS d c) (lS d c) S (pS d c S) m ∧ 0 ≤ (pS d c S).2.1.toInt ∧ (pS d c S).2.1.toInt ≤ 90 * m := by
  intro S
  induction S using Nat.strongRecOn with
  | _ S ih =>
    intro hS hp
    obtain ⟨m, hm⟩ := pB_lt hS hp
    refine ⟨m, hm, ?_⟩
    by_cases h0 : S = 0
    · subst h0
      rw [show pS d c 0 = (0, 0, 0) from pB_0]
      show 0 ≤ (0 : Int32).toInt ∧ (0 : Int32).toInt ≤ _
      rw [i32_0]; omega
    · obtain ⟨hcd, m', e1, e2, e3⟩ : cdP (rS d c) S (pS d c S).2.2 = true ∧ ∃ m', m = m' + 1 ∧ (pS d c (bdiff S (pS d c S).2.2)).1 = nI m' ∧ (pS d c S).2.1 = (pS d c (bdiff S (pS d c S).2.2)).2.1 + lS d c (pS d c S).2.2 := hm.2.2 h0
      obtain ⟨c1, c2, c3⟩ := cdP_1 hcd
      have hlt := bdiff_lt2 (loI_tb S hS h0).1 c2
      have hcb := cdB_bound S 10
      have hm10 := hm.1
      obtain ⟨m2, g1, g2, g3⟩ := ih (bdiff S (pS d c S).2.2) hlt (by omega) (by rw [e2]; exact nI_far (by omega))
      have em : m2 = m' := by
        have a := g1.2.1
        have : nI m2 = nI m' := a.symm.trans e2
        have := g1.1
        have := cdB_bound (bdiff S (pS d c S).2.2) 10
        exact (nI_eq (by omega) (by omega)).mp ‹nI m2 = nI m'›
      subst em
      have b1 := lS_b (c := c) hd (pS d c S).2.2
      have b2 := rS_le c3
      have e3' : (pS d c S).2.1 = (pS d c (bdiff S (pS d c S).2.2)).2.1 + lS d c (pS d c S).2.2 := e3
      rw [e3', i_add (by omega) (by omega)]
      omega
/-- routes and minutes of the best parting in one number -/
def vC (d : pD) (c : pC) (S : Nat) : Int32 := if (pS d c S).1 < 1000000 then 10000 * (pS d c S).1 + (pS d c S).2.1 else 1000000
theorem vC_i {d : pD} {c : pC} (hd : d01 d) (hc : c.2.toInt ≤ 90) {S : Nat} (hS : S < 1024) (hp : (pS d c S).1 < 1000000) : ∃ m : Nat, m ≤ 10 ∧ (pS d c S).1 = nI m ∧ 0 ≤ (pS d c S).2.1.toInt ∧ (pS d c S).2.1.toInt ≤ 90 * m ∧ (vC d c S).toInt = 10000 * m + (pS d c S).2.1.toInt := by
  obtain ⟨m, h1, h2, h3⟩ := pS_v hd hc S hS hp
  have hm : m ≤ 10 := Nat.le_trans h1.1 (cdB_bound S 10)
  refine ⟨m, hm, h1.2.1, h2, h3, ?_⟩
  unfold vC
  rw [if_pos hp, show (pS d c S).1 = nI m from h1.2.1, show (10000 : Int32) * nI m = nI (10000 * m) by rw [show (10000 : Int32) = nI 10000 from rfl, pk_mul], i_add (by rw [nI_toInt (by omega)]; omega) (by rw [nI_toInt (by omega)]; omega), nI_toInt (by omega)]
  omega
/-- P can be the route with the lowest stop; what the parting comes to -/
def vd (d : pD) (c : pC) (S P : Nat) : Prop := cdP (rS d c) S P = true ∧ (pS d c (bdiff S P)).1 < 1000000
def ky (d : pD) (c : pC) (S P : Nat) : Int := 10000 + (vC d c (bdiff S P)).toInt + (lS d c P).toInt
theorem pK_best {d : pD} {c : pC} (hd : d01 d) (hc : c.2.toInt ≤ 90) {S : Nat} (hS : S < 1024) (h0 : S ≠ 0) : ∀ k, ((pK (rS d c) (lS d c) S k).1 = 1000000 ∧ ∀ P, P < k → ¬ vd d c S P) ∨ (vd d c S (pK (rS d c) (lS d c) S k).2.2 ∧ (pK (rS d c) (lS d c) S k).2.2 < k ∧ (∃ m : Nat, 1 ≤ m ∧ m ≤ 11 ∧ (pK (rS d c) (lS d c) S k).1 = nI m ∧ 0 ≤ (pK (rS d c) (lS d c) S k).2.1.toInt ∧ (pK (rS d c) (lS d c) S k).2.1.toInt ≤ 990 ∧ 10000 * m + (pK (rS d c) (lS d c) S k).2.1.toInt = ky d c S (pK (rS d c) (lS d c) S k).2.2) ∧ (∀ P, P < k → vd d c S P → ky d c S (pK (rS d c) (lS d c) S k).2.2 ≤ ky d c S P) ∧ ∀ P, P < (pK (rS d c) (lS d c) S k).2.2 → vd d c S P → ky d c S (pK (rS d c) (lS d c) S k).2.2 < ky d c S P) := by
  have hl := loI_tb S hS h0
  intro k
  induction k with
  | zero => exact Or.inl ⟨rfl, fun P hP => absurd hP (by omega)⟩
  | succ k ih =>
    rw [pK_s]
    have same : ¬ vd d c S k → ((pK (rS d c) (lS d c) S k).1 = 1000000 ∧ ∀ P, P < k + 1 → ¬ vd d c S P) ∨ (vd d c S (pK (rS d c) (lS d c) S k).2.2 ∧ (pK (rS d c) (lS d c) S k).2.2 < k + 1 ∧ (∃ m : Nat, 1 ≤ m ∧ m ≤ 11 ∧ (pK (rS d c) (lS d c) S k).1 = nI m ∧ 0 ≤ (pK (rS d c) (lS d c) S k).2.1.toInt ∧ (pK (rS d c) (lS d c) S k).2.1.toInt ≤ 990 ∧ 10000 * m + (pK (rS d c) (lS d c) S k).2.1.toInt = ky d c S (pK (rS d c) (lS d c) S k).2.2) ∧ (∀ P, P < k + 1 → vd d c S P → ky d c S (pK (rS d c) (lS d c) S k).2.2 ≤ ky d c S P) ∧ ∀ P, P < (pK (rS d c) (lS d c) S k).2.2 → vd d c S P → ky d c S (pK (rS d c) (lS d c) S k).2.2 < ky d c S P) := by
      intro hno
      rcases ih with ⟨h1, h2⟩ | ⟨h1, h2, h3, h4, h5⟩
      · refine Or.inl ⟨h1, fun P hP hv => ?_⟩
        by_cases e : P = k
        · subst e; exact hno hv
        · exact h2 P (by omega) hv
      · refine Or.inr ⟨h1, by omega, h3, fun P hP hv => ?_, h5⟩
        by_cases e : P = k
        · subst e; exact absurd hv hno
        · exact h4 P (by omega) hv
    by_cases hcd : cdP (rS d c) S k = true
    · rw [if_pos hcd]
      obtain ⟨c1, c2, c3⟩ := cdP_1 hcd
      have hlt := bdiff_lt2 hl.1 c2
      unfold stP
      by_cases hr : (pB (rS d c) (lS d c) (bdiff S k)).1 < 1000000
      · rw [if_pos hr]
        have hv : vd d c S k := ⟨hcd, hr⟩
        obtain ⟨m, hm, r1, r2, r3, r4⟩ := vC_i hd hc (S := bdiff S k) (by omega) hr
        have b1 := lS_b (c := c) hd k
        have b2 := rS_le c3
        have hkk : ky d c S k = 10000 * (m + 1) + ((pS d c (bdiff S k)).2.1.toInt + (lS d c k).toInt) := by unfold ky; rw [r4]; omega
        have hsum : ((pS d c (bdiff S k)).2.1 + lS d c k).toInt = (pS d c (bdiff S k)).2.1.toInt + (lS d c k).toInt := i_add (by omega) (by omega)
        have hn1 : (pB (rS d c) (lS d c) (bdiff S k)).1 + 1 = nI (m + 1) := by rw [show (pB (rS d c) (lS d c) (bdiff S k)).1 = nI m from r1]; exact nI_1 m
        have new : (∀ P, P < k → vd d c S P → ky d c S k < ky d c S P) → ((nI (m + 1), (pS d c (bdiff S k)).2.1 + lS d c k, k) : pP).1 = 1000000 ∧ (∀ P, P < k + 1 → ¬ vd d c S P) ∨ (vd d c S k ∧ k < k + 1 ∧ (∃ m2 : Nat, 1 ≤ m2 ∧ m2 ≤ 11 ∧ nI (m + 1) = nI m2 ∧ 0 ≤ ((pS d c (bdiff S k)).2.1 + lS d c k).toInt ∧ ((pS d c (bdiff S k)).2.1 + lS d c k).toInt ≤ 990 ∧ 10000 * m2 + ((pS d c (bdiff S k)).2.1 + lS d c k).toInt = ky d c S k) ∧ (∀ P, P < k + 1 → vd d c S P → ky d c S k ≤ ky d c S P) ∧ ∀ P, P < k → vd d c S P → ky d c S k < ky d c S P) := by
          intro hall
          refine Or.inr ⟨hv, by omega, ⟨m + 1, by omega, by omega, rfl, ?_, ?_, ?_⟩, fun P hP hvP => ?_, hall⟩
          · rw [hsum]; omega
          · rw [hsum]; omega
          · rw [hsum, hkk]; omega
          · by_cases e : P = k
            · subst e; exact Int.le_refl _
            · exact Int.le_of_lt (hall P (by omega) hvP)
        rw [hn1]
        rcases ih with ⟨h1, h2⟩ | ⟨h1, h2, ⟨m2, g1, g2, g3, g4, g5, g6⟩, h4, h5⟩
        · rw [h1, if_neg]
          · exact new (fun P hP hvP => absurd hvP (h2 P hP))
          · have hx : nI (m + 1) < 1000000 := nI_lt (b := 1000000) (by omega) (by decide)
            rintro (q | ⟨q, -⟩)
            · exact absurd (Int32.lt_trans hx q) (fun w => Int32.lt_irrefl w)
            · rw [q] at hx; exact Int32.lt_irrefl hx
        · rw [g3]
          by_cases hq : nI m2 < nI (m + 1) ∨ (nI (m + 1) = nI m2 ∧ ¬ (pB (rS d c) (lS d c) (bdiff S k)).2.1 + lS d c k < (pK (rS d c) (lS d c) S k).2.1)
          · rw [if_pos hq]
            have hle : ky d c S (pK (rS d c) (lS d c) S k).2.2 ≤ ky d c S k := by
              rcases hq with q | ⟨q1, q2⟩
              · have := (nI_ltI (by omega) (by omega)).mp q
                rw [← g6, hkk]; omega
              · have e := (nI_eq (by omega) (by omega)).mp q1
                rw [Int32.lt_iff_toInt_lt] at q2
                have q2' : ¬ ((pS d c (bdiff S k)).2.1 + lS d c k).toInt < (pK (rS d c) (lS d c) S k).2.1.toInt := q2
                rw [hsum] at q2'
                rw [← g6, hkk]; omega
            refine Or.inr ⟨h1, by omega, ⟨m2, g1, g2, g3, g4, g5, g6⟩, fun P hP hvP => ?_, h5⟩
            by_cases e : P = k
            · subst e; exact hle
            · exact h4 P (by omega) hvP
          · rw [if_neg hq]
            refine new (fun P hP hvP => ?_)
            have hlt2 : ky d c S k < ky d c S (pK (rS d c) (lS d c) S k).2.2 := by
              have n1 : ¬ nI m2 < nI (m + 1) := fun q => hq (Or.inl q)
              have n1' : ¬ m2 < m + 1 := fun q => n1 (nI_lt q (by omega))
              by_cases e : m + 1 = m2
              · have n2 : ((pS d c (bdiff S k)).2.1 + lS d c k) < (pK (rS d c) (lS d c) S k).2.1 := Classical.byContradiction fun q => hq (Or.inr ⟨by rw [e], q⟩)
                rw [Int32.lt_iff_toInt_lt, hsum] at n2
                rw [← g6, hkk]; omega
              · rw [← g6, hkk]; omega
            have := h4 P hP hvP
            omega
      · rw [if_neg hr]
        exact same (fun q => hr q.2)
    · rw [if_neg hcd]
      exact same (fun q => hcd q.1)
theorem sm_dec : ∀ s, s < 1024 → ∀ j, j < 10 → s.testBit j = false → (s - 1).testBit j = true → ∀ i, i < j → (s - 1).testBit i = true := by decide +kernel
/-- the next lower subset -/
theorem sm_next {t s o : Nat} (hs : s < 1024) (ht : bdiff t o = 0) (hso : bdiff s o = 0) (hts : t < s) : t ≤ (s - 1) &&& o := by
  rcases Nat.lt_or_ge ((s - 1) &&& o) t with q | q
  · exfalso
    obtain ⟨i, h1, h2, h3⟩ := lt_hb _ _ q
    have ho := bsub_tb ht h1
    rw [Nat.testBit_and, ho, Bool.and_true] at h2
    have : s - 1 < t := by
      refine hb_lt (i := i) h2 h1 (fun j hj => ?_)
      have hq := h3 j hj
      rw [Nat.testBit_and] at hq
      cases hoj : o.testBit j with
      | true => rw [hoj, Bool.and_true] at hq; exact hq
      | false =>
        rw [hoj, Bool.and_false] at hq
        rw [← hq]
        cases hsj : (s - 1).testBit j with
        | false => rfl
        | true =>
          have hs0 : s.testBit j = false := Bool.eq_false_iff.mpr (fun w => by rw [bsub_tb hso w] at hoj; cases hoj)
          have hj10 : j < 10 := tb_big (m := 10) (show s - 1 < 2 ^ 10 by omega) hsj
          have := sm_dec s hs j hj10 hs0 hsj i hj
          rw [h2] at this; cases this
    omega
  · exact q
theorem xor_sub {S P : Nat} (h : bdiff P S = 0) : S ^^^ P = bdiff S P := by
  apply Nat.eq_of_testBit_eq
  intro i
  have a := bdiff_tb P S i
  rw [h, Nat.zero_testBit] at a
  rw [Nat.testBit_xor, bdiff_tb]
  revert a
  cases S.testBit i <;> cases P.testBit i <;> simp
theorem or_mono {t s l : Nat} (ht : t.testBit l = false) (hs : s.testBit l = false) (h : t < s) : 2 ^ l ||| t < 2 ^ l ||| s := by
  obtain ⟨i, h1, h2, h3⟩ := lt_hb _ _ h
  have hil : i ≠ l := fun e => by rw [e, hs] at h1; cases h1
  refine hb_lt (i := i) ?_ ?_ (fun j hj => ?_)
  · rw [Nat.testBit_or, Nat.testBit_two_pow, decide_eq_false (Ne.symm hil), h2]; rfl
  · rw [Nat.testBit_or, h1, Bool.or_true]
  · rw [Nat.testBit_or, Nat.testBit_or, h3 j hj]
