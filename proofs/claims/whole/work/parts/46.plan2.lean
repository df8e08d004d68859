/-! ===== what the best partings are ===== -/
def cdB (S : Nat) : Nat → Nat
  | 0 => 0
  | k + 1 => cdB S k + (if S.testBit k then 1 else 0)
theorem cdB_le {S P : Nat} : ∀ k, cdB (bdiff S P) k ≤ cdB S k
  | 0 => Nat.le_refl _
  | k + 1 => by
    have h := cdB_le (S := S) (P := P) k
    simp only [cdB, bdiff_tb]
    by_cases hs : S.testBit k = true
    · by_cases hp : P.testBit k = true
      · simp [hs, hp]; omega
      · simp [hs, hp]; omega
    · simp [hs]; omega
theorem cdB_lt {S P l : Nat} (hs : S.testBit l = true) (hp : P.testBit l = true) : ∀ k, l < k → cdB (bdiff S P) k + 1 ≤ cdB S k
  | 0, h => absurd h (by omega)
  | k + 1, h => by
    by_cases e : l = k
    · subst e
      have := cdB_le (S := S) (P := P) l
      simp only [cdB, bdiff_tb, hs, hp]
      simp
      omega
    · have ih := cdB_lt hs hp k (by omega)
      simp only [cdB, bdiff_tb]
      by_cases hs2 : S.testBit k = true
      · by_cases hp2 : P.testBit k = true
        · simp [hs2, hp2]; omega
        · simp [hs2, hp2]; omega
      · simp [hs2]; omega
theorem cdB_bound (S : Nat) : ∀ k, cdB S k ≤ k
  | 0 => Nat.le_refl _
  | k + 1 => by
    have := cdB_bound S k
    simp only [cdB]
    split <;> omega
theorem cdP_1 {rt : Nat → Bool} {S P : Nat} (h : cdP rt S P = true) : bdiff P S = 0 ∧ P.testBit (loI S) = true ∧ rt P = true := by
  unfold cdP at h
  simp only [Bool.and_eq_true, decide_eq_true_eq] at h
  exact ⟨h.1.1, h.1.2, h.2⟩
/-- a parting that is one: its parts -/
def goodP (rt : Nat → Bool) (le : Nat → Int32) (S : Nat) (a : pP) (m : Nat) : Prop := m ≤ cdB S 10 ∧ a.1 = nI m ∧ (S ≠ 0 → cdP rt S a.2.2 = true ∧ ∃ m', m = m' + 1 ∧ (pB rt le (bdiff S a.2.2)).1 = nI m' ∧ a.2.1 = (pB rt le (bdiff S a.2.2)).2.1 + le a.2.2)
theorem nI_far {m : Nat} (h : m ≤ 10) : nI m < 1000000 := nI_lt (b := 1000000) (by omega) (by decide)
theorem pB_good {rt : Nat → Bool} {le : Nat → Int32} : ∀ S, S < 1024 → (pB rt le S).1 = 1000000 ∨ ∃ m, goodP rt le S (pB rt le S) m := by
  intro S
  induction S using Nat.strongRecOn with
  | _ S ih =>
    intro hS
    by_cases h0 : S = 0
    · subst h0
      exact Or.inr ⟨0, Nat.zero_le _, by rw [pB_0]; rfl, fun q => absurd rfl q⟩
    · have hl := loI_tb S hS h0
      rw [pB_eq h0 hS]
      have key : ∀ k, (pK rt le S k).1 = 1000000 ∨ ∃ m, goodP rt le S (pK rt le S k) m := by
        intro k
        induction k with
        | zero => exact Or.inl rfl
        | succ k ihk =>
          rw [pK_s]
          by_cases hc : cdP rt S k = true
          · rw [if_pos hc]
            have hlow := (cdP_1 hc).2.1
            have hlt := bdiff_lt2 hl.1 hlow
            have hcard := cdB_lt hl.1 hlow 10 hl.2.1
            unfold stP
            by_cases hr : (pB rt le (bdiff S k)).1 < 1000000
            · rw [if_pos hr]
              split
              · exact ihk
              · rcases ih (bdiff S k) hlt (by omega) with q | ⟨m', q⟩
                · rw [q] at hr; exact absurd hr (by decide)
                · refine Or.inr ⟨m' + 1, ?_, ?_, fun _ => ⟨hc, m', rfl, q.2.1, rfl⟩⟩
                  · have := q.1; omega
                  · rw [q.2.1]; exact nI_1 m'
            · rw [if_neg hr]; exact ihk
          · rw [if_neg hc]; exact ihk
      exact key (S + 1)
theorem pB_lt {rt : Nat → Bool} {le : Nat → Int32} {S : Nat} (hS : S < 1024) (h : (pB rt le S).1 < 1000000) : ∃ m, goodP rt le S (pB rt le S) m := by
  rcases pB_good (rt := rt) (le := le) S hS with q | q
  · rw [q] at h; exact absurd h (by decide)
  · exact q
theorem pB_ge {rt : Nat → Bool} {le : Nat → Int32} {S : Nat} (hS : S < 1024) (h : ¬ (pB rt le S).1 < 1000000) : (pB rt le S).1 = 1000000 := by
  rcases pB_good (rt := rt) (le := le) S hS with q | ⟨m, q⟩
  · exact q
  · have := cdB_bound S 10
    exact absurd (by rw [q.2.1]; exact nI_far (by have := q.1; omega)) h
theorem goodP_lt {rt : Nat → Bool} {le : Nat → Int32} {S m : Nat} (h : goodP rt le S (pB rt le S) m) : (pB rt le S).1 < 1000000 := by
  have := cdB_bound S 10
  rw [h.2.1]; exact nI_far (by have := h.1; omega)
/-- the routes of a parting, one behind the other -/
def rtL (rt : Nat → Bool) (le : Nat → Int32) : Nat → Nat → List Nat
  | 0, _ => []
  | n + 1, S => if S = 0 then [] else (pB rt le S).2.2 :: rtL rt le n (bdiff S (pB rt le S).2.2)
theorem rtL_len {rt : Nat → Bool} {le : Nat → Int32} : ∀ n S m, S < 1024 → m ≤ n → goodP rt le S (pB rt le S) m → (rtL rt le n S).length = m
  | 0, S, m, hS, hm, h => by
    have : m = 0 := by omega
    subst this; rfl
  | n + 1, S, m, hS, hm, h => by
    unfold rtL
    by_cases h0 : S = 0
    · subst h0
      rw [if_pos rfl]
      have := h.2.1
      rw [pB_0] at this
      have e : nI 0 = nI m := this
      have := h.1
      have := cdB_bound 0 10
      show 0 = m
      exact ((nI_eq (by omega) (by omega)).mp e)
    · rw [if_neg h0]
      obtain ⟨hc, m', e1, e2, e3⟩ := h.2.2 h0
      have hl := loI_tb S hS h0
      have hlt := bdiff_lt2 hl.1 (cdP_1 hc).2.1
      have hlt9 : (pB rt le (bdiff S (pB rt le S).2.2)).1 < 1000000 := by
        rw [e2]; have := h.1; have := cdB_bound S 10; exact nI_far (by omega)
      obtain ⟨m2, h2⟩ := pB_lt (by omega) hlt9
      have em : m2 = m' := by
        have := h2.2.1.symm.trans e2
        have := h2.1; have := cdB_bound (bdiff S (pB rt le S).2.2) 10; have := h.1; have := cdB_bound S 10
        exact (nI_eq (by omega) (by omega)).mp ‹_›
      subst em
      rw [List.length_cons, rtL_len n _ m2 (by omega) (by omega) h2]
      omega
