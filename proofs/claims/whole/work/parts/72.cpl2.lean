/-! ===== the class goes through the subsets from the greatest to the least ===== -/
def DSC (d : pD) (c : pC) (S y : Nat) (val : Int32) (pk : Nat) : Prop :=
  (val = 1000000 ∧ pk = 0 ∧ ∀ t, bdiff t (bdiff S (2 ^ loI S)) = 0 → y ≤ t → ¬ vd d c S (2 ^ loI S ||| t)) ∨
  (vd d c S pk ∧ ∃ t, bdiff t (bdiff S (2 ^ loI S)) = 0 ∧ y ≤ t ∧ pk = 2 ^ loI S ||| t ∧ val.toInt = ky d c S pk ∧ (∀ t', bdiff t' (bdiff S (2 ^ loI S)) = 0 → y ≤ t' → vd d c S (2 ^ loI S ||| t') → ky d c S pk ≤ ky d c S (2 ^ loI S ||| t')) ∧ ∀ t', bdiff t' (bdiff S (2 ^ loI S)) = 0 → y ≤ t' → t' < t → vd d c S (2 ^ loI S ||| t') → ky d c S pk < ky d c S (2 ^ loI S ||| t'))
theorem ky_b {d : pD} {c : pC} (hd : d01 d) (hc : c.2.toInt ≤ 90) {S P : Nat} (hS : S < 1024) (h : vd d c S P) : 0 ≤ ky d c S P ∧ ky d c S P ≤ 112000 := by
  have hle := bdiff_le S P
  obtain ⟨m, hm, r1, r2, r3, r4⟩ := vC_i hd hc (S := bdiff S P) (by omega) h.2
  have b1 := lS_b (c := c) hd P
  have b2 := rS_le (cdP_1 h.1).2.2
  unfold ky
  rw [r4]
  omega
theorem DSC_0 {d : pD} {c : pC} {S : Nat} : DSC d c S (bdiff S (2 ^ loI S) + 1) 1000000 0 :=
  Or.inl ⟨rfl, rfl, fun t h1 h2 => by have := bsub_le h1; omega⟩
theorem DSC_val {d : pD} {c : pC} (hd : d01 d) (hc : c.2.toInt ≤ 90) {S y : Nat} {val : Int32} {pk : Nat} (hS : S < 1024) (h : DSC d c S y val pk) : val.toInt ≤ 1000000 := by
  rcases h with ⟨h1, -⟩ | ⟨h1, t, -, -, -, h2, -⟩
  · rw [h1, i32_M]; omega
  · have := ky_b hd hc hS h1; omega
/-- down to the next subset there is none -/
theorem DSC_down {d : pD} {c : pC} {S t : Nat} {val : Int32} {pk : Nat} (ht : t < 1024) (ht0 : t ≠ 0) (hto : bdiff t (bdiff S (2 ^ loI S)) = 0) (h : DSC d c S t val pk) : DSC d c S (((t - 1) &&& bdiff S (2 ^ loI S)) + 1) val pk := by
  have key : ∀ t', bdiff t' (bdiff S (2 ^ loI S)) = 0 → ((t - 1) &&& bdiff S (2 ^ loI S)) + 1 ≤ t' → t ≤ t' := fun t' h1 h2 => by
    rcases Nat.lt_or_ge t' t with q | q
    · have := sm_next ht h1 hto q; omega
    · exact q
  rcases h with ⟨h1, h2, h3⟩ | ⟨h1, u, h2, h3, h4, h5, h6, h7⟩
  · exact Or.inl ⟨h1, h2, fun t' a b => h3 t' a (key t' a b)⟩
  · refine Or.inr ⟨h1, u, h2, ?_, h4, h5, fun t' a b => h6 t' a (key t' a b), fun t' a b => h7 t' a (key t' a b)⟩
    have : (t - 1) &&& bdiff S (2 ^ loI S) ≤ t - 1 := Nat.and_le_left
    omega
/-- one subset more, no route or nothing better -/
theorem DSC_no {d : pD} {c : pC} {S t : Nat} {val : Int32} {pk : Nat} (h : DSC d c S (t + 1) val pk) (hno : vd d c S (2 ^ loI S ||| t) → val.toInt < ky d c S (2 ^ loI S ||| t)) (hM : val = 1000000 → ¬ vd d c S (2 ^ loI S ||| t)) : DSC d c S t val pk := by
  rcases h with ⟨h1, h2, h3⟩ | ⟨h1, u, h2, h3, h4, h5, h6, h7⟩
  · refine Or.inl ⟨h1, h2, fun t' a b => ?_⟩
    by_cases e : t' = t
    · subst e; exact hM h1
    · exact h3 t' a (by omega)
  · refine Or.inr ⟨h1, u, h2, by omega, h4, h5, fun t' a b hv => ?_, fun t' a b hlt hv => ?_⟩
    · by_cases e : t' = t
      · subst e; have := hno hv; omega
      · exact h6 t' a (by omega) hv
    · by_cases e : t' = t
      · subst e; have := hno hv; omega
      · exact h7 t' a (by omega) hlt hv
theorem DSC_yes {d : pD} {c : pC} {S t : Nat} {val w : Int32} {pk : Nat} (h : DSC d c S (t + 1) val pk) (hto : bdiff t (bdiff S (2 ^ loI S)) = 0) (hv : vd d c S (2 ^ loI S ||| t)) (hw : w.toInt = ky d c S (2 ^ loI S ||| t)) (hle : w.toInt ≤ val.toInt) : DSC d c S t w (2 ^ loI S ||| t) := by
  refine Or.inr ⟨hv, t, hto, Nat.le_refl _, rfl, hw, fun t' a b hv' => ?_, fun t' a b hlt => absurd b (by omega)⟩
  by_cases e : t' = t
  · subst e; exact Int.le_refl _
  · rcases h with ⟨h1, h2, h3⟩ | ⟨h1, u, h2, h3, h4, h5, h6, h7⟩
    · exact absurd hv' (h3 t' a (by omega))
    · have := h6 t' a (by omega) hv'
      omega
theorem DSC_end {d : pD} {c : pC} (hd : d01 d) (hc : c.2.toInt ≤ 90) {S : Nat} {val : Int32} {pk : Nat} (hS : S < 1024) (h0 : S ≠ 0) (h : DSC d c S 0 val pk) : val = vC d c S ∧ ((pS d c S).1 < 1000000 → pk = (pS d c S).2.2) := by
  have hb := pK_best hd hc hS h0 (S + 1)
  rw [← show pS d c S = pK (rS d c) (lS d c) S (S + 1) from pB_eq h0 hS] at hb
  have dec : ∀ P, vd d c S P → bdiff (bdiff P (2 ^ loI S)) (bdiff S (2 ^ loI S)) = 0 ∧ 2 ^ loI S ||| bdiff P (2 ^ loI S) = P ∧ P < S + 1 := fun P hv => by
    obtain ⟨c1, c2, c3⟩ := cdP_1 hv.1
    refine ⟨?_, ?_, by have := bsub_le c1; omega⟩
    · apply Nat.eq_of_testBit_eq
      intro i
      rw [Nat.zero_testBit, bdiff_tb, bdiff_tb, bdiff_tb]
      have a := bdiff_tb P S i
      rw [c1, Nat.zero_testBit] at a
      revert a
      cases P.testBit i <;> cases S.testBit i <;> cases (2 ^ loI S).testBit i <;> simp
    · apply Nat.eq_of_testBit_eq
      intro i
      rw [Nat.testBit_or, bdiff_tb, Nat.testBit_two_pow]
      by_cases e : loI S = i
      · subst e; rw [c2]; simp
      · simp [e]
  rcases hb with ⟨b1, b2⟩ | ⟨b1, b2, ⟨m, g1, g2, g3, g4, g5, g6⟩, b4, b5⟩
  · rcases h with ⟨h1, h2, h3⟩ | ⟨h1, -⟩
    · refine ⟨?_, fun q => by rw [b1] at q; exact absurd q (by decide)⟩
      unfold vC
      rw [b1, if_neg (by decide), h1]
    · exact absurd h1 (b2 pk (dec pk h1).2.2)
  · rcases h with ⟨h1, h2, h3⟩ | ⟨h1, u, h2, h3, h4, h5, h6, h7⟩
    · obtain ⟨q1, q2, q3⟩ := dec _ b1
      exact absurd (by rw [q2]; exact b1) (h3 _ q1 (Nat.zero_le _))
    · obtain ⟨q1, q2, q3⟩ := dec _ b1
      have k1 := b4 pk (dec pk h1).2.2 h1
      have k2 := h6 _ q1 (Nat.zero_le _) (by rw [q2]; exact b1)
      rw [q2] at k2
      have hpk : pk = (pS d c S).2.2 := by
        rcases Nat.lt_or_ge pk (pS d c S).2.2 with w | w
        · have := b5 pk w h1; omega
        · rcases Nat.lt_or_ge (pS d c S).2.2 pk with w2 | w2
          · have hlt : bdiff (pS d c S).2.2 (2 ^ loI S) < u := by
              rcases Nat.lt_or_ge (bdiff (pS d c S).2.2 (2 ^ loI S)) u with w3 | w3
              · exact w3
              · exfalso
                have nb : ∀ X, (bdiff X (2 ^ loI S)).testBit (loI S) = false := fun X => by rw [bdiff_tb, Nat.testBit_two_pow_self]; simp
                have hu : u.testBit (loI S) = false := Bool.eq_false_iff.mpr (fun w4 => by
                  have := bsub_tb h2 w4
                  rw [nb] at this; cases this)
                by_cases e : u = bdiff (pS d c S).2.2 (2 ^ loI S)
                · rw [h4, e, q2] at w2; omega
                · have := or_mono hu (nb (pS d c S).2.2) (show u < bdiff (pS d c S).2.2 (2 ^ loI S) by omega)
                  rw [q2, ← h4] at this; omega
            have := h7 _ q1 (Nat.zero_le _) hlt (by rw [q2]; exact b1)
            rw [q2] at this; omega
          · omega
      refine ⟨?_, fun _ => hpk⟩
      apply Int32.toInt_inj.mp
      rw [h5, hpk, ← g6]
      unfold vC
      rw [g3, if_pos (show nI m < 1000000 from nI_lt (b := 1000000) (by omega) (by decide)), show (10000 : Int32) * nI m = nI (10000 * m) by rw [show (10000 : Int32) = nI 10000 from rfl, pk_mul], i_add (by rw [nI_toInt (by omega)]; omega) (by rw [nI_toInt (by omega)]; omega), nI_toInt (by omega)]
      omega
