/-! ===== what drawing the plans changes ===== -/
def FrDr (I J : Nat → Nat → Int32) : Prop := ∀ q i, ¬ (147 ≤ q) → ¬ (28 ≤ q ∧ q < 44 ∧ ¬ (q % 4 = 0 ∧ i < 3)) → ¬ (q = 54 ∧ i < 3) → q ≠ 55 → q ≠ 57 → ¬ (59 ≤ q ∧ q < 69) → ¬ (8 ≤ q ∧ q < 16) → ¬ (q = 2 ∧ i = 8) → ¬ (q = 0 ∧ i = 7) → J q i = I q i
abbrev alC (I : Nat → Nat → Int32) (sp : Nat → Nat) (d : pD) : Nat → Nat := fun s => setOf (fun k => I (sp k) 0) (nI s) d.1
theorem setOf_congr {f g : Nat → Int32} {x : Int32} : ∀ n, (∀ k, k < n → f k = g k) → setOf f x n = setOf g x n
  | 0, _ => rfl
  | n + 1, h => by
    have ih := setOf_congr (x := x) n (fun k hk => h k (by omega))
    have hn := h n (by omega)
    rw [setOf_s, setOf_s, ih]
    by_cases q : g n = x
    · rw [if_pos q, if_pos (hn.trans q)]
    · rw [if_neg q, if_neg (fun w => q (hn.symm.trans w))]
section DRW
variable {I J : Nat → Nat → Int32} {sp : Nat → Nat} {ns nstr nc : Nat} {d : pD} {cs : Nat → pC} {fr to : Nat → Nat}
theorem FrDr_C (h : FrDr I J) : FrC I J := fun q i a b c d e f => h q i a b (by omega) (by omega) (by omega) (by omega) (by omega) (by omega) (by omega)
theorem FrDr_rf (I : Nat → Nat → Int32) : FrDr I I := fun _ _ _ _ _ _ _ _ _ _ _ => rfl
theorem alC_fr (hW : CW I sp ns nstr nc d cs fr to) (h : FrC I J) : alC J sp d = alC I sp d := by
  funext s
  have hsp := hW.2.2.2.2.2.2.2.1
  have h10 := hW.2.2.2.2.2.2.1.2
  exact setOf_congr d.1 (fun k hk => h (sp k) 0 (by have := hsp k (by omega); omega) (by have := hsp k (by omega); omega) (by have := hsp k (by omega); omega) (by have := hsp k (by omega); omega) (by have := hsp k (by omega); omega) (by have := hsp k (by omega); omega))
theorem CW_al (hW : CW I sp ns nstr nc d cs fr to) : AlOK d cs (alC I sp d) ns := AlOK_of _ hW.2.2.2.2.2.2.1.2 hW.1.2
end DRW
def DP (I J : Nat → Nat → Int32) (sp : Nat → Nat) (ns nstr nc : Nat) (d : pD) (cs : Nat → pC) (fr to : Nat → Nat) : Prop := FrDr I J ∧ (¬ I 0 7 = 0 → J = I) ∧ CW J sp ns nstr nc d cs fr to ∧ ¬ J 0 7 = 0 ∧ PCs J ns d cs (alC I sp d) ∧ FlC J ns d cs (alC I sp d) (I 1 8)
theorem RLs_len {d : pD} {c : pC} {A : Nat} (hA : A < 1024) (h : (pS d c A).1 < 1000000) : (pS d c A).1 = nI (RLs d c A).length := by
  obtain ⟨m, hm⟩ := pB_lt hA h
  have := cdB_bound A 10
  have hl : (RLs d c A).length = m := by
    unfold RLs; rw [if_pos h]
    exact rtL_len 10 A m hA (by have := hm.1; omega) hm
  rw [hl]; exact hm.2.1
