/-! ===== the trades stand ===== -/
theorem alF_cg {g g' : Nat → Bool} {ns : Nat} : ∀ e, e ≤ ns → (∀ s, s < ns → g s = g' s) → alF g ns e = alF g' ns e
  | 0, _, _ => rfl
  | e + 1, he, h => by rw [alF_s, alF_s, alF_cg e (by omega) h, h _ (by omega)]
theorem clN_fr {I J : Nat → Nat → Int32} {sp : Nat → Nat} {ns nr : Nat} {d : pD} (h10 : d.1 ≤ 10) (hs4 : ns ≤ 4) (hsp : ∀ k, k < 10 → 44 ≤ sp k ∧ sp k < 54) (hq : ∀ q i, ((77 ≤ q ∧ q ≤ 79) ∨ (44 ≤ q ∧ q < 54) ∨ (28 ≤ q ∧ q < 44 ∧ q % 4 = 0 ∧ i < 3)) → J q i = I q i) : alN J nr ns = alN I nr ns ∧ coN J sp d ns = coN I sp d ns := by
  have e77 : J 77 = I 77 := funext fun i => hq 77 i (by omega)
  have e78 : J 78 = I 78 := funext fun i => hq 78 i (by omega)
  have e79 : J 79 = I 79 := funext fun i => hq 79 i (by omega)
  refine ⟨funext fun c => ?_, funext fun c => ?_⟩
  · unfold alN
    refine alF_cg ns (Nat.le_refl _) (fun s hs => ?_)
    unfold gCl
    simp only [e77, e78, e79, hq (28 + 4 * s) 0 (by omega)]
  · unfold coN
    refine cSum_congr ns (fun s hs => ?_)
    unfold pCl
    rw [hq (28 + 4 * s) 2 (by omega), sumS_cg (f' := fun k => I (sp k) 0) (g' := fun k => I (sp k) 2) d.1 (fun k hk => ⟨hq _ _ (by have := hsp k (by omega); omega), hq _ _ (by have := hsp k (by omega); omega)⟩)]
def FrWt (J K : Nat → Nat → Int32) : Prop := ∀ q i, ¬ (69 ≤ q ∧ q ≤ 74) → ¬ (80 ≤ q ∧ q ≤ 89) → ¬ (q = 0 ∧ i = 9) → K q i = J q i
def WT (I K : Nat → Nat → Int32) (sp : Nat → Nat) (ns nstr nc : Nat) (d : pD) (cs : Nat → pC) (fr to : Nat → Nat) (l : List Nat) (ts : tU) : Prop := (∃ J, DP I J sp ns nstr nc d cs fr to ∧ FrWt J K) ∧ ¬ K 0 9 = 0 ∧ MkT K l ts ns ∧ CW K sp ns nstr nc d cs fr to ∧ PCs K ns d cs (alC I sp d) ∧ FlC K ns d cs (alC I sp d) (I 1 8) ∧ ¬ K 0 7 = 0
/-- the first k of one row laid into another -/
def cpR (I : Nat → Nat → Int32) (a b k : Nat) : Nat → Nat → Int32 := fun q i => if q = b ∧ i < k then I a i else I q i
