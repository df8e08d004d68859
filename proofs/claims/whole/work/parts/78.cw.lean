/-! ===== the class's rows of streets, stops, schools ===== -/
def CW (I : Nat → Nat → Int32) (sp : Nat → Nat) (ns nstr nc : Nat) (d : pD) (cs : Nat → pC) (fr to : Nat → Nat) : Prop :=
  (I 1 4 = nI ns ∧ ns ≤ 4) ∧ (I 2 0 = nI nc ∧ nc ≤ 8) ∧ (I 2 1 = nI nstr ∧ nstr ≤ 14) ∧ (∀ s, s < nstr → fr s < nc ∧ to s < nc ∧ I 3 s = nI (fr s) ∧ I 4 s = nI (to s)) ∧ (∀ s, s < nstr → fr s ≠ to s ∧ 0 ≤ (I 5 s + 0).toInt ∧ fr s < nc ∧ to s < nc) ∧ d.2.2.1 = dTab fr to (I 5) (I 6) 0 nstr ∧ (I 1 5 = nI d.1 ∧ d.1 ≤ 10) ∧ (∀ k, k < 10 → 44 ≤ sp k ∧ sp k < 54) ∧ (∀ k, k < d.1 → d.2.1 k < nc ∧ I (sp k) 1 = nI (d.2.1 k) ∧ I (sp k) 2 = d.2.2.2.1 k ∧ 0 ≤ (d.2.2.2.1 k).toInt ∧ (d.2.2.2.1 k).toInt ≤ 30) ∧ I 1 6 = d.2.2.2.2 ∧ (∀ s, s < ns → (cs s).1 < nc ∧ I (28 + 4 * s) 1 = nI (cs s).1 ∧ (if I (28 + 4 * s) 0 = 3 then I 1 7 / 2 else I 1 7) = (cs s).2 ∧ (cs s).2.toInt ≤ 90) ∧ (¬ I 2 8 = 0 → ∀ a b, a < nc → b < nc → I (8 + a) b = d.2.2.1 a b)
/-- what the class's planning leaves as it was -/
def FrC (I J : Nat → Nat → Int32) : Prop := ∀ q i, ¬ (147 ≤ q) → ¬ (28 ≤ q ∧ q < 44 ∧ ¬ (q % 4 = 0 ∧ i < 3)) → ¬ (54 ≤ q ∧ q < 75) → ¬ (7 ≤ q ∧ q < 25) → ¬ (q = 2 ∧ i = 8) → ¬ (q = 0 ∧ 7 ≤ i ∧ i ≤ 9) → J q i = I q i
theorem FrC_rf (I : Nat → Nat → Int32) : FrC I I := fun _ _ _ _ _ _ _ _ => rfl
theorem FrC_tr {I J K : Nat → Nat → Int32} (h1 : FrC I J) (h2 : FrC J K) : FrC I K := fun q i a b c d e f => (h2 q i a b c d e f).trans (h1 q i a b c d e f)
section CWS
variable {I J : Nat → Nat → Int32} {sp : Nat → Nat} {ns nstr nc : Nat} {d : pD} {cs : Nat → pC} {fr to : Nat → Nat}
theorem CW_fr (h : CW I sp ns nstr nc d cs fr to) (hq : FrC I J) (ht : ¬ J 2 8 = 0 → ∀ a b, a < nc → b < nc → J (8 + a) b = d.2.2.1 a b) : CW J sp ns nstr nc d cs fr to := by
  obtain ⟨a1, a2, a3, a4, a5, a6, a7, a8, a9, a10, a11, a12⟩ := h
  have f5 : J 5 = I 5 := funext fun i => hq 5 i (by omega) (by omega) (by omega) (by omega) (by omega) (by omega)
  have f6 : J 6 = I 6 := funext fun i => hq 6 i (by omega) (by omega) (by omega) (by omega) (by omega) (by omega)
  have f1 : ∀ i, J 1 i = I 1 i := fun i => hq 1 i (by omega) (by omega) (by omega) (by omega) (by omega) (by omega)
  have f2 : ∀ i, i ≠ 8 → J 2 i = I 2 i := fun i hi => hq 2 i (by omega) (by omega) (by omega) (by omega) (by omega) (by omega)
  have f3 : ∀ i, J 3 i = I 3 i := fun i => hq 3 i (by omega) (by omega) (by omega) (by omega) (by omega) (by omega)
  have f4 : ∀ i, J 4 i = I 4 i := fun i => hq 4 i (by omega) (by omega) (by omega) (by omega) (by omega) (by omega)
  have fs : ∀ k i, k < 10 → J (sp k) i = I (sp k) i := fun k i hk => hq (sp k) i (by have := a8 k hk; omega) (by have := a8 k hk; omega) (by have := a8 k hk; omega) (by have := a8 k hk; omega) (by have := a8 k hk; omega) (by have := a8 k hk; omega)
  have fc : ∀ s i, s < 4 → i < 3 → J (28 + 4 * s) i = I (28 + 4 * s) i := fun s i hs hi => hq _ i (by omega) (by omega) (by omega) (by omega) (by omega) (by omega)
  refine ⟨⟨(f1 4).trans a1.1, a1.2⟩, ⟨(f2 0 (by decide)).trans a2.1, a2.2⟩, ⟨(f2 1 (by decide)).trans a3.1, a3.2⟩, fun s hs => ?_, fun s hs => ?_, by rw [f5, f6]; exact a6, ⟨(f1 5).trans a7.1, a7.2⟩, a8, fun k hk => ?_, (f1 6).trans a10, fun s hs => ?_, ht⟩
  · rw [f3, f4]; exact a4 s hs
  · rw [f5]; exact a5 s hs
  · rw [fs k 1 (by omega), fs k 2 (by omega)]; exact a9 k hk
  · rw [fc s 0 (by omega) (by omega), fc s 1 (by omega) (by omega), f1 7]; exact a11 s hs
theorem CW_d01 (h : CW I sp ns nstr nc d cs fr to) : d01 d := by
  unfold d01
  rw [h.2.2.2.2.2.1]
  exact dTab_01 h.2.2.2.2.1
theorem CW_tab (h : CW I sp ns nstr nc d cs fr to) : ∀ a b, a < nc → b < nc → tabI I nc (dTab fr to (I 5) (I 6) 0 nstr) (8 + a) b = d.2.2.1 a b := fun a b ha hb => by
  have := tabI_at (D := d.2.2.1) h.2.2.2.2.2.2.2.2.2.2.2 ha hb h.2.1.2
  rw [← h.2.2.2.2.2.1]; exact this
theorem tabI_fr (h8 : nc ≤ 8) {D : tT} : FrC I (tabI I nc D) := fun q i _ _ _ _ _ _ => tabI_o h8 (by omega)
theorem CW_tabI (h : CW I sp ns nstr nc d cs fr to) : CW (tabI I nc (dTab fr to (I 5) (I 6) 0 nstr)) sp ns nstr nc d cs fr to := CW_fr h (tabI_fr h.2.1.2) (fun _ => CW_tab h)
end CWS
/-- the class's rows hold the parting of the school's stops -/
def PlC (I : Nat → Nat → Int32) (s : Nat) (d : pD) (c : pC) (A : Nat) : Prop := I (28 + 4 * s) 3 = (if (pS d c A).1 < 1000000 then 1 else 0) ∧ RowE I s d c (fun g => g) (RLs d c A)
theorem PlC_fr {I J : Nat → Nat → Int32} {s A : Nat} {d : pD} {c : pC} (h : PlC I s d c A) (hq : ∀ q i, (q = 28 + 4 * s ∧ (i = 3 ∨ i = 4)) ∨ (29 + 4 * s ≤ q ∧ q ≤ 31 + 4 * s) → J q i = I q i) : PlC J s d c A :=
  ⟨(hq _ _ (by omega)).trans h.1, RowE_fr h.2 (fun q i hh => hq q i (by omega))⟩
theorem sumB_mono {R S : Nat} {g : Nat → Int32} (h : bdiff R S = 0) : ∀ n, n ≤ 10 → (∀ k, k < n → 0 ≤ (g k).toInt ∧ (g k).toInt ≤ 30) → 0 ≤ (sumB R g n).toInt ∧ (sumB R g n).toInt ≤ (sumB S g n).toInt ∧ (sumB S g n).toInt ≤ 30 * n
  | 0, _, _ => ⟨Int.le_refl _, Int.le_refl _, Int.le_refl _⟩
  | n + 1, hn, hg => by
    obtain ⟨a, b, c⟩ := sumB_mono h n (by omega) (fun k hk => hg k (by omega))
    have hk := hg n (by omega)
    rw [sumB_s, sumB_s]
    have hz : ∀ x : Int32, x + 0 = x := fun x => Int32.add_zero x
    by_cases hr : R.testBit n = true
    · have hs := bsub_tb h hr
      rw [if_pos hr, if_pos hs, i_add (by omega) (by omega), i_add (by omega) (by omega)]
      omega
    · rw [if_neg hr, hz]
      by_cases hs : S.testBit n = true
      · rw [if_pos hs, i_add (by omega) (by omega)]
        omega
      · rw [if_neg hs, hz]; omega
