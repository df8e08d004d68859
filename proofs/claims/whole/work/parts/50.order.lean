/-! ===== THE ORDER OF A ROUTE'S STOPS ===== -/
/-- the first of the bits below n with the least w -/
def nxP (w : Nat → Int32) (S : Nat) : Nat → Option (Nat × Int32)
  | 0 => none
  | g + 1 => if S.testBit g then (match nxP w S g with
      | none => some (g, w g)
      | some (b, l) => if w g < l then some (g, w g) else some (b, l)) else nxP w S g
theorem nxP_s (w : Nat → Int32) (S g : Nat) : nxP w S (g + 1) = if S.testBit g then (match nxP w S g with
      | none => some (g, w g)
      | some (b, l) => if w g < l then some (g, w g) else some (b, l)) else nxP w S g := rfl
theorem nxP_none {w : Nat → Int32} {S : Nat} : ∀ n, nxP w S n = none → ∀ g, g < n → S.testBit g = false
  | 0, _, g, h => absurd h (by omega)
  | n + 1, h, g, hg => by
    rw [nxP_s] at h
    by_cases hb : S.testBit n = true
    · rw [if_pos hb] at h
      split at h
      · cases h
      · split at h <;> cases h
    · rw [if_neg hb] at h
      by_cases e : g = n
      · subst e; exact Bool.eq_false_iff.mpr hb
      · exact nxP_none n h g (by omega)
theorem nxP_some {w : Nat → Int32} {S b : Nat} {l : Int32} : ∀ n, nxP w S n = some (b, l) → b < n ∧ S.testBit b = true ∧ l = w b ∧ (∀ g, g < n → S.testBit g = true → ¬ w g < w b) ∧ ∀ g, g < b → S.testBit g = true → w b < w g
  | 0, h => by cases h
  | n + 1, h => by
    rw [nxP_s] at h
    by_cases hb : S.testBit n = true
    · rw [if_pos hb] at h
      cases hn : nxP w S n with
      | none =>
        rw [hn] at h
        simp only [Option.some.injEq, Prod.mk.injEq] at h
        obtain ⟨rfl, rfl⟩ := h
        have h0 := nxP_none n hn
        refine ⟨by omega, hb, rfl, fun g hg hgb => ?_, fun g hg hgb => ?_⟩
        · by_cases e : g = n
          · subst e; exact fun q => Int32.lt_irrefl q
          · rw [h0 g (by omega)] at hgb; cases hgb
        · rw [h0 g hg] at hgb; cases hgb
      | some p =>
        obtain ⟨b0, l0⟩ := p
        rw [hn] at h
        obtain ⟨i1, i2, i3, i4, i5⟩ := nxP_some n hn
        subst i3
        simp only at h
        by_cases hw : w n < w b0
        · rw [if_pos hw] at h
          simp only [Option.some.injEq, Prod.mk.injEq] at h
          obtain ⟨rfl, rfl⟩ := h
          refine ⟨by omega, hb, rfl, fun g hg hgb => ?_, fun g hg hgb => ?_⟩
          · by_cases e : g = n
            · subst e; exact fun q => Int32.lt_irrefl q
            · intro q
              exact i4 g (by omega) hgb (Int32.lt_trans q hw)
          · have := i4 g (by omega) hgb
            exact Int32.lt_of_lt_of_le hw (Int32.not_lt.mp this)
        · rw [if_neg hw] at h
          simp only [Option.some.injEq, Prod.mk.injEq] at h
          obtain ⟨rfl, rfl⟩ := h
          refine ⟨by omega, i2, rfl, fun g hg hgb => ?_, i5⟩
          by_cases e : g = n
          · subst e; exact hw
          · exact i4 g (by omega) hgb
    · rw [if_neg hb] at h
      obtain ⟨i1, i2, i3, i4, i5⟩ := nxP_some n h
      refine ⟨by omega, i2, i3, fun g hg hgb => ?_, i5⟩
      by_cases e : g = n
      · subst e; exact absurd hgb hb
      · exact i4 g (by omega) hgb
def rv : Option Nat → Int32
  | none => -1
  | some g => nI g
/-- the way from the stop ahead -/
def wyP (d : pD) (bh : Option Nat) (g : Nat) : Int32 := match bh with
  | none => 0
  | some b => d.2.2.1 (d.2.1 b) (d.2.1 g)
/-- the next stop of a route, of which the set S is left, behind bh -/
def nxt (d : pD) (c : pC) (S : Nat) (bh : Option Nat) : Option Nat := (nxP (fun g => wyP d bh g + fS d c S g) S d.1).map Prod.fst
theorem nxt_tb {d : pD} {c : pC} {S g : Nat} {bh : Option Nat} (h : nxt d c S bh = some g) : g < d.1 ∧ S.testBit g = true := by
  unfold nxt at h
  cases hp : nxP (fun g => wyP d bh g + fS d c S g) S d.1 with
  | none => rw [hp] at h; cases h
  | some p =>
    obtain ⟨b, l⟩ := p
    rw [hp] at h
    cases h
    obtain ⟨a, b, -⟩ := nxP_some _ hp
    exact ⟨a, b⟩
theorem nxt_none {d : pD} {c : pC} {S : Nat} {bh : Option Nat} (h : nxt d c S bh = none) : ∀ g, g < d.1 → S.testBit g = false := by
  unfold nxt at h
  cases hp : nxP (fun g => wyP d bh g + fS d c S g) S d.1 with
  | none => exact nxP_none _ hp
  | some p => rw [hp] at h; cases h
/-- what is left, and the stop, behind k steps -/
def oS (d : pD) (c : pC) (S : Nat) : Nat → Nat × Option Nat
  | 0 => (S, nxt d c S none)
  | k + 1 => match (oS d c S k).2 with
    | none => oS d c S k
    | some g => (bdiff (oS d c S k).1 (2 ^ g), nxt d c (bdiff (oS d c S k).1 (2 ^ g)) (some g))
theorem oS_sub {d : pD} {c : pC} {S : Nat} : ∀ k, bdiff (oS d c S k).1 S = 0
  | 0 => bdiff_self S
  | k + 1 => by
    unfold oS
    cases h : (oS d c S k).2 with
    | none => exact oS_sub k
    | some g => exact bsub_tr (bdiff_sub _ _) (oS_sub k)
theorem bsub_le {R S : Nat} (h : bdiff R S = 0) : R ≤ S := Nat.le_of_testBit (fun i hi => by
  have a := bdiff_tb R S i
  rw [h, Nat.zero_testBit, hi] at a
  simpa using a)
/-- minutes from a stop on, by the order: S left, behind bh -/
def rideP (d : pD) (c : pC) (t : Nat) : Nat → Nat → Option Nat → Int32
  | 0, _, _ => 0
  | n + 1, S, bh => match nxt d c S bh with
    | none => 0
    | some g => if g = t then fS d c S t else rideP d c t n (bdiff S (2 ^ g)) (some g)
