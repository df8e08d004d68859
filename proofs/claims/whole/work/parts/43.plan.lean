/-! ===== PLANS: routes over sets of stops (bits) ===== -/
theorem bdiff_le (a b : Nat) : bdiff a b ≤ a := by
  have h : a &&& bdiff a b = bdiff a b := by
    apply Nat.eq_of_testBit_eq
    intro i
    rw [Nat.testBit_and, bdiff_tb]
    cases a.testBit i <;> rfl
  rw [← h]
  exact Nat.and_le_left
theorem bdiff_lt2 {S P f : Nat} (h : S.testBit f = true) (hP : P.testBit f = true) : bdiff S P < S := by
  refine Nat.lt_of_le_of_ne (bdiff_le S P) (fun he => ?_)
  have := bdiff_tb S P f
  rw [he, h, hP] at this
  simp at this
theorem bdiff_lt {S f : Nat} (h : S.testBit f = true) : bdiff S (2 ^ f) < S := bdiff_lt2 h (Nat.testBit_two_pow_self)
/-- the least of v0 and w over the bits below n -/
def minF (S : Nat) (w : Nat → Int32) (v0 : Int32) : Nat → Int32
  | 0 => v0
  | g + 1 => if S.testBit g then mn (w g) (minF S w v0 g) else minF S w v0 g
theorem minF_s (S : Nat) (w : Nat → Int32) (v0 : Int32) (g : Nat) : minF S w v0 (g + 1) = if S.testBit g then mn (w g) (minF S w v0 g) else minF S w v0 g := rfl
def finV (v : Int32) : Int32 := if 1000000 ≤ v then 1000000 else v + 1
theorem minF_congr {S : Nat} {w w' : Nat → Int32} {v0 : Int32} : ∀ n, (∀ g, g < n → S.testBit g = true → w g = w' g) → minF S w v0 n = minF S w' v0 n
  | 0, _ => rfl
  | n + 1, h => by
    rw [minF_s, minF_s, minF_congr n (fun g hg hb => h g (by omega) hb)]
    by_cases hb : S.testBit n = true
    · rw [if_pos hb, if_pos hb, h n (by omega) hb]
    · rw [if_neg hb, if_neg hb]
/-- the least length of a route over S that begins with f -/
def fB (n : Nat) (W : Nat → Nat → Int32) (hm : Nat → Int32) (S f : Nat) : Int32 :=
  if h : S.testBit f = true then
    have := bdiff_lt h
    finV (minF (bdiff S (2 ^ f)) (fun g => W f g + fB n W hm (bdiff S (2 ^ f)) g) (if bdiff S (2 ^ f) = 0 then hm f else 1000000) n)
  else 1000000
termination_by S
theorem fB_eq {n : Nat} {W : Nat → Nat → Int32} {hm : Nat → Int32} {S f : Nat} (h : S.testBit f = true) : fB n W hm S f = finV (minF (bdiff S (2 ^ f)) (fun g => W f g + fB n W hm (bdiff S (2 ^ f)) g) (if bdiff S (2 ^ f) = 0 then hm f else 1000000) n) := by
  rw [fB, dif_pos h]
/-- the least length of a route over S -/
def leB (n : Nat) (W : Nat → Nat → Int32) (hm : Nat → Int32) (S : Nat) : Int32 := minF S (fB n W hm S) 1000000 n
/-- the lowest bit -/
def loI (S : Nat) : Nat := ((List.range 10).find? (fun i => S.testBit i)).getD 0
theorem loI_all : ∀ S, S < 1024 → nI S &&& -(nI S) = (if S = 0 then 0 else nI (2 ^ loI S)) := by decide +kernel
theorem loI_tb : ∀ S, S < 1024 → S ≠ 0 → S.testBit (loI S) = true ∧ loI S < 10 ∧ ∀ i, i < loI S → S.testBit i = false := by decide +kernel
abbrev pP : Type := Int32 × Int32 × Nat
/-- one more route P of length le, what is left parted as r: better than acc? -/
def stP (acc r : pP) (le : Int32) (P : Nat) : pP :=
  if r.1 < 1000000 then (if acc.1 < r.1 + 1 ∨ (r.1 + 1 = acc.1 ∧ ¬ r.2.1 + le < acc.2.1) then acc else (r.1 + 1, r.2.1 + le, P)) else acc
/-- P may be the route with S's lowest stop: rt tells which sets are routes -/
def cdP (rt : Nat → Bool) (S P : Nat) : Bool := decide (bdiff P S = 0) && P.testBit (loI S) && rt P
/-- the best parting of S: routes, minutes, the route with the lowest stop -/
def pB (rt : Nat → Bool) (le : Nat → Int32) (S : Nat) : pP :=
  if S = 0 then (0, 0, 0) else
  (List.range (S + 1)).foldl (fun acc P => if h : cdP rt S P = true ∧ S.testBit (loI S) = true then
    have : bdiff S P < S := bdiff_lt2 h.2 (by have := h.1; unfold cdP at this; simp only [Bool.and_eq_true] at this; exact this.1.2)
    stP acc (pB rt le (bdiff S P)) (le P) P else acc) (1000000, 1000000, 0)
termination_by S
/-- the first k sets looked at -/
def pK (rt : Nat → Bool) (le : Nat → Int32) (S : Nat) : Nat → pP
  | 0 => (1000000, 1000000, 0)
  | P + 1 => if cdP rt S P = true then stP (pK rt le S P) (pB rt le (bdiff S P)) (le P) P else pK rt le S P
theorem pK_s (rt : Nat → Bool) (le : Nat → Int32) (S P : Nat) : pK rt le S (P + 1) = if cdP rt S P = true then stP (pK rt le S P) (pB rt le (bdiff S P)) (le P) P else pK rt le S P := rfl
theorem pB_eq {rt : Nat → Bool} {le : Nat → Int32} {S : Nat} (h : S ≠ 0) (hS : S < 1024) : pB rt le S = pK rt le S (S + 1) := by
  have hb := (loI_tb S hS h).1
  rw [pB, if_neg h]
  have key : ∀ k, (List.range k).foldl (fun acc P => if h : cdP rt S P = true ∧ S.testBit (loI S) = true then stP acc (pB rt le (bdiff S P)) (le P) P else acc) (1000000, 1000000, 0) = pK rt le S k := by
    intro k
    induction k with
    | zero => rfl
    | succ k ih =>
      rw [List.range_succ, List.foldl_append, ih, pK_s]
      simp only [List.foldl_cons, List.foldl_nil]
      by_cases hc : cdP rt S k = true
      · rw [dif_pos ⟨hc, hb⟩, if_pos hc]
      · rw [dif_neg (fun q => hc q.1), if_neg hc]
  exact key (S + 1)
theorem pB_0 {rt : Nat → Bool} {le : Nat → Int32} : pB rt le 0 = (0, 0, 0) := by
  rw [pB, if_pos rfl]
theorem pK_low {rt : Nat → Bool} {le : Nat → Int32} {S : Nat} : ∀ k, k ≤ 2 ^ loI S → pK rt le S k = (1000000, 1000000, 0)
  | 0, _ => rfl
  | k + 1, h => by
    rw [pK_s, if_neg, pK_low k (by omega)]
    unfold cdP
    rw [Nat.testBit_lt_two_pow (by omega)]
    simp
