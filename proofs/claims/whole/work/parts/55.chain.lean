/-! ===== CHAINS: the greatest number of followers, by sets; who follows whom ===== -/
def mxB (p : Nat → Bool) (w : Nat → Nat) (v0 : Nat) : Nat → Nat
  | 0 => v0
  | b + 1 => if p b then max (w b) (mxB p w v0 b) else mxB p w v0 b
theorem mxB_s (p : Nat → Bool) (w : Nat → Nat) (v0 b : Nat) : mxB p w v0 (b + 1) = if p b then max (w b) (mxB p w v0 b) else mxB p w v0 b := rfl
theorem mxB_le {p : Nat → Bool} {w : Nat → Nat} {v0 M : Nat} (h0 : v0 ≤ M) : ∀ k, (∀ b, b < k → p b = true → w b ≤ M) → mxB p w v0 k ≤ M
  | 0, _ => h0
  | k + 1, h => by
    rw [mxB_s]
    have ih := mxB_le h0 k (fun b hb => h b (by omega))
    split
    · rename_i hp; have := h k (by omega) hp; omega
    · exact ih
theorem mxB_ge0 {p : Nat → Bool} {w : Nat → Nat} {v0 : Nat} : ∀ k, v0 ≤ mxB p w v0 k
  | 0 => Nat.le_refl _
  | k + 1 => by
    rw [mxB_s]
    have ih := mxB_ge0 (p := p) (w := w) (v0 := v0) k
    split <;> omega
theorem mxB_ge {p : Nat → Bool} {w : Nat → Nat} {v0 b : Nat} (hp : p b = true) : ∀ k, b < k → w b ≤ mxB p w v0 k
  | 0, h => absurd h (by omega)
  | k + 1, h => by
    rw [mxB_s]
    by_cases e : b = k
    · subst e; rw [if_pos hp]; omega
    · have ih := mxB_ge (w := w) (v0 := v0) hp k (by omega)
      split <;> omega
theorem mxB_ex {p : Nat → Bool} {w : Nat → Nat} {v0 : Nat} : ∀ k, mxB p w v0 k = v0 ∨ ∃ b, b < k ∧ p b = true ∧ mxB p w v0 k = w b
  | 0 => Or.inl rfl
  | k + 1 => by
    rw [mxB_s]
    have ih := mxB_ex (p := p) (w := w) (v0 := v0) k
    have lift : (mxB p w v0 k = v0 ∨ ∃ b, b < k ∧ p b = true ∧ mxB p w v0 k = w b) → (mxB p w v0 k = v0 ∨ ∃ b, b < k + 1 ∧ p b = true ∧ mxB p w v0 k = w b) := by
      rintro (h | ⟨b, h1, h2, h3⟩)
      · exact Or.inl h
      · exact Or.inr ⟨b, by omega, h2, h3⟩
    split
    · rename_i hp
      rcases Nat.le_total (w k) (mxB p w v0 k) with q | q
      · rw [Nat.max_eq_right q]; exact lift ih
      · rw [Nat.max_eq_left q]; exact Or.inr ⟨k, by omega, hp, rfl⟩
    · exact lift ih
/-- of the last e of n routes as many as can be get a follower that isn't in T -/
def mxF (f : Nat → Nat → Bool) (n : Nat) : Nat → Nat → Nat
  | 0, _ => 0
  | e + 1, T => mxB (fun b => f (n - (e + 1)) b && !T.testBit b) (fun b => 1 + mxF f n e (T ||| 2 ^ b)) (mxF f n e T) n
theorem mxF_le (f : Nat → Nat → Bool) (n : Nat) : ∀ e T, mxF f n e T ≤ e
  | 0, _ => Nat.le_refl _
  | e + 1, T => by
    unfold mxF
    exact mxB_le (by have := mxF_le f n e T; omega) n (fun b _ _ => by have := mxF_le f n e (T ||| 2 ^ b); omega)
/-- the first b of the last e of n with p -/
def fstB (p : Nat → Bool) (n : Nat) : Nat → Option Nat
  | 0 => none
  | e + 1 => if p (n - (e + 1)) then some (n - (e + 1)) else fstB p n e
theorem fstB_some {p : Nat → Bool} {n b : Nat} : ∀ e, e ≤ n → fstB p n e = some b → n - e ≤ b ∧ b < n ∧ p b = true ∧ ∀ c, n - e ≤ c → c < b → p c = false
  | 0, _, h => by cases h
  | e + 1, he, h => by
    unfold fstB at h
    split at h
    · rename_i hp
      cases h
      exact ⟨Nat.le_refl _, by omega, hp, fun c h1 h2 => absurd h1 (by omega)⟩
    · rename_i hp
      obtain ⟨a1, a2, a3, a4⟩ := fstB_some e (by omega) h
      refine ⟨by omega, a2, a3, fun c h1 h2 => ?_⟩
      by_cases e1 : c = n - (e + 1)
      · subst e1; exact Bool.eq_false_iff.mpr hp
      · exact a4 c (by omega) h2
theorem fstB_none {p : Nat → Bool} {n : Nat} : ∀ e, e ≤ n → fstB p n e = none → ∀ c, n - e ≤ c → c < n → p c = false
  | 0, _, _, c, h1, h2 => absurd h1 (by omega)
  | e + 1, he, h, c, h1, h2 => by
    unfold fstB at h
    split at h
    · cases h
    · rename_i hp
      by_cases e1 : c = n - (e + 1)
      · subst e1; exact Bool.eq_false_iff.mpr hp
      · exact fstB_none e (by omega) h c (by omega) h2
abbrev pG (f : Nat → Nat → Bool) (n a T : Nat) : Nat → Bool := fun b => (f a b && !T.testBit b) && decide (mxF f n (n - a) T ≤ 1 + mxF f n (n - (a + 1)) (T ||| 2 ^ b))
/-- the follower of route a, T having been taken -/
def stG (f : Nat → Nat → Bool) (n a T : Nat) : Option Nat := fstB (pG f n a T) n n
/-- what the first a routes have taken -/
def tkG (f : Nat → Nat → Bool) (n : Nat) : Nat → Nat
  | 0 => 0
  | a + 1 => match stG f n a (tkG f n a) with
    | none => tkG f n a
    | some b => tkG f n a ||| 2 ^ b
def nxG (f : Nat → Nat → Bool) (n a : Nat) : Option Nat := stG f n a (tkG f n a)
theorem tkG_lt (f : Nat → Nat → Bool) (n : Nat) : ∀ a, tkG f n a < 2 ^ n
  | 0 => Nat.two_pow_pos n
  | a + 1 => by
    have ih := tkG_lt f n a
    unfold tkG
    cases h : stG f n a (tkG f n a) with
    | none => exact ih
    | some b =>
      have hb := (fstB_some n (Nat.le_refl _) h).2.1
      exact Nat.or_lt_two_pow ih (Nat.pow_lt_pow_right (by decide) hb)
theorem nxG_some {f : Nat → Nat → Bool} {n a b : Nat} (h : nxG f n a = some b) : b < n ∧ f a b = true ∧ (tkG f n a).testBit b = false := by
  obtain ⟨-, h2, h3, -⟩ := fstB_some n (Nat.le_refl _) h
  simp only [Bool.and_eq_true, Bool.not_eq_true', decide_eq_true_eq] at h3
  exact ⟨h2, h3.1.1, h3.1.2⟩
theorem tkG_tb {f : Nat → Nat → Bool} {n b : Nat} : ∀ k, (tkG f n k).testBit b = true ↔ ∃ a, a < k ∧ nxG f n a = some b
  | 0 => by simp [tkG]
  | k + 1 => by
    have ih := tkG_tb (f := f) (n := n) (b := b) k
    have e : tkG f n (k + 1) = match nxG f n k with | none => tkG f n k | some b => tkG f n k ||| 2 ^ b := rfl
    rw [e]
    cases h : nxG f n k with
    | none =>
      constructor
      · intro q; obtain ⟨a, h1, h2⟩ := ih.mp q; exact ⟨a, by omega, h2⟩
      · rintro ⟨a, h1, h2⟩
        by_cases e1 : a = k
        · subst e1; rw [h] at h2; cases h2
        · exact ih.mpr ⟨a, by omega, h2⟩
    | some c =>
      show (tkG f n k ||| 2 ^ c).testBit b = true ↔ _
      rw [Nat.testBit_or, Nat.testBit_two_pow, Bool.or_eq_true, decide_eq_true_eq]
      constructor
      · rintro (q | q)
        · obtain ⟨a, h1, h2⟩ := ih.mp q; exact ⟨a, by omega, h2⟩
        · exact ⟨k, by omega, by rw [h, q]⟩
      · rintro ⟨a, h1, h2⟩
        by_cases e1 : a = k
        · subst e1; rw [h] at h2; cases h2; exact Or.inr rfl
        · exact Or.inl (ih.mpr ⟨a, by omega, h2⟩)
/-- nobody of the first k is followed by r -/
def isF (nx : Nat → Option Nat) (r : Nat) : Nat → Bool
  | 0 => true
  | a + 1 => isF nx r a && decide (nx a ≠ some r)
theorem isF_iff {nx : Nat → Option Nat} {r : Nat} : ∀ k, isF nx r k = true ↔ ∀ a, a < k → nx a ≠ some r
  | 0 => by simp [isF]
  | k + 1 => by
    unfold isF
    rw [Bool.and_eq_true, isF_iff k, decide_eq_true_eq]
    constructor
    · rintro ⟨h1, h2⟩ a ha
      by_cases e : a = k
      · subst e; exact h2
      · exact h1 a (by omega)
    · intro h; exact ⟨fun a ha => h a (by omega), h k (by omega)⟩
theorem isF_tk {f : Nat → Nat → Bool} {n r : Nat} : isF (nxG f n) r n = !(tkG f n n).testBit r := by
  apply Bool.eq_iff_iff.mpr
  rw [isF_iff, Bool.not_eq_true', ← Bool.not_eq_true, tkG_tb]
  constructor
  · rintro h ⟨a, h1, h2⟩; exact h a h1 h2
  · intro h a h1 h2; exact h ⟨a, h1, h2⟩
/-- i steps along the chain -/
def itN (nx : Nat → Option Nat) : Nat → Option Nat → Option Nat
  | 0, o => o
  | i + 1, o => match o with
    | none => none
    | some r => itN nx i (nx r)
theorem itN_none (nx : Nat → Option Nat) : ∀ i, itN nx i none = none
  | 0 => rfl
  | _ + 1 => rfl
/-- the bus bb: the first routes are counted on from k -/
def kth (fir : Nat → Bool) (n bb : Nat) : Nat → Nat → Option Nat
  | 0, _ => none
  | e + 1, k => if fir (n - (e + 1)) then (if k = bb then some (n - (e + 1)) else kth fir n bb e (k + 1)) else kth fir n bb e k
theorem kth_lt {fir : Nat → Bool} {n bb r : Nat} : ∀ e k, e ≤ n → kth fir n bb e k = some r → r < n
  | 0, _, _, h => by cases h
  | e + 1, k, he, h => by
    unfold kth at h
    split at h
    · split at h
      · cases h; omega
      · exact kth_lt e _ (by omega) h
    · exact kth_lt e _ (by omega) h
/-- a depth that falls along the chain -/
def dpOK (nx : Nat → Option Nat) (n : Nat) (dp : Nat → Nat) : Prop := ∀ a b, a < n → nx a = some b → b < n ∧ dp b < dp a
theorem itN_dp {nx : Nat → Option Nat} {n : Nat} {dp : Nat → Nat} (h : dpOK nx n dp) : ∀ i r, r < n → dp r < i → itN nx i (some r) = none
  | 0, r, _, hi => absurd hi (by omega)
  | i + 1, r, hr, hi => by
    show itN nx i (nx r) = none
    cases hn : nx r with
    | none => exact itN_none nx i
    | some b =>
      obtain ⟨h1, h2⟩ := h r b hr hn
      exact itN_dp h i b h1 (by omega)
theorem itN_add {nx : Nat → Option Nat} : ∀ i j o, itN nx (i + j) o = itN nx j (itN nx i o)
  | 0, j, o => by rw [Nat.zero_add]; rfl
  | i + 1, j, o => by
    rw [show i + 1 + j = (i + j) + 1 by omega]
    cases o with
    | none => rw [itN_none, itN_none, itN_none]
    | some r => exact itN_add i j (nx r)
/-- depths by keys that rise along the chain -/
theorem cdB_setB_le {p q : Nat → Bool} {n : Nat} : ∀ k, (∀ x, p x = true → q x = true) → cdB (setB p n) k ≤ cdB (setB q n) k
  | 0, _ => Nat.le_refl _
  | k + 1, h => by
    have ih := cdB_setB_le (p := p) (q := q) (n := n) k h
    simp only [cdB, setB_tb]
    by_cases hk : k < n
    · by_cases hp : p k = true
      · simp [hk, hp, h k hp]; exact ih
      · simp [hk, hp]; omega
    · simp [hk]; exact ih
theorem cdB_setB_lt {p q : Nat → Bool} {n b : Nat} (h : ∀ x, p x = true → q x = true) (hb : b < n) (hp : p b = false) (hq : q b = true) : ∀ k, b < k → cdB (setB p n) k < cdB (setB q n) k
  | 0, hk => absurd hk (by omega)
  | k + 1, hk => by
    by_cases e : b = k
    · subst e
      have := cdB_setB_le (p := p) (q := q) (n := n) b h
      simp only [cdB, setB_tb]
      simp [hb, hp, hq]; omega
    · have ih := cdB_setB_lt h hb hp hq k (by omega)
      simp only [cdB, setB_tb]
      by_cases hk : k < n
      · by_cases hp : p k = true
        · simp [hk, hp, h k hp]; exact ih
        · simp [hk, hp]; omega
      · simp [hk]; exact ih
def dpK (key : Nat → Nat) (n a : Nat) : Nat := cdB (setB (fun x => decide (key a < key x)) n) n
theorem dpK_ok {nx : Nat → Option Nat} {n : Nat} {key : Nat → Nat} (h : ∀ a b, a < n → nx a = some b → b < n ∧ key a < key b) : dpOK nx n (dpK key n) := by
  intro a b ha hn
  obtain ⟨h1, h2⟩ := h a b ha hn
  refine ⟨h1, cdB_setB_lt (fun x hx => ?_) h1 ?_ ?_ n h1⟩
  · simp only [decide_eq_true_eq] at *; omega
  · simp
  · simp [h2]
theorem dpK_lt {key : Nat → Nat} {n a : Nat} (ha : a < n) : dpK key n a < n := by
  have h1 : cdB (setB (fun x => decide (key a < key x)) n) n < cdB (setB (fun _ => true) n) n := cdB_setB_lt (b := a) (fun x _ => rfl) ha (by simp) rfl n ha
  have h2 := cdB_bound (setB (fun _ => true) n) n
  unfold dpK; omega
