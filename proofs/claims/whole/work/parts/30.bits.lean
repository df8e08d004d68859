theorem nb_l : ∀ n, n < 32 → ((nI n &&& 31).toBitVec.smod 32).toNat = n := by decide +kernel
theorem nb_shr {n k : Nat} (h : n < 2 ^ 31) (hk : k < 32) : nI n >>> (nI k &&& 31) = nI (n / 2 ^ k) := pk_shrN h _ k (nb_l k hk)
theorem nb_shl {n k : Nat} (hk : k < 32) (h : n * 2 ^ k < 2 ^ 32) : nI n <<< (nI k &&& 31) = nI (n * 2 ^ k) := pk_shlN _ k (nb_l k hk) h
theorem nb_1shl {k : Nat} (hk : k < 31) : (1 : Int32) <<< (nI k &&& 31) = nI (2 ^ k) := by
  have h : 1 * 2 ^ k < 2 ^ 32 := by rw [Nat.one_mul]; exact Nat.pow_lt_pow_right (by decide) (by omega)
  have e := nb_shl (n := 1) (k := k) (by omega) h
  rw [Nat.one_mul] at e
  exact e
theorem nb_and (a b : Nat) : nI a &&& nI b = nI (a &&& b) := by
  apply Int32.toBitVec_inj.1
  show BitVec.ofNat 32 a &&& BitVec.ofNat 32 b = BitVec.ofNat 32 (a &&& b)
  apply BitVec.eq_of_getLsbD_eq
  intro i hi
  simp [hi]
theorem nb_xor (a b : Nat) : nI a ^^^ nI b = nI (a ^^^ b) := by
  apply Int32.toBitVec_inj.1
  show BitVec.ofNat 32 a ^^^ BitVec.ofNat 32 b = BitVec.ofNat 32 (a ^^^ b)
  apply BitVec.eq_of_getLsbD_eq
  intro i hi
  simp [hi]
theorem nb_or (a b : Nat) : nI a ||| nI b = nI (a ||| b) := by
  apply Int32.toBitVec_inj.1
  show BitVec.ofNat 32 a ||| BitVec.ofNat 32 b = BitVec.ofNat 32 (a ||| b)
  apply BitVec.eq_of_getLsbD_eq
  intro i hi
  simp [hi]
/-- a without the bits of b -/
def bdiff (a b : Nat) : Nat := a ^^^ (a &&& b)
theorem bdiff_tb (a b i : Nat) : (bdiff a b).testBit i = (a.testBit i && !b.testBit i) := by
  unfold bdiff
  rw [Nat.testBit_xor, Nat.testBit_and]
  cases a.testBit i <;> cases b.testBit i <;> rfl
theorem nb_andn (a b : Nat) : nI a &&& (nI b ^^^ (-1)) = nI (bdiff a b) := by
  have h1 : ∀ i, i < 32 → ((-1 : Int32)).toBitVec.getLsbD i = true := by decide +kernel
  apply Int32.toBitVec_inj.1
  apply BitVec.eq_of_getLsbD_eq
  intro i hi
  rw [Int32.toBitVec_and, Int32.toBitVec_xor, BitVec.getLsbD_and, BitVec.getLsbD_xor, h1 i hi]
  show ((BitVec.ofNat 32 a).getLsbD i && ((BitVec.ofNat 32 b).getLsbD i ^^ true)) = (BitVec.ofNat 32 (bdiff a b)).getLsbD i
  rw [BitVec.getLsbD_ofNat, BitVec.getLsbD_ofNat, BitVec.getLsbD_ofNat, bdiff_tb]
  simp [hi]
theorem nb_mod2 (m : Nat) : nI m &&& 1 = nI (m % 2) := by
  have := nb_and m 1
  rw [Nat.and_one_is_mod] at this
  exact this
theorem nb_has {S k : Nat} (hS : S < 2 ^ 31) (hk : k < 32) : nI S >>> (nI k &&& 31) &&& 1 = if S.testBit k then 1 else 0 := by
  rw [nb_shr hS hk, nb_mod2, Nat.testBit_eq_decide_div_mod_eq]
  rcases (show S / 2 ^ k % 2 = 0 ∨ S / 2 ^ k % 2 = 1 by omega) with h | h
  · rw [h]; rfl
  · rw [h]; rfl
/-- the bits of those of the first n that have x -/
def setOf (f : Nat → Int32) (x : Int32) : Nat → Nat
  | 0 => 0
  | k + 1 => if f k = x then setOf f x k ||| 2 ^ k else setOf f x k
theorem setOf_s (f : Nat → Int32) (x : Int32) (k : Nat) : setOf f x (k + 1) = if f k = x then setOf f x k ||| 2 ^ k else setOf f x k := rfl
theorem setOf_tb (f : Nat → Int32) (x : Int32) : ∀ n i, (setOf f x n).testBit i = (decide (i < n) && decide (f i = x))
  | 0, i => by simp [setOf]
  | n + 1, i => by
    unfold setOf
    split
    · rename_i h
      rw [Nat.testBit_or, setOf_tb f x n i, Nat.testBit_two_pow]
      by_cases hi : i = n
      · subst hi; simp [h]
      · by_cases h2 : i < n
        · simp [h2, Nat.lt_succ_of_lt h2, Ne.symm hi]
        · simp [h2, show ¬ i < n + 1 by omega, Ne.symm hi]
    · rename_i h
      rw [setOf_tb f x n i]
      by_cases hi : i = n
      · subst hi; simp [h]
      · by_cases h2 : i < n
        · simp [h2, Nat.lt_succ_of_lt h2]
        · simp [h2, show ¬ i < n + 1 by omega]
theorem setOf_lt (f : Nat → Int32) (x : Int32) : ∀ n, setOf f x n < 2 ^ n
  | 0 => by simp [setOf]
  | n + 1 => by
    unfold setOf
    have h := setOf_lt f x n
    have h2 : 2 ^ n < 2 ^ (n + 1) := Nat.pow_lt_pow_right (by decide) (by omega)
    split
    · exact Nat.or_lt_two_pow (by omega) h2
    · omega
theorem pow10 {k : Nat} (h : k < 10) : 2 ^ k < 1024 := by
  have : 2 ^ k < 2 ^ 10 := Nat.pow_lt_pow_right (by decide) h
  omega
theorem pow10' {k : Nat} (h : k ≤ 10) : 2 ^ k ≤ 1024 := Nat.pow_le_pow_right (by decide) h
