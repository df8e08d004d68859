/-! ===== the class's chains, pure ===== -/
theorem setB_cg {p q : Nat → Bool} : ∀ n, (∀ b, b < n → p b = q b) → setB p n = setB q n
  | 0, _ => rfl
  | n + 1, h => by
    have ih := setB_cg n (fun b hb => h b (by omega))
    unfold setB
    rw [ih, h n (by omega)]
theorem setB_full (n : Nat) : setB (fun b => !(0 : Nat).testBit b) n = 2 ^ n - 1 := by
  apply Nat.eq_of_testBit_eq
  intro i
  rw [setB_tb, Nat.testBit_two_pow_sub_one]
  simp
theorem setB_rm (T b n : Nat) : bdiff (setB (fun c => !T.testBit c) n) (2 ^ b) = setB (fun c => !(T ||| 2 ^ b).testBit c) n := by
  apply Nat.eq_of_testBit_eq
  intro i
  rw [bdiff_tb, setB_tb, setB_tb, Nat.testBit_or]
  cases decide (i < n) <;> cases T.testBit i <;> cases (2 ^ b).testBit i <;> rfl
theorem setB_led {T n : Nat} (h : T < 2 ^ n) : bdiff (2 ^ n - 1) (setB (fun c => !T.testBit c) n) = T := by
  apply Nat.eq_of_testBit_eq
  intro i
  rw [bdiff_tb, Nat.testBit_two_pow_sub_one, setB_tb]
  cases hi : T.testBit i with
  | true => have := tb_big h hi; simp [this]
  | false => simp
theorem mxF_ge {f : Nat → Nat → Bool} {n a b T : Nat} (ha : a < n) (hb : b < n) (hf : f a b = true) (hT : T.testBit b = false) : 1 + mxF f n (n - (a + 1)) (T ||| 2 ^ b) ≤ mxF f n (n - a) T := by
  obtain ⟨e, he⟩ : ∃ e, n - a = e + 1 := ⟨n - a - 1, by omega⟩
  rw [he, mxF_s, show n - (e + 1) = a by omega, show n - (a + 1) = e by omega]
  exact mxB_ge (p := fun b => f a b && !T.testBit b) (w := fun b => 1 + mxF f n e (T ||| 2 ^ b)) (by rw [hf, hT]; rfl) n hb
theorem mxF_no {f : Nat → Nat → Bool} {n a T : Nat} (ha : a < n) (h : stG f n a T = none) : mxF f n (n - a) T = mxF f n (n - (a + 1)) T := by
  have hno := fstB_none n (Nat.le_refl _) h
  obtain ⟨e, he⟩ : ∃ e, n - a = e + 1 := ⟨n - a - 1, by omega⟩
  rcases mxB_ex (p := fun b => f a b && !T.testBit b) (w := fun b => 1 + mxF f n e (T ||| 2 ^ b)) (v0 := mxF f n e T) n with q | ⟨b, h1, h2, h3⟩
  · rw [he, mxF_s, show n - (e + 1) = a by omega, show n - (a + 1) = e by omega]
    exact q
  · have hb := hno b (by omega) h1
    have he2 : mxF f n (n - a) T = 1 + mxF f n (n - (a + 1)) (T ||| 2 ^ b) := by
      rw [he, mxF_s, show n - (e + 1) = a by omega, show n - (a + 1) = e by omega]
      exact h3
    have : pG f n a T b = true := by
      show ((f a b && !T.testBit b) && decide _) = true
      rw [show (f a b && !T.testBit b) = true from h2, decide_eq_true (Nat.le_of_eq he2)]; rfl
    rw [this] at hb; cases hb
theorem tk_cnt {f : Nat → Nat → Bool} {n : Nat} : ∀ a, a ≤ n → cdB (tkG f n a) n + mxF f n (n - a) (tkG f n a) = mxF f n n 0
  | 0, _ => by
    have h0 : ∀ m, cdB 0 m = 0 := by
      intro m; induction m with
      | zero => rfl
      | succ m ih => simp [cdB, ih]
    show cdB 0 n + mxF f n (n - 0) 0 = _
    rw [h0, Nat.zero_add, Nat.sub_zero]
  | a + 1, ha => by
    have ih := tk_cnt (f := f) (n := n) a (by omega)
    have e : tkG f n (a + 1) = match nxG f n a with | none => tkG f n a | some b => tkG f n a ||| 2 ^ b := rfl
    cases h : nxG f n a with
    | none =>
      rw [e, h]
      have := mxF_no (show a < n by omega) h
      dsimp only
      omega
    | some b =>
      rw [e, h]
      obtain ⟨h1, h2, h3⟩ := nxG_some h
      have hc := cdB_or h3 n h1
      have hg := mxF_ge (f := f) (show a < n by omega) h1 h2 h3
      obtain ⟨-, -, hp, -⟩ := fstB_some n (Nat.le_refl _) h
      simp only [Bool.and_eq_true, decide_eq_true_eq] at hp
      have := hp.2
      show cdB (tkG f n a ||| 2 ^ b) n + mxF f n (n - (a + 1)) (tkG f n a ||| 2 ^ b) = _
      omega
theorem tk_all {f : Nat → Nat → Bool} {n : Nat} (h10 : n ≤ 10) : cdB (tkG f n n) 10 = mxF f n n 0 := by
  have h := tk_cnt (f := f) (n := n) n (Nat.le_refl _)
  rw [Nat.sub_self] at h
  rw [cdB_big (tkG_lt f n n) 10 h10]
  have : mxF f n 0 (tkG f n n) = 0 := rfl
  omega
/-- followers' rows of bits -/
theorem cntP_cd {T n : Nat} (h : T < 2 ^ n) : cntP (fun r => !T.testBit r) n + cdB T n = n := by
  have key : ∀ k, cntP (fun r => !T.testBit r) k + cdB T k = k := by
    intro k
    induction k with
    | zero => rfl
    | succ k ih =>
      have e1 : cntP (fun r => !T.testBit r) (k + 1) = cntP (fun r => !T.testBit r) k + if (!T.testBit k) then 1 else 0 := rfl
      have e2 : cdB T (k + 1) = cdB T k + if T.testBit k then 1 else 0 := rfl
      rw [e1, e2]
      by_cases hb : T.testBit k = true
      · rw [hb]; simp; omega
      · rw [Bool.eq_false_iff.mpr hb]; simp; omega
  exact key n
/-- how many of the last e of n are first -/
def cntE (fir : Nat → Bool) (n : Nat) : Nat → Nat
  | 0 => 0
  | e + 1 => (if fir (n - (e + 1)) then 1 else 0) + cntE fir n e
theorem kth_iff {fir : Nat → Bool} {n bb : Nat} : ∀ e k, k ≤ bb → (kth fir n bb e k = none ↔ k + cntE fir n e ≤ bb)
  | 0, k, h => by simp [kth, cntE]; exact h
  | e + 1, k, h => by
    rw [kth_s]
    unfold cntE
    by_cases hf : fir (n - (e + 1)) = true
    · rw [if_pos hf, if_pos hf]
      by_cases hk : k = bb
      · rw [if_pos hk]; simp; omega
      · rw [if_neg hk, kth_iff e (k + 1) (by omega)]
        constructor <;> intro q <;> omega
    · rw [if_neg hf, if_neg hf, kth_iff e k h]
      constructor <;> intro q <;> omega
theorem cntE_P {fir : Nat → Bool} {n : Nat} : ∀ e, e ≤ n → cntP fir (n - e) + cntE fir n e = cntP fir n
  | 0, _ => by simp [cntE]
  | e + 1, he => by
    have ih := cntE_P (fir := fir) (n := n) e (by omega)
    have : n - e = (n - (e + 1)) + 1 := by omega
    rw [this, cntP_s] at ih
    unfold cntE
    omega
theorem itN_cap {nx : Nat → Option Nat} {n : Nat} {dp : Nat → Nat} (h : dpOK nx n dp) (hdn : ∀ r, r < n → dp r < n) {r ii : Nat} (hr : r < n) : itN nx (min ii n) (some r) = itN nx ii (some r) := by
  rcases Nat.le_total ii n with q | q
  · rw [Nat.min_eq_left q]
  · rw [Nat.min_eq_right q, itN_dp h n r hr (hdn r hr), itN_dp h ii r hr (by have := hdn r hr; omega)]
