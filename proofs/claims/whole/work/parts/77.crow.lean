/-! ===== the rows of one school's routes ===== -/
theorem bgn_mono {L : List Nat} {i : Nat} : ∀ j, i ≤ j → j ≤ L.length → bgn L i ≤ bgn L j
  | 0, h, _ => by rw [show i = 0 by omega]; exact Nat.le_refl _
  | j + 1, h, hj => by
    by_cases e : i = j + 1
    · subst e; exact Nat.le_refl _
    · have h1 := bgn_mono (L := L) (i := i) j (by omega) (by omega)
      obtain ⟨S, hS⟩ : ∃ S, L[j]? = some S := ⟨L[j]'(by omega), List.getElem?_eq_getElem (by omega)⟩
      have := bgn_s L j hS
      omega
def RowE (I : Nat → Nat → Int32) (s : Nat) (d : pD) (c : pC) (e : Nat → Nat) (L : List Nat) : Prop := I (28 + 4 * s) 4 = nI L.length ∧ (∀ i, i ≤ L.length → I (29 + 4 * s) i = nI (bgn L i)) ∧ ∀ (i S : Nat), L[i]? = some S → I (31 + 4 * s) i = lS d c S ∧ ∀ k g, (oS d c S k).2 = some g → I (30 + 4 * s) (bgn L i + k) = nI (e g)
theorem RowE_fr {I J : Nat → Nat → Int32} {s : Nat} {d : pD} {c : pC} {e : Nat → Nat} {L : List Nat} (h : RowE I s d c e L) (hq : ∀ q i, (q = 28 + 4 * s ∧ i = 4) ∨ (29 + 4 * s ≤ q ∧ q ≤ 31 + 4 * s) → J q i = I q i) : RowE J s d c e L :=
  ⟨(hq _ _ (by omega)).trans h.1, fun i hi => (hq _ _ (by omega)).trans (h.2.1 i hi), fun i S hi => ⟨(hq _ _ (by omega)).trans (h.2.2 i S hi).1, fun k g hg => (hq _ _ (by omega)).trans ((h.2.2 i S hi).2 k g hg)⟩⟩
theorem RowE_app {I J : Nat → Nat → Int32} {s S : Nat} {d : pD} {c : pC} {e : Nat → Nat} {L : List Nat} (h10 : d.1 ≤ 10) (h : RowE I s d c e L) (hfr : ∀ q i, ¬ (q = 30 + 4 * s ∧ bgn L L.length ≤ i ∧ i < bgn L L.length + cdB S 10) → ¬ (q = 31 + 4 * s ∧ i = L.length) → ¬ (q = 28 + 4 * s ∧ i = 4) → ¬ (q = 29 + 4 * s ∧ i = L.length + 1) → J q i = I q i) (ho : ∀ k g, (oS d c S k).2 = some g → J (30 + 4 * s) (bgn L L.length + k) = nI (e g)) (hl : J (31 + 4 * s) L.length = lS d c S) (hc : J (28 + 4 * s) 4 = nI (L.length + 1)) (hb : J (29 + 4 * s) (L.length + 1) = nI (bgn L L.length + cdB S 10)) : RowE J s d c e (L ++ [S]) := by
  refine ⟨by rw [hc]; simp, fun i hi => ?_, fun i T hi => ?_⟩
  · by_cases ei : i = L.length + 1
    · subst ei; rw [hb, bgn_end]
    · simp at hi
      rw [bgn_app L i (by omega), hfr _ _ (by omega) (by omega) (by omega) (by omega)]
      exact h.2.1 i (by omega)
  · rcases Nat.lt_trichotomy i L.length with q | q | q
    · rw [List.getElem?_append_left q] at hi
      obtain ⟨a1, a2⟩ := h.2.2 i T hi
      rw [bgn_app L i (by omega), hfr (31 + 4 * s) _ (by omega) (by omega) (by omega) (by omega)]
      refine ⟨a1, fun k g hg => ?_⟩
      have hk := (oS_lt h10 hg).1
      have h1 := bgn_s L i hi
      have h2 := bgn_mono (L := L) (i := i + 1) L.length (by omega) (by omega)
      rw [hfr _ _ (by omega) (by omega) (by omega) (by omega)]
      exact a2 k g hg
    · subst q
      rw [List.getElem?_append_right (Nat.le_refl _)] at hi
      simp at hi
      subst hi
      rw [bgn_app L _ (Nat.le_refl _)]
      exact ⟨hl, ho⟩
    · rw [List.getElem?_append_right (by omega)] at hi
      obtain ⟨m, hm⟩ : ∃ m, i - L.length = m + 1 := ⟨i - L.length - 1, by omega⟩
      rw [hm] at hi
      simp at hi
/-! ===== from one school's stops to all stops ===== -/
theorem cdB_fold (S : Nat) : ∀ n, cdB S n = foldP (fun i => S.testBit i) (fun _ (a : Nat) => a + 1) 0 n
  | 0 => rfl
  | n + 1 => by
    rw [foldP_s, ← cdB_fold S n]
    show cdB S n + _ = _
    split <;> rfl
theorem cdB_big {S m : Nat} (h : S < 2 ^ m) : ∀ k, m ≤ k → cdB S k = cdB S m
  | 0, hk => by rw [show m = 0 by omega]
  | k + 1, hk => by
    by_cases e : m = k + 1
    · rw [e]
    · show cdB S k + _ = _
      rw [cdB_big h k (by omega), if_neg (fun q => by have := tb_big h q; omega)]; rfl
theorem cdB_ph {e : Nat → Nat} {m n S : Nat} (h : EM e m n) (hS : S < 2 ^ m) : cdB (ph e m S) 10 = cdB S 10 := by
  rw [cdB_big hS 10 h.2.2.1, cdB_fold, cdB_fold]
  exact foldP_tr (fun a => a) h.1 (fun y hy => by obtain ⟨i, h1, -, h3⟩ := ph_ex hy; exact ⟨i, h1, h3⟩) (fun i hi => ph_tb h hi) (fun i a _ _ => rfl) 10 m (Nat.le_refl _) (fun i hi => by have := h.2.1 i hi; have := h.2.2.2; omega) (fun i h1 h2 => absurd h1 (by omega))
theorem rtL_lt {rt : Nat → Bool} {le : Nat → Int32} {m : Nat} (hm : m ≤ 10) : ∀ n S, S < 2 ^ m → (pB rt le S).1 < 1000000 → ∀ P, P ∈ rtL rt le n S → P < 2 ^ m := by
  intro n S hS hp P hP
  have := bsub_le (rtL_mem n S P (by have := pow10' hm; omega) hp hP).1
  omega
theorem rtL_ph {d : pD} {c : pC} {e : Nat → Nat} {m : Nat} (h : EM e m d.1) : ∀ n S, S < 2 ^ m → (pS (cpD d e m) c S).1 < 1000000 → rtL (rS d c) (lS d c) n (ph e m S) = (rtL (rS (cpD d e m) c) (lS (cpD d e m) c) n S).map (ph e m)
  | 0, S, _, _ => rfl
  | n + 1, S, hS, hp => by
    unfold rtL
    have hm10 := pow10' h.2.2.1
    by_cases h0 : S = 0
    · subst h0; rw [ph_0, if_pos rfl, if_pos rfl]; rfl
    · rw [if_neg (fun q => h0 ((ph_zero h hS).mp q)), if_neg h0]
      obtain ⟨m1, hg⟩ := pB_lt (by omega) hp
      obtain ⟨hc, m', e1, e2, e3⟩ := hg.2.2 h0
      have hb := cdB_bound S 10
      have hb1 := hg.1
      have hP := pS_ph (c := c) h S hS
      have hP2 : (pB (rS d c) (lS d c) (ph e m S)).2.2 = ph e m (pS (cpD d e m) c S).2.2 := by rw [show pB (rS d c) (lS d c) (ph e m S) = _ from hP]
      have hle := bdiff_le S (pS (cpD d e m) c S).2.2
      rw [hP2, ← ph_diff h, rtL_ph h n _ (by omega) (by rw [show (pS (cpD d e m) c (bdiff S (pS (cpD d e m) c S).2.2)).1 = nI m' from e2]; exact nI_far (by omega))]
      rfl
theorem RLs_ph {d : pD} {c : pC} {e : Nat → Nat} {m S : Nat} (h : EM e m d.1) (hS : S < 2 ^ m) : RLs d c (ph e m S) = (RLs (cpD d e m) c S).map (ph e m) := by
  unfold RLs
  rw [pS_ph h S hS]
  dsimp only
  by_cases hp : (pS (cpD d e m) c S).1 < 1000000
  · rw [if_pos hp, if_pos hp, rtL_ph h 10 S hS hp]
  · rw [if_neg hp, if_neg hp]; rfl
theorem bgn_map {f : Nat → Nat} : ∀ (L : List Nat), (∀ S, S ∈ L → cdB (f S) 10 = cdB S 10) → ∀ i, bgn (L.map f) i = bgn L i
  | [], _, i => rfl
  | S :: L, h, 0 => rfl
  | S :: L, h, i + 1 => by
    show cdB (f S) 10 + bgn (L.map f) i = cdB S 10 + bgn L i
    rw [h S (List.mem_cons_self ..), bgn_map L (fun T hT => h T (List.mem_cons_of_mem _ hT)) i]
theorem RowE_ph {I : Nat → Nat → Int32} {s : Nat} {d : pD} {c : pC} {e : Nat → Nat} {m : Nat} {L : List Nat} (he : EM e m d.1) (hL : ∀ S, S ∈ L → S < 2 ^ m) (h : RowE I s (cpD d e m) c e L) : RowE I s d c (fun g => g) (L.map (ph e m)) := by
  have hb := bgn_map L (fun S hS => cdB_ph he (hL S hS))
  refine ⟨by rw [List.length_map]; exact h.1, fun i hi => ?_, fun i S hi => ?_⟩
  · rw [List.length_map] at hi
    rw [hb]; exact h.2.1 i hi
  · rw [List.getElem?_map] at hi
    cases hi2 : L[i]? with
    | none => rw [hi2] at hi; cases hi
    | some T =>
      rw [hi2] at hi
      cases hi
      have hT := hL T (List.mem_of_getElem? hi2)
      obtain ⟨a1, a2⟩ := h.2.2 i T hi2
      refine ⟨by rw [lS_ph he hT]; exact a1, fun k g hg => ?_⟩
      rw [oS_ph he hT] at hg
      dsimp only at hg
      cases hk : (oS (cpD d e m) c T k).2 with
      | none => rw [hk] at hg; cases hg
      | some g' =>
        rw [hk] at hg
        cases hg
        rw [hb]
        exact a2 k g' hk
/-! ===== the stops of one school, in their order ===== -/
def stL (f : Nat → Int32) (x : Int32) : Nat → List Nat
  | 0 => []
  | k + 1 => if f k = x then stL f x k ++ [k] else stL f x k
theorem stL_mem {f : Nat → Int32} {x : Int32} {v : Nat} : ∀ n, v ∈ stL f x n ↔ v < n ∧ f v = x
  | 0 => by simp [stL]
  | n + 1 => by
    unfold stL
    by_cases h : f n = x
    · rw [if_pos h, List.mem_append, stL_mem n, List.mem_singleton]
      constructor
      · rintro (⟨a, b⟩ | rfl)
        · exact ⟨by omega, b⟩
        · exact ⟨by omega, h⟩
      · rintro ⟨a, b⟩
        by_cases q : v = n
        · exact Or.inr q
        · exact Or.inl ⟨by omega, b⟩
    · rw [if_neg h, stL_mem n]
      constructor
      · rintro ⟨a, b⟩; exact ⟨by omega, b⟩
      · rintro ⟨a, b⟩
        refine ⟨?_, b⟩
        rcases Nat.lt_or_ge v n with q | q
        · exact q
        · exact absurd (by rw [show n = v by omega]; exact b) h
theorem stL_len {f : Nat → Int32} {x : Int32} : ∀ n, (stL f x n).length ≤ n
  | 0 => Nat.le_refl _
  | n + 1 => by
    have := stL_len (f := f) (x := x) n
    unfold stL; split
    · simp; omega
    · omega
theorem stL_inc {f : Nat → Int32} {x : Int32} : ∀ n (i j a b : Nat), i < j → (stL f x n)[i]? = some a → (stL f x n)[j]? = some b → a < b
  | 0, i, j, a, b, h, h1, h2 => by simp [stL] at h1
  | n + 1, i, j, a, b, h, h1, h2 => by
    unfold stL at h1 h2
    by_cases hf : f n = x
    · rw [if_pos hf] at h1 h2
      rcases Nat.lt_or_ge j (stL f x n).length with q | q
      · rw [List.getElem?_append_left q] at h2
        rw [List.getElem?_append_left (by omega)] at h1
        exact stL_inc n i j a b h h1 h2
      · rw [List.getElem?_append_right q] at h2
        have hj : j - (stL f x n).length = 0 := by
          rcases Nat.eq_zero_or_pos (j - (stL f x n).length) with w | w
          · exact w
          · obtain ⟨m, hm⟩ : ∃ m, j - (stL f x n).length = m + 1 := ⟨j - (stL f x n).length - 1, by omega⟩
            rw [hm] at h2; simp at h2
        rw [hj] at h2
        simp at h2
        subst h2
        rw [List.getElem?_append_left (by omega)] at h1
        exact ((stL_mem n).mp (List.mem_of_getElem? h1)).1
    · rw [if_neg hf] at h1 h2
      exact stL_inc n i j a b h h1 h2
def stE (f : Nat → Int32) (x : Int32) (n i : Nat) : Nat := (stL f x n).getD i 0
def stN (f : Nat → Int32) (x : Int32) (n : Nat) : Nat := (stL f x n).length
theorem stE_get {f : Nat → Int32} {x : Int32} {n i : Nat} (h : i < stN f x n) : (stL f x n)[i]? = some (stE f x n i) := by
  unfold stE; rw [List.getD_eq_getElem?_getD, List.getElem?_eq_getElem h]; rfl
theorem stE_EM {f : Nat → Int32} {x : Int32} {n : Nat} (h : n ≤ 10) : EM (stE f x n) (stN f x n) n :=
  ⟨fun i j hij hj => stL_inc n i j _ _ hij (stE_get (by omega)) (stE_get hj), fun i hi => ((stL_mem n).mp (List.mem_of_getElem? (stE_get hi))).1, by have := stL_len (f := f) (x := x) n; unfold stN; omega, h⟩
theorem stE_f {f : Nat → Int32} {x : Int32} {n i : Nat} (h : i < stN f x n) : f (stE f x n i) = x := ((stL_mem n).mp (List.mem_of_getElem? (stE_get h))).2
theorem stE_ph {f : Nat → Int32} {x : Int32} {n : Nat} (h : n ≤ 10) : ph (stE f x n) (stN f x n) (2 ^ stN f x n - 1) = setOf f x n := by
  apply Nat.eq_of_testBit_eq
  intro i
  rw [setOf_tb]
  have key : (ph (stE f x n) (stN f x n) (2 ^ stN f x n - 1)).testBit i = true ↔ (decide (i < n) && decide (f i = x)) = true := by
    rw [Bool.and_eq_true, decide_eq_true_eq, decide_eq_true_eq]
    constructor
    · intro q
      obtain ⟨j, h1, -, h3⟩ := ph_ex q
      rw [← h3]
      exact ⟨(stE_EM h).2.1 j h1, stE_f h1⟩
    · rintro ⟨a, b⟩
      obtain ⟨j, hj⟩ := List.mem_iff_getElem?.mp ((stL_mem n).mpr ⟨a, b⟩)
      have hj2 : j < stN f x n := (List.getElem?_eq_some_iff.mp hj).1
      have he : stE f x n j = i := by have := (stE_get hj2).symm.trans hj; exact Option.some.inj this
      rw [← he, ph_tb (stE_EM h) hj2, Nat.testBit_two_pow_sub_one]
      exact decide_eq_true hj2
  cases h1 : (ph (stE f x n) (stN f x n) (2 ^ stN f x n - 1)).testBit i <;> cases h2 : (decide (i < n) && decide (f i = x))
  · rfl
  · rw [h2] at key; rw [key.mpr rfl] at h1; cases h1
  · rw [h1] at key; rw [key.mp rfl] at h2; cases h2
  · rfl
theorem stL_congr {f g : Nat → Int32} {x : Int32} : ∀ n, (∀ k, k < n → f k = g k) → stL f x n = stL g x n
  | 0, _ => rfl
  | n + 1, h => by
    have ih := stL_congr (x := x) n (fun k hk => h k (by omega))
    have hn := h n (by omega)
    show (if f n = x then stL f x n ++ [n] else stL f x n) = (if g n = x then stL g x n ++ [n] else stL g x n)
    rw [ih]
    by_cases q : g n = x
    · rw [if_pos q, if_pos (hn.trans q)]
    · rw [if_neg q, if_neg (fun w => q (hn.symm.trans w))]
