/-! ===== FOLLOWERS BY ROWS OF EXCHANGES ===== -/
abbrev pM : Type := Nat → Option Nat
def fup {α : Type} (g : Nat → α) (k : Nat) (x : α) : Nat → α := fun j => if j = k then x else g j
theorem fup_eq {α : Type} {g : Nat → α} {k : Nat} {x : α} : fup g k x k = x := by simp [fup]
theorem fup_ne {α : Type} {g : Nat → α} {k j : Nat} {x : α} (h : j ≠ k) : fup g k x j = g j := by simp [fup, h]
/-- reached, by whom, the row of those that look -/
abbrev bS : Type := Nat × (Nat → Nat) × List Nat
/-- a looks through the last e of n -/
def bfB (f : Nat → Nat → Bool) (F : Nat → Bool) (L : pM) (n a : Nat) : Nat → bS → bS × Option Nat
  | 0, s => (s, none)
  | e + 1, s => if f a (n - (e + 1)) && F (n - (e + 1)) && !s.1.testBit (n - (e + 1)) then
      (match L (n - (e + 1)) with
      | none => ((s.1 ||| 2 ^ (n - (e + 1)), fup s.2.1 (n - (e + 1)) a, s.2.2), some (n - (e + 1)))
      | some x => bfB f F L n a e (s.1 ||| 2 ^ (n - (e + 1)), fup s.2.1 (n - (e + 1)) a, s.2.2 ++ [x]))
    else bfB f F L n a e s
theorem bfB_s (f : Nat → Nat → Bool) (F : Nat → Bool) (L : pM) (n a e : Nat) (s : bS) : bfB f F L n a (e + 1) s = if f a (n - (e + 1)) && F (n - (e + 1)) && !s.1.testBit (n - (e + 1)) then
      (match L (n - (e + 1)) with
      | none => ((s.1 ||| 2 ^ (n - (e + 1)), fup s.2.1 (n - (e + 1)) a, s.2.2), some (n - (e + 1)))
      | some x => bfB f F L n a e (s.1 ||| 2 ^ (n - (e + 1)), fup s.2.1 (n - (e + 1)) a, s.2.2 ++ [x]))
    else bfB f F L n a e s := rfl
/-- those in the row look, from the k-th on -/
def bfQ (f : Nat → Nat → Bool) (F : Nat → Bool) (L : pM) (n : Nat) : Nat → Nat → bS → bS × Option Nat
  | 0, _, s => (s, none)
  | e + 1, k, s => match s.2.2[k]? with
    | none => (s, none)
    | some a => match bfB f F L n a n s with
      | (s', some b) => (s', some b)
      | (s', none) => bfQ f F L n e (k + 1) s'
/-- what stands before a root looks -/
def BA (L : pM) (n root : Nat) : Prop := root < n ∧ (∀ b x, L b = some x → b < n ∧ x < n ∧ x ≠ root) ∧ ∀ b b' x, L b = some x → L b' = some x → b = b'
/-- what stands while it looks -/
def BI (f : Nat → Nat → Bool) (F : Nat → Bool) (L : pM) (n root : Nat) (s : bS) : Prop :=
  (∀ b, s.1.testBit b = true → b < n ∧ F b = true ∧ f (s.2.1 b) b = true ∧ ∃ x, L b = some x ∧ s.2.1 b ≠ x ∧ x ∈ s.2.2)
  ∧ s.2.2[0]? = some root
  ∧ (∀ (i x : Nat), s.2.2[i + 1]? = some x → ∃ b j : Nat, s.1.testBit b = true ∧ L b = some x ∧ j ≤ i ∧ s.2.2[j]? = some (s.2.1 b))
  ∧ (∀ (i j x : Nat), s.2.2[i]? = some x → s.2.2[j]? = some x → i = j)
  ∧ ∀ x, x ∈ s.2.2 → x < n
theorem BI_0 {f : Nat → Nat → Bool} {F : Nat → Bool} {L : pM} {n root : Nat} {by0 : Nat → Nat} (hr : root < n) : BI f F L n root (0, by0, [root]) := by
  refine ⟨fun b hb => by simp at hb, rfl, fun i x hx => by simp at hx, fun i j x hi hj => ?_, fun x hx => ?_⟩
  · cases i with
    | zero => cases j with
      | zero => rfl
      | succ j => simp at hj
    | succ i => simp at hi
  · simp at hx; omega
theorem gE_app {l : List Nat} {x y : Nat} {i : Nat} (h : (l ++ [x])[i]? = some y) : l[i]? = some y ∨ (i = l.length ∧ y = x) := by
  rcases Nat.lt_or_ge i l.length with q | q
  · rw [List.getElem?_append_left q] at h; exact Or.inl h
  · rw [List.getElem?_append_right q] at h
    by_cases e : i = l.length
    · subst e; simp at h; exact Or.inr ⟨rfl, h.symm⟩
    · obtain ⟨k, hk⟩ : ∃ k, i - l.length = k + 1 := ⟨i - l.length - 1, by omega⟩
      rw [hk] at h; simp at h
theorem gE_l {l : List Nat} {x y : Nat} {i : Nat} (h : l[i]? = some y) : (l ++ [x])[i]? = some y := by
  rw [List.getElem?_append_left (List.getElem?_eq_some_iff.mp h).1]; exact h
theorem BI_new {f : Nat → Nat → Bool} {F : Nat → Bool} {L : pM} {n root : Nat} {s : bS} {b x : Nat} (hA : BA L n root) (h : BI f F L n root s) (hR : s.1.testBit b = false) (hx : L b = some x) : ∀ i : Nat, s.2.2[i]? ≠ some x := by
  intro i hi
  cases i with
  | zero =>
    rw [h.2.1] at hi
    exact (hA.2.1 b x hx).2.2 (Option.some.inj hi).symm
  | succ i =>
    obtain ⟨b2, j, h1, h2, -⟩ := h.2.2.1 i x hi
    rw [hA.2.2 b2 b x h2 hx] at h1
    rw [hR] at h1; cases h1
theorem or_tb {R b c : Nat} : (R ||| 2 ^ b).testBit c = true ↔ R.testBit c = true ∨ c = b := by
  rw [Nat.testBit_or, Nat.testBit_two_pow, Bool.or_eq_true, decide_eq_true_eq]
  constructor
  · rintro (h | h)
    · exact Or.inl h
    · exact Or.inr h.symm
  · rintro (h | h)
    · exact Or.inl h
    · exact Or.inr h.symm
theorem BI_s {f : Nat → Nat → Bool} {F : Nat → Bool} {L : pM} {n root : Nat} {s : bS} {k a b x : Nat} (hA : BA L n root) (h : BI f F L n root s) (hk : s.2.2[k]? = some a) (hf : f a b = true) (hF : F b = true) (hR : s.1.testBit b = false) (hx : L b = some x) : BI f F L n root (s.1 ||| 2 ^ b, fup s.2.1 b a, s.2.2 ++ [x]) := by
  have hnew := BI_new hA h hR hx
  have hne : ∀ c, s.1.testBit c = true → c ≠ b := fun c hc e => by rw [e, hR] at hc; cases hc
  refine ⟨fun c hc => ?_, ?_, fun i y hy => ?_, fun i j y hi hj => ?_, fun y hy => ?_⟩
  · rcases or_tb.mp hc with q | q
    · obtain ⟨h1, h2, h3, y, h4, h5, h6⟩ := h.1 c q
      refine ⟨h1, h2, ?_, y, h4, ?_, ?_⟩
      · show f (fup s.2.1 b a c) c = true
        rw [fup_ne (hne c q)]; exact h3
      · show fup s.2.1 b a c ≠ y
        rw [fup_ne (hne c q)]; exact h5
      · exact List.mem_append_left _ h6
    · subst q
      refine ⟨(hA.2.1 c x hx).1, hF, ?_, x, hx, ?_, ?_⟩
      · show f (fup s.2.1 c a c) c = true
        rw [fup_eq]; exact hf
      · show fup s.2.1 c a c ≠ x
        rw [fup_eq]; intro e; exact hnew k (by rw [hk, e])
      · exact List.mem_append_right _ (List.mem_singleton.mpr rfl)
  · exact gE_l h.2.1
  · rcases gE_app hy with q | ⟨q1, q2⟩
    · obtain ⟨c, j, h1, h2, h3, h4⟩ := h.2.2.1 i y q
      refine ⟨c, j, or_tb.mpr (Or.inl h1), h2, h3, gE_l ?_⟩
      show s.2.2[j]? = some (fup s.2.1 b a c)
      rw [fup_ne (hne c h1)]; exact h4
    · refine ⟨b, k, or_tb.mpr (Or.inr rfl), by rw [q2]; exact hx, ?_, gE_l ?_⟩
      · have := (List.getElem?_eq_some_iff.mp hk).1; omega
      · show s.2.2[k]? = some (fup s.2.1 b a b)
        rw [fup_eq]; exact hk
  · rcases gE_app hi with q | ⟨q1, q2⟩
    · rcases gE_app hj with r | ⟨r1, r2⟩
      · exact h.2.2.2.1 i j y q r
      · exact absurd q (by rw [r2]; exact hnew i)
    · rcases gE_app hj with r | ⟨r1, r2⟩
      · exact absurd r (by rw [q2]; exact hnew j)
      · omega
  · rcases List.mem_append.mp hy with q | q
    · exact h.2.2.2.2 y q
    · rw [List.mem_singleton.mp q]; exact (hA.2.1 b x hx).2.1
theorem cdB_or {T x : Nat} (h : T.testBit x = false) : ∀ n, x < n → cdB (T ||| 2 ^ x) n = cdB T n + 1
  | 0, hn => absurd hn (by omega)
  | n + 1, hn => by
    have gen : ∀ m, m ≤ x → cdB (T ||| 2 ^ x) m = cdB T m := by
      intro m
      induction m with
      | zero => intro _; rfl
      | succ m ih =>
        intro hm
        simp only [cdB]
        rw [ih (by omega), Nat.testBit_or, Nat.testBit_two_pow, decide_eq_false (show ¬ x = m by omega), Bool.or_false]
    by_cases e : x = n
    · subst e
      simp only [cdB]
      rw [gen x (Nat.le_refl _), or_tb.mpr (Or.inr rfl), h]
      simp
    · have ih := cdB_or h n (by omega)
      simp only [cdB]
      rw [ih, Nat.testBit_or, Nat.testBit_two_pow, decide_eq_false e, Bool.or_false]
      omega
/-- different numbers below n are at most n -/
theorem l_pig {l : List Nat} {n : Nat} (hd : ∀ (i j x : Nat), l[i]? = some x → l[j]? = some x → i = j) (hn : ∀ x, x ∈ l → x < n) : l.length ≤ n := by
  have key : ∀ k, k ≤ l.length → ∃ T, cdB T n = k ∧ ∀ x, T.testBit x = true → ∃ i : Nat, i < k ∧ l[i]? = some x := by
    intro k
    induction k with
    | zero => intro _; exact ⟨0, by have : ∀ m, cdB 0 m = 0 := by
                                      intro m; induction m with
                                      | zero => rfl
                                      | succ m ih => simp [cdB, ih]
                                    exact this n, fun x hx => by simp at hx⟩
    | succ k ih =>
      intro hk
      obtain ⟨T, h1, h2⟩ := ih (by omega)
      have hg : l[k]? = some l[k] := List.getElem?_eq_getElem (by omega)
      have hnot : T.testBit l[k] = false := Bool.eq_false_iff.mpr (fun q => by
        obtain ⟨i, hi, hl⟩ := h2 _ q
        have := hd i k _ hl hg
        omega)
      refine ⟨T ||| 2 ^ l[k], by rw [cdB_or hnot n (hn _ (List.getElem_mem _)), h1], fun x hx => ?_⟩
      rcases or_tb.mp hx with q | q
      · obtain ⟨i, hi, hl⟩ := h2 x q; exact ⟨i, by omega, hl⟩
      · exact ⟨k, by omega, by rw [q]; exact hg⟩
  obtain ⟨T, h1, -⟩ := key l.length (Nat.le_refl _)
  have := cdB_bound T n
  omega
theorem BI_len {f : Nat → Nat → Bool} {F : Nat → Bool} {L : pM} {n root : Nat} {s : bS} (h : BI f F L n root s) : s.2.2.length ≤ n := l_pig h.2.2.2.1 h.2.2.2.2
/-- what is known when a row of exchanges is found: b, found by a, the k-th -/
def FD (f : Nat → Nat → Bool) (F : Nat → Bool) (L : pM) (n root : Nat) (s' : bS) (b : Nat) : Prop := ∃ (s : bS) (k a : Nat), BI f F L n root s ∧ s.2.2[k]? = some a ∧ b < n ∧ f a b = true ∧ F b = true ∧ L b = none ∧ s.1.testBit b = false ∧ s' = (s.1 ||| 2 ^ b, fup s.2.1 b a, s.2.2)
theorem bfB_ok {f : Nat → Nat → Bool} {F : Nat → Bool} {L : pM} {n root : Nat} (hA : BA L n root) {k a : Nat} : ∀ (e : Nat) (s : bS), e ≤ n → BI f F L n root s → s.2.2[k]? = some a →
    (∀ s', bfB f F L n a e s = (s', none) → BI f F L n root s' ∧ (∀ (i y : Nat), s.2.2[i]? = some y → s'.2.2[i]? = some y) ∧ (∀ c, s.1.testBit c = true → s'.1.testBit c = true) ∧ ∀ c, n - e ≤ c → c < n → f a c = true → F c = true → s'.1.testBit c = true) ∧ ∀ s' b, bfB f F L n a e s = (s', some b) → FD f F L n root s' b
  | 0, s, _, h, hk => ⟨fun s' hs => by cases hs; exact ⟨h, fun i y q => q, fun c q => q, fun c h1 h2 => absurd h1 (by omega)⟩, fun s' b hs => by cases hs⟩
  | e + 1, s, he, h, hk => by
    rw [bfB_s]
    by_cases hc : (f a (n - (e + 1)) && F (n - (e + 1)) && !s.1.testBit (n - (e + 1))) = true
    · rw [if_pos hc]
      simp only [Bool.and_eq_true, Bool.not_eq_true'] at hc
      cases hL : L (n - (e + 1)) with
      | none =>
        refine ⟨fun s' hs => (by cases hs), fun s' b hs => ?_⟩
        cases hs
        exact ⟨s, k, a, h, hk, by omega, hc.1.1, hc.1.2, hL, hc.2, rfl⟩
      | some x =>
        have h2 := BI_s hA h hk hc.1.1 hc.1.2 hc.2 hL
        obtain ⟨r1, r2⟩ := bfB_ok hA (k := k) (a := a) e _ (by omega) h2 (gE_l hk)
        refine ⟨fun s' hs => ?_, r2⟩
        obtain ⟨q1, q2, q3, q4⟩ := r1 s' hs
        refine ⟨q1, fun i y hy => q2 i y (gE_l hy), fun c hc2 => q3 c (or_tb.mpr (Or.inl hc2)), fun c h1 h2 h3 h4 => ?_⟩
        by_cases e1 : c = n - (e + 1)
        · exact q3 c (or_tb.mpr (Or.inr e1))
        · exact q4 c (by omega) h2 h3 h4
    · rw [if_neg hc]
      obtain ⟨r1, r2⟩ := bfB_ok hA (k := k) (a := a) e s (by omega) h hk
      refine ⟨fun s' hs => ?_, r2⟩
      obtain ⟨q1, q2, q3, q4⟩ := r1 s' hs
      refine ⟨q1, q2, q3, fun c h1 h2 h3 h4 => ?_⟩
      by_cases e1 : c = n - (e + 1)
      · subst e1
        apply q3
        rw [h3, h4] at hc
        simpa using hc
      · exact q4 c (by omega) h2 h3 h4
theorem bfQ_ok {f : Nat → Nat → Bool} {F : Nat → Bool} {L : pM} {n root : Nat} (hA : BA L n root) : ∀ (e k : Nat) (s : bS), k + e = n + 1 → k ≤ s.2.2.length → BI f F L n root s → (∀ (j a : Nat), j < k → s.2.2[j]? = some a → ∀ c, c < n → f a c = true → F c = true → s.1.testBit c = true) →
    (∀ s', bfQ f F L n e k s = (s', none) → BI f F L n root s' ∧ ∀ a, a ∈ s'.2.2 → ∀ c, c < n → f a c = true → F c = true → s'.1.testBit c = true) ∧ ∀ s' b, bfQ f F L n e k s = (s', some b) → FD f F L n root s' b
  | 0, k, s, hk, hl, h, _ => by have := BI_len h; omega
  | e + 1, k, s, hk, hl, h, hcl => by
    cases hq : s.2.2[k]? with
    | none =>
      rw [show bfQ f F L n (e + 1) k s = (s, none) by unfold bfQ; rw [hq]]
      refine ⟨fun s' hs => ?_, fun s' b hs => by cases hs⟩
      cases hs
      refine ⟨h, fun a ha c h1 h2 h3 => ?_⟩
      obtain ⟨j, hj, e1⟩ := List.getElem_of_mem ha
      have hkl : s.2.2.length ≤ k := List.getElem?_eq_none_iff.mp hq
      exact hcl j a (by omega) (by rw [List.getElem?_eq_getElem hj, e1]) c h1 h2 h3
    | some a =>
      obtain ⟨r1, r2⟩ := bfB_ok hA (k := k) (a := a) n s (Nat.le_refl _) h hq
      rcases hb : bfB f F L n a n s with ⟨s1, o⟩
      cases o with
      | some b =>
        rw [show bfQ f F L n (e + 1) k s = (s1, some b) by unfold bfQ; rw [hq]; dsimp only; rw [hb]]
        refine ⟨fun s' hs => (by cases hs), fun s' b' hs => ?_⟩
        cases hs
        exact r2 _ _ hb
      | none =>
        rw [show bfQ f F L n (e + 1) k s = bfQ f F L n e (k + 1) s1 by rw [bfQ, hq]; dsimp only; rw [hb]]
        obtain ⟨q1, q2, q3, q4⟩ := r1 s1 hb
        have hlen : k + 1 ≤ s1.2.2.length := (List.getElem?_eq_some_iff.mp (q2 k a hq)).1
        refine bfQ_ok hA e (k + 1) s1 (by omega) hlen q1 (fun j x hj hx c h1 h2 h3 => ?_)
        by_cases e1 : j = k
        · subst e1
          have : s1.2.2[j]? = some a := q2 j a hq
          rw [this] at hx
          cases hx
          exact q4 c (by omega) h1 h2 h3
        · have hjl : j < s.2.2.length := by have := (List.getElem?_eq_some_iff.mp hq).1; omega
          have : s1.2.2[j]? = some s.2.2[j] := q2 j _ (List.getElem?_eq_getElem hjl)
          rw [this] at hx
          cases hx
          exact q3 c (hcl j _ (by omega) (List.getElem?_eq_getElem hjl) c h1 h2 h3)
/-- the exchanges -/
def mv (bw : Nat → Nat) : Nat → pM → pM → Option Nat → pM × pM
  | 0, L, G, _ => (L, G)
  | m + 1, L, G, o => match o with
    | none => (L, G)
    | some b => mv bw m (fup L b (some (bw b))) (fup G (bw b) (some b)) (G (bw b))
theorem mv_none (bw : Nat → Nat) (L G : pM) : ∀ m, mv bw m L G none = (L, G)
  | 0 => rfl
  | _ + 1 => rfl
def Cst (L G : pM) : Prop := ∀ a b, L b = some a ↔ G a = some b
/-- on the way: b is to be given to the one that reached it, which is one of the first i of the row -/
def PH (q : List Nat) (n : Nat) (bw : Nat → Nat) (G0 : pM) (rch i : Nat) (L G : pM) (b : Nat) : Prop :=
  b < n ∧ (∃ j : Nat, j < i ∧ q[j]? = some (bw b)) ∧ (∀ (j x : Nat), j < i → q[j]? = some x → G x = G0 x) ∧ (∀ c, c ≠ b → ∀ a, L c = some a ↔ G a = some c) ∧ (∀ a, G a ≠ some b) ∧ L b ≠ some (bw b) ∧ rch.testBit b = true
/-- what doesn't change on the way -/
def SF (f : Nat → Nat → Bool) (F : Nat → Bool) (n root : Nat) (q : List Nat) (bw : Nat → Nat) (L0 G0 : pM) (rch : Nat) : Prop :=
  q[0]? = some root ∧ (∀ (i x : Nat), q[i + 1]? = some x → ∃ b j : Nat, b < n ∧ F b = true ∧ f (bw b) b = true ∧ L0 b = some x ∧ bw b ≠ x ∧ j ≤ i ∧ q[j]? = some (bw b) ∧ rch.testBit b = true) ∧ (∀ (i j x : Nat), q[i]? = some x → q[j]? = some x → i = j) ∧ (∀ x, x ∈ q → x < n) ∧ Cst L0 G0 ∧ G0 root = none
theorem SF_of {f : Nat → Nat → Bool} {F : Nat → Bool} {L G : pM} {n root b : Nat} {s' : bS} (hA : BA L n root) (hC : Cst L G) (h : FD f F L n root s' b) : SF f F n root s'.2.2 s'.2.1 L G s'.1 ∧ s'.2.2.length ≤ n ∧ F b = true ∧ f (s'.2.1 b) b = true ∧ L b = none ∧ PH s'.2.2 n s'.2.1 G s'.1 s'.2.2.length L G b := by
  obtain ⟨s, k, a, hB, hk, hbn, hf, hF, hL, hR, rfl⟩ := h
  have hne : ∀ c, s.1.testBit c = true → c ≠ b := fun c hc e => by rw [e, hR] at hc; cases hc
  have hG : G root = none := by
    cases hg : G root with
    | none => rfl
    | some c => exact absurd rfl (hA.2.1 c root ((hC root c).mpr hg)).2.2
  refine ⟨⟨hB.2.1, fun i x hx => ?_, hB.2.2.2.1, hB.2.2.2.2, hC, hG⟩, (show s.2.2.length ≤ n from BI_len hB), hF, ?_, hL, hbn, ⟨k, (List.getElem?_eq_some_iff.mp hk).1, ?_⟩, fun _ _ _ _ => rfl, fun c _ a => hC a c, fun a q => ?_, ?_, or_tb.mpr (Or.inr rfl)⟩
  · obtain ⟨c, j, h1, h2, h3, h4⟩ := hB.2.2.1 i x hx
    obtain ⟨g1, g2, g3, y, g4, g5, g6⟩ := hB.1 c h1
    have e : fup s.2.1 b a c = s.2.1 c := fup_ne (hne c h1)
    refine ⟨c, j, g1, g2, ?_, h2, ?_, h3, ?_, or_tb.mpr (Or.inl h1)⟩
    · show f (fup s.2.1 b a c) c = true
      rw [e]; exact g3
    · show fup s.2.1 b a c ≠ x
      rw [e]; rw [g4] at h2; cases h2; exact g5
    · show s.2.2[j]? = some (fup s.2.1 b a c)
      rw [e]; exact h4
  · show f (fup s.2.1 b a b) b = true
    rw [fup_eq]; exact hf
  · show s.2.2[k]? = some (fup s.2.1 b a b)
    rw [fup_eq]; exact hk
  · have := (hC a b).mpr q; rw [hL] at this; cases this
  · rw [hL]; intro q; cases q
theorem PH_step {f : Nat → Nat → Bool} {F : Nat → Bool} {n root : Nat} {q : List Nat} {bw : Nat → Nat} {L0 G0 L G : pM} {rch i b : Nat} (hS : SF f F n root q bw L0 G0 rch) (h : PH q n bw G0 rch i L G b) :
    bw b < n ∧ ((bw b = root ∧ G (bw b) = none) ∨ ∃ c j, bw b ≠ root ∧ G (bw b) = some c ∧ G0 (bw b) = some c ∧ c < n ∧ F c = true ∧ f (bw c) c = true ∧ L0 c = some (bw b) ∧ j < i ∧ c ≠ b ∧ PH q n bw G0 rch j (fup L b (some (bw b))) (fup G (bw b) (some b)) c) := by
  obtain ⟨hb, ⟨j, hj, hq⟩, h2, h3, h4, h5, h6⟩ := h
  obtain ⟨s1, s2, s3, s4, s5, s6⟩ := hS
  refine ⟨s4 _ (List.mem_of_getElem? hq), ?_⟩
  have hG := h2 j _ hj hq
  cases j with
  | zero =>
    rw [s1] at hq
    have e := Option.some.inj hq
    exact Or.inl ⟨e.symm, by rw [hG, ← e]; exact s6⟩
  | succ j =>
    obtain ⟨c, j2, c1, c2, c3, c4, c5, c6, c7, c8⟩ := s2 j _ hq
    have hG0 : G0 (bw b) = some c := (s5 _ _).mp c4
    have hGc : G (bw b) = some c := hG.trans hG0
    have hcb : c ≠ b := fun e => h4 (bw b) (by rw [hGc, e])
    have hLc : L c = some (bw b) := (h3 c hcb _).mpr hGc
    have hroot : bw b ≠ root := fun e => by rw [e, s6] at hG0; cases hG0
    refine Or.inr ⟨c, j + 1, hroot, hGc, hG0, c1, c2, c3, c4, hj, hcb, c1, ⟨j2, by omega, c7⟩, fun jj x hjj hx => ?_, fun c' hc' a => ?_, fun a => ?_, ?_, c8⟩
    · have hxa : x ≠ bw b := fun e => by
        rw [e] at hx
        have := s3 jj (j + 1) _ hx hq
        omega
      rw [fup_ne hxa]
      exact h2 jj x (by omega) hx
    · by_cases e1 : c' = b
      · subst e1
        rw [fup_eq]
        by_cases e2 : a = bw c'
        · subst e2; rw [fup_eq]; exact ⟨fun _ => rfl, fun _ => rfl⟩
        · rw [fup_ne e2]
          exact ⟨fun q => absurd (Option.some.inj q).symm e2, fun q => absurd q (h4 a)⟩
      · rw [fup_ne e1]
        by_cases e2 : a = bw b
        · subst e2
          rw [fup_eq]
          constructor
          · intro q
            have := (h3 c' e1 _).mp q
            rw [hGc] at this
            exact absurd (Option.some.inj this).symm hc'
          · intro q; exact absurd (Option.some.inj q).symm e1
        · rw [fup_ne e2]; exact h3 c' e1 a
    · by_cases e2 : a = bw b
      · subst e2
        rw [fup_eq]
        intro q; exact hcb (Option.some.inj q).symm
      · rw [fup_ne e2]
        intro q
        have := (h3 c hcb a).mpr q
        rw [hLc] at this
        exact e2 (Option.some.inj this).symm
    · rw [fup_ne hcb, hLc]
      intro q; exact c5 (Option.some.inj q).symm
