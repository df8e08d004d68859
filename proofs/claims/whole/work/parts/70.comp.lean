/-! ===== THE STOPS OF ONE SCHOOL: sets among them and sets among all stops ===== -/
def foldP {α : Type} (p : Nat → Bool) (st : Nat → α → α) (a0 : α) : Nat → α
  | 0 => a0
  | k + 1 => if p k then st k (foldP p st a0 k) else foldP p st a0 k
theorem foldP_s {α : Type} (p : Nat → Bool) (st : Nat → α → α) (a0 : α) (k : Nat) : foldP p st a0 (k + 1) = if p k then st k (foldP p st a0 k) else foldP p st a0 k := rfl
theorem foldP_tr {α β : Type} {p : Nat → Bool} {p' : Nat → Bool} {st : Nat → α → α} {st' : Nat → β → β} {a0 : β} {e : Nat → Nat} {M : Nat} (h : β → α) (he : ∀ i j, i < j → j < M → e i < e j) (hp : ∀ y, p y = true → ∃ i, i < M ∧ e i = y) (hp' : ∀ i, i < M → p (e i) = p' i) (hs : ∀ i a, i < M → p' i = true → st (e i) (h a) = h (st' i a)) : ∀ x k, k ≤ M → (∀ i, i < k → e i < x) → (∀ i, k ≤ i → i < M → x ≤ e i) → foldP p st (h a0) x = h (foldP p' st' a0 k) := by
  intro x
  induction x with
  | zero =>
    intro k hk h1 h2
    cases k with
    | zero => rfl
    | succ k => have := h1 k (by omega); omega
  | succ x ih =>
    intro k hk h1 h2
    rw [foldP_s]
    by_cases hx : ∃ i, i < M ∧ e i = x
    · obtain ⟨i, hi, rfl⟩ := hx
      have hik : i < k := by
        rcases Nat.lt_or_ge i k with q | q
        · exact q
        · have := h2 i q hi; omega
      have hki : k = i + 1 := by
        rcases Nat.lt_or_ge (i + 1) k with q | q
        · have a := he i (i + 1) (by omega) (by omega)
          have b := h1 (i + 1) q
          omega
        · omega
      subst hki
      have ih2 := ih i (by omega) (fun j hj => he j i hj hi) (fun j h3 h4 => by
        by_cases q : j = i
        · subst q; exact Nat.le_refl _
        · exact Nat.le_of_lt (he i j (by omega) h4))
      rw [foldP_s, hp' i hi, ih2]
      by_cases hq : p' i = true
      · rw [if_pos hq, if_pos hq, hs i _ hi hq]
      · rw [if_neg hq, if_neg hq]
    · have hpx : ¬ p x = true := fun q => hx (hp x q)
      rw [if_neg hpx]
      refine ih k hk (fun i hi => ?_) (fun i h3 h4 => ?_)
      · have := h1 i hi
        have : e i ≠ x := fun q => hx ⟨i, by omega, q⟩
        omega
      · have := h2 i h3 h4; omega
theorem minF_fold (S : Nat) (w : Nat → Int32) (v0 : Int32) : ∀ n, minF S w v0 n = foldP (fun i => S.testBit i) (fun g a => mn (w g) a) v0 n
  | 0 => rfl
  | n + 1 => by rw [minF_s, foldP_s, minF_fold S w v0 n]
theorem sumB_fold (S : Nat) (g : Nat → Int32) : ∀ n, sumB S g n = foldP (fun i => S.testBit i) (fun k a => a + g k) 0 n
  | 0 => rfl
  | n + 1 => by
    rw [sumB_s, foldP_s, sumB_fold S g n]
    split
    · rfl
    · rw [Int32.add_zero]
def nxS (w : Nat → Int32) (g : Nat) (a : Option (Nat × Int32)) : Option (Nat × Int32) := match a with
  | none => some (g, w g)
  | some (b, l) => if w g < l then some (g, w g) else some (b, l)
theorem nxP_nxS (w : Nat → Int32) (S g : Nat) : nxP w S (g + 1) = if S.testBit g then nxS w g (nxP w S g) else nxP w S g := by
  rw [nxP_s]
  cases nxP w S g <;> rfl
theorem nxP_fold (w : Nat → Int32) (S : Nat) : ∀ n, nxP w S n = foldP (fun i => S.testBit i) (nxS w) none n
  | 0 => rfl
  | n + 1 => by rw [nxP_nxS, foldP_s, nxP_fold w S n]
theorem nxP_congr {w w' : Nat → Int32} {S : Nat} : ∀ n, (∀ g, g < n → w g = w' g) → nxP w S n = nxP w' S n
  | 0, _ => rfl
  | n + 1, h => by
    rw [nxP_nxS, nxP_nxS, nxP_congr n (fun g hg => h g (by omega))]
    unfold nxS
    rw [h n (by omega)]
/-- e: the stops of a school, in their order -/
def EM (e : Nat → Nat) (m n : Nat) : Prop := (∀ i j, i < j → j < m → e i < e j) ∧ (∀ i, i < m → e i < n) ∧ m ≤ 10 ∧ n ≤ 10
def phK (e : Nat → Nat) (S : Nat) : Nat → Nat
  | 0 => 0
  | k + 1 => if S.testBit k then phK e S k ||| 2 ^ e k else phK e S k
theorem phK_tb {e : Nat → Nat} {S x : Nat} : ∀ k, (phK e S k).testBit x = true ↔ ∃ i, i < k ∧ S.testBit i = true ∧ e i = x
  | 0 => by simp [phK]
  | k + 1 => by
    have ih := phK_tb (e := e) (S := S) (x := x) k
    unfold phK
    by_cases hb : S.testBit k = true
    · rw [if_pos hb, or_tb, ih]
      constructor
      · rintro (⟨i, h1, h2, h3⟩ | h)
        · exact ⟨i, by omega, h2, h3⟩
        · exact ⟨k, by omega, hb, h.symm⟩
      · rintro ⟨i, h1, h2, h3⟩
        by_cases q : i = k
        · subst q; exact Or.inr h3.symm
        · exact Or.inl ⟨i, by omega, h2, h3⟩
    · rw [if_neg hb, ih]
      constructor
      · rintro ⟨i, h1, h2, h3⟩; exact ⟨i, by omega, h2, h3⟩
      · rintro ⟨i, h1, h2, h3⟩
        by_cases q : i = k
        · subst q; exact absurd h2 hb
        · exact ⟨i, by omega, h2, h3⟩
/-- a set of the school's stops as a set of stops -/
def ph (e : Nat → Nat) (m S : Nat) : Nat := phK e S m
theorem EM_inj {e : Nat → Nat} {m n i j : Nat} (h : EM e m n) (hi : i < m) (hj : j < m) (he : e i = e j) : i = j := by
  rcases Nat.lt_or_ge i j with q | q
  · have := h.1 i j q hj; omega
  · rcases Nat.lt_or_ge j i with q2 | q2
    · have := h.1 j i q2 hi; omega
    · omega
theorem ph_tb {e : Nat → Nat} {m n S i : Nat} (h : EM e m n) (hi : i < m) : (ph e m S).testBit (e i) = S.testBit i := by
  apply Bool.eq_iff_iff.mpr
  unfold ph
  rw [phK_tb]
  constructor
  · rintro ⟨j, h1, h2, h3⟩; rw [← EM_inj h h1 hi h3]; exact h2
  · intro q; exact ⟨i, hi, q, rfl⟩
theorem ph_ex {e : Nat → Nat} {m S x : Nat} (h : (ph e m S).testBit x = true) : ∃ i, i < m ∧ S.testBit i = true ∧ e i = x := (phK_tb m).mp h
theorem ph_lt {e : Nat → Nat} {m n S : Nat} (h : EM e m n) : ph e m S < 2 ^ n := Nat.lt_pow_two_of_testBit _ (fun i hi => Bool.eq_false_iff.mpr (fun q => by
  obtain ⟨j, h1, -, h3⟩ := ph_ex q
  have := h.2.1 j h1
  omega))
theorem ph_lt10 {e : Nat → Nat} {m n S : Nat} (h : EM e m n) : ph e m S < 1024 := Nat.lt_of_lt_of_le (ph_lt h) (pow10' h.2.2.2)
theorem ph_0 {e : Nat → Nat} {m : Nat} : ph e m 0 = 0 := by
  apply Nat.eq_of_testBit_eq
  intro x
  rw [Nat.zero_testBit]
  exact Bool.eq_false_iff.mpr (fun q => by obtain ⟨i, -, h2, -⟩ := ph_ex q; simp at h2)
theorem ph_diff {e : Nat → Nat} {m n S R : Nat} (h : EM e m n) : ph e m (bdiff S R) = bdiff (ph e m S) (ph e m R) := by
  apply Nat.eq_of_testBit_eq
  intro x
  by_cases hx : ∃ i, i < m ∧ e i = x
  · obtain ⟨i, hi, rfl⟩ := hx
    rw [ph_tb h hi, bdiff_tb, bdiff_tb, ph_tb h hi, ph_tb h hi]
  · have no : ∀ S, (ph e m S).testBit x = false := fun S => Bool.eq_false_iff.mpr (fun q => by
      obtain ⟨i, h1, -, h3⟩ := ph_ex q
      exact hx ⟨i, h1, h3⟩)
    rw [bdiff_tb, no, no, no]; rfl
theorem ph_pow {e : Nat → Nat} {m n i : Nat} (h : EM e m n) (hi : i < m) : ph e m (2 ^ i) = 2 ^ e i := by
  apply Nat.eq_of_testBit_eq
  intro x
  apply Bool.eq_iff_iff.mpr
  rw [Nat.testBit_two_pow, decide_eq_true_eq]
  constructor
  · intro q
    obtain ⟨j, h1, h2, h3⟩ := ph_ex q
    rw [Nat.testBit_two_pow, decide_eq_true_eq] at h2
    rw [h2]; exact h3
  · intro q
    rw [← q, ph_tb h hi]; exact Nat.testBit_two_pow_self
theorem lt_hb : ∀ (t s : Nat), s < t → ∃ i, t.testBit i = true ∧ s.testBit i = false ∧ ∀ j, i < j → s.testBit j = t.testBit j := by
  intro t
  induction t using Nat.strongRecOn with
  | _ t ih =>
    intro s hs
    by_cases q : s / 2 < t / 2
    · obtain ⟨i, h1, h2, h3⟩ := ih (t / 2) (by omega) (s / 2) q
      refine ⟨i + 1, by rw [Nat.testBit_succ]; exact h1, by rw [Nat.testBit_succ]; exact h2, fun j hj => ?_⟩
      obtain ⟨k, rfl⟩ : ∃ k, j = k + 1 := ⟨j - 1, by omega⟩
      rw [Nat.testBit_succ, Nat.testBit_succ]
      exact h3 k (by omega)
    · have e : s / 2 = t / 2 := by omega
      refine ⟨0, ?_, ?_, fun j hj => ?_⟩
      · rw [Nat.testBit_zero]; simp; omega
      · rw [Nat.testBit_zero]; simp; omega
      · obtain ⟨k, rfl⟩ : ∃ k, j = k + 1 := ⟨j - 1, by omega⟩
        rw [Nat.testBit_succ, Nat.testBit_succ, e]
theorem hb_lt {n m i : Nat} (hn : n.testBit i = false) (hm : m.testBit i = true) (h : ∀ j, i < j → n.testBit j = m.testBit j) : n < m := by
  rcases Nat.lt_or_ge n m with q | q
  · exact q
  · exfalso
    by_cases e : m = n
    · subst e; rw [hn] at hm; cases hm
    · obtain ⟨k, h1, h2, h3⟩ := lt_hb n m (by omega)
      rcases Nat.lt_or_ge i k with w | w
      · rw [h k w, h2] at h1; cases h1
      · by_cases w2 : k = i
        · subst w2; rw [hn] at h1; cases h1
        · have := h3 i (by omega)
          rw [hn, hm] at this; cases this
theorem tb_big {S m i : Nat} (h : S < 2 ^ m) (hi : S.testBit i = true) : i < m := by
  rcases Nat.lt_or_ge i m with q | q
  · exact q
  · rw [Nat.testBit_lt_two_pow (Nat.lt_of_lt_of_le h (Nat.pow_le_pow_right (by decide) q))] at hi
    cases hi
theorem ph_mono {e : Nat → Nat} {m n S R : Nat} (h : EM e m n) (hR : R < 2 ^ m) (hSR : S < R) : ph e m S < ph e m R := by
  obtain ⟨i, h1, h2, h3⟩ := lt_hb R S hSR
  have him := tb_big hR h1
  refine hb_lt (i := e i) ?_ ?_ (fun x hx => ?_)
  · rw [ph_tb h him]; exact h2
  · rw [ph_tb h him]; exact h1
  · by_cases hq : ∃ j, j < m ∧ e j = x
    · obtain ⟨j, hj, rfl⟩ := hq
      rw [ph_tb h hj, ph_tb h hj]
      refine h3 j ?_
      rcases Nat.lt_or_ge i j with q | q
      · exact q
      · rcases Nat.lt_or_ge j i with q2 | q2
        · have := h.1 j i q2 him; omega
        · have : i = j := by omega
          subst this; omega
    · have no : ∀ S, (ph e m S).testBit x = false := fun S => Bool.eq_false_iff.mpr (fun q => by
        obtain ⟨j, q1, -, q3⟩ := ph_ex q
        exact hq ⟨j, q1, q3⟩)
      rw [no, no]
theorem ph_inj {e : Nat → Nat} {m n S R : Nat} (h : EM e m n) (hS : S < 2 ^ m) (hR : R < 2 ^ m) (he : ph e m S = ph e m R) : S = R := by
  rcases Nat.lt_or_ge S R with q | q
  · have := ph_mono h hR q; omega
  · rcases Nat.lt_or_ge R S with q2 | q2
    · have := ph_mono h hS q2; omega
    · omega
/-- the set of the school's stops of a set of stops -/
def ps (e : Nat → Nat) (m R : Nat) : Nat := setB (fun i => R.testBit (e i)) m
theorem ps_lt (e : Nat → Nat) (m R : Nat) : ps e m R < 2 ^ m := setB_lt _ m
theorem ps_ph {e : Nat → Nat} {m n R : Nat} (h : EM e m n) (hR : ∀ x, R.testBit x = true → ∃ i, i < m ∧ e i = x) : ph e m (ps e m R) = R := by
  apply Nat.eq_of_testBit_eq
  intro x
  by_cases hx : ∃ i, i < m ∧ e i = x
  · obtain ⟨i, hi, rfl⟩ := hx
    rw [ph_tb h hi]
    unfold ps
    rw [setB_tb]; simp [hi]
  · rw [Bool.eq_false_iff.mpr (fun q => hx (hR x q))]
    exact Bool.eq_false_iff.mpr (fun q => by
      obtain ⟨i, h1, -, h3⟩ := ph_ex q
      exact hx ⟨i, h1, h3⟩)
theorem ph_zero {e : Nat → Nat} {m n S : Nat} (h : EM e m n) (hS : S < 2 ^ m) : ph e m S = 0 ↔ S = 0 := by
  constructor
  · intro q; exact ph_inj h hS (Nat.two_pow_pos m) (by rw [q, ph_0])
  · intro q; rw [q, ph_0]
theorem ph_lo {e : Nat → Nat} {m n S : Nat} (h : EM e m n) (hS : S < 2 ^ m) (h0 : S ≠ 0) : loI (ph e m S) = e (loI S) := by
  have hS10 : S < 1024 := Nat.lt_of_lt_of_le hS (pow10' h.2.2.1)
  obtain ⟨a1, a2, a3⟩ := loI_tb S hS10 h0
  have hp0 : ph e m S ≠ 0 := fun q => h0 ((ph_zero h hS).mp q)
  obtain ⟨b1, b2, b3⟩ := loI_tb (ph e m S) (ph_lt10 h) hp0
  have hlm := tb_big hS a1
  obtain ⟨i, c1, c2, c3⟩ := ph_ex b1
  rw [← c3]
  congr 1
  rcases Nat.lt_or_ge i (loI S) with q | q
  · rw [a3 i q] at c2; cases c2
  · rcases Nat.lt_or_ge (loI S) i with q2 | q2
    · have hlt := h.1 _ _ q2 c1
      have := b3 (e (loI S)) (by omega)
      rw [ph_tb h hlm, a1] at this; cases this
    · omega
/-- data of one school's stops -/
def cpD (d : pD) (e : Nat → Nat) (m : Nat) : pD := (m, fun i => d.2.1 (e i), d.2.2.1, fun i => d.2.2.2.1 (e i), d.2.2.2.2)
theorem minF_ph {e : Nat → Nat} {m n S : Nat} {w : Nat → Int32} {v0 : Int32} (h : EM e m n) : minF (ph e m S) w v0 n = minF S (fun i => w (e i)) v0 m := by
  rw [minF_fold, minF_fold]
  exact foldP_tr (fun a => a) h.1 (fun y hy => by obtain ⟨i, h1, -, h3⟩ := ph_ex hy; exact ⟨i, h1, h3⟩) (fun i hi => ph_tb h hi) (fun i a _ _ => rfl) n m (Nat.le_refl _) h.2.1 (fun i h1 h2 => absurd h1 (by omega))
theorem sumB_ph {e : Nat → Nat} {m n S : Nat} {g : Nat → Int32} (h : EM e m n) : sumB (ph e m S) g n = sumB S (fun i => g (e i)) m := by
  rw [sumB_fold, sumB_fold]
  exact foldP_tr (fun a => a) h.1 (fun y hy => by obtain ⟨i, h1, -, h3⟩ := ph_ex hy; exact ⟨i, h1, h3⟩) (fun i hi => ph_tb h hi) (fun i a _ _ => rfl) n m (Nat.le_refl _) h.2.1 (fun i h1 h2 => absurd h1 (by omega))
theorem nxP_ph {e : Nat → Nat} {m n S : Nat} {w : Nat → Int32} (h : EM e m n) : nxP w (ph e m S) n = (nxP (fun i => w (e i)) S m).map (fun p => (e p.1, p.2)) := by
  rw [nxP_fold, nxP_fold]
  refine foldP_tr (a0 := none) (fun a => Option.map (fun p : Nat × Int32 => (e p.1, p.2)) a) h.1 (fun y hy => by obtain ⟨i, h1, -, h3⟩ := ph_ex hy; exact ⟨i, h1, h3⟩) (fun i hi => ph_tb h hi) (fun i a _ _ => ?_) n m (Nat.le_refl _) h.2.1 (fun i h1 h2 => absurd h1 (by omega))
  cases a with
  | none => rfl
  | some p =>
    obtain ⟨b, l⟩ := p
    show (if w (e i) < l then some (e i, w (e i)) else some (e b, l)) = Option.map _ (if w (e i) < l then some (i, w (e i)) else some (b, l))
    by_cases q : w (e i) < l
    · rw [if_pos q, if_pos q]; rfl
    · rw [if_neg q, if_neg q]; rfl
section CPT
variable {d : pD} {c : pC} {e : Nat → Nat} {m : Nat}
theorem fS_ph (h : EM e m d.1) : ∀ S, S < 2 ^ m → ∀ i, i < m → fS d c (ph e m S) (e i) = fS (cpD d e m) c S i := by
  intro S
  induction S using Nat.strongRecOn with
  | _ S ih =>
    intro hS i hi
    by_cases hb : S.testBit i = true
    · have hb2 : (ph e m S).testBit (e i) = true := by rw [ph_tb h hi]; exact hb
      have hlt := bdiff_lt hb
      show fB _ _ _ _ _ = fB _ _ _ _ _
      rw [fB_eq hb2, fB_eq hb, ← ph_pow h hi, ← ph_diff h, minF_ph h]
      congr 1
      have hz : (ph e m (bdiff S (2 ^ i)) = 0) = (bdiff S (2 ^ i) = 0) := propext (ph_zero h (by omega))
      simp only [hz]
      refine minF_congr m (fun g hg _ => ?_)
      show _ + fS d c (ph e m (bdiff S (2 ^ i))) (e g) = _ + fS (cpD d e m) c (bdiff S (2 ^ i)) g
      rw [ih _ hlt (by omega) g hg]
      rfl
    · have hb2 : ¬ (ph e m S).testBit (e i) = true := by rw [ph_tb h hi]; exact hb
      show fB _ _ _ _ _ = fB _ _ _ _ _
      rw [fB, dif_neg hb2, fB, dif_neg hb]
theorem lS_ph (h : EM e m d.1) {S : Nat} (hS : S < 2 ^ m) : lS d c (ph e m S) = lS (cpD d e m) c S := by
  show minF _ _ _ _ = minF _ _ _ _
  rw [minF_ph h]
  exact minF_congr m (fun g hg _ => fS_ph h S hS g hg)
theorem rS_ph (h : EM e m d.1) {S : Nat} (hS : S < 2 ^ m) : rS d c (ph e m S) = rS (cpD d e m) c S := by
  have h1 := lS_ph (c := c) h hS
  have h2 := sumB_ph (S := S) (g := d.2.2.2.1) h
  show (decide (lS d c (ph e m S) ≤ c.2) && decide (sumB (ph e m S) d.2.2.2.1 d.1 ≤ d.2.2.2.2)) = _
  rw [h1, h2]
  rfl
theorem nxt_ph (h : EM e m d.1) {S : Nat} (hS : S < 2 ^ m) {bh : Option Nat} (hbh : ∀ b, bh = some b → b < m) : nxt d c (ph e m S) (bh.map e) = (nxt (cpD d e m) c S bh).map e := by
  unfold nxt
  rw [nxP_ph h, Option.map_map, Option.map_map]
  have hc : nxP (fun i => wyP d (bh.map e) (e i) + fS d c (ph e m S) (e i)) S m = nxP (fun g => wyP (cpD d e m) bh g + fS (cpD d e m) c S g) S m := nxP_congr m (fun k hk => by
    have hw : wyP d (bh.map e) (e k) = wyP (cpD d e m) bh k := by cases bh <;> rfl
    rw [hw, fS_ph h S hS k hk])
  have hc2 : (cpD d e m).1 = m := rfl
  rw [hc, hc2]
  cases nxP (fun g => wyP (cpD d e m) bh g + fS (cpD d e m) c S g) S m <;> rfl
theorem oS_ph (h : EM e m d.1) {S : Nat} (hS : S < 2 ^ m) : ∀ k, oS d c (ph e m S) k = (ph e m (oS (cpD d e m) c S k).1, (oS (cpD d e m) c S k).2.map e)
  | 0 => by
    show (ph e m S, nxt d c (ph e m S) none) = (ph e m S, (nxt (cpD d e m) c S none).map e)
    rw [← nxt_ph h hS (bh := none) (fun b hb => by cases hb)]
    rfl
  | k + 1 => by
    have ih := oS_ph h hS k
    have hsub := bsub_le (oS_sub (d := cpD d e m) (c := c) (S := S) k)
    rw [oS_s, oS_s, ih]
    cases hn : (oS (cpD d e m) c S k).2 with
    | none => show _ = (ph e m (oS (cpD d e m) c S k).1, (oS (cpD d e m) c S k).2.map e); rw [hn]; rfl
    | some g =>
      have hg : g < m := by
        have : ∀ k g, (oS (cpD d e m) c S k).2 = some g → g < m := by
          intro k
          induction k with
          | zero => intro g hg; exact (nxt_tb hg).1
          | succ k ihk =>
            intro g hg
            rw [oS_s] at hg
            cases h2 : (oS (cpD d e m) c S k).2 with
            | none => rw [h2] at hg; dsimp only at hg; rw [h2] at hg; cases hg
            | some g2 => rw [h2] at hg; exact (nxt_tb hg).1
        exact this k g hn
      have hle := bdiff_le (oS (cpD d e m) c S k).1 (2 ^ g)
      show (bdiff (ph e m (oS (cpD d e m) c S k).1) (2 ^ e g), nxt d c (bdiff (ph e m (oS (cpD d e m) c S k).1) (2 ^ e g)) (some (e g))) = (ph e m (bdiff (oS (cpD d e m) c S k).1 (2 ^ g)), (nxt (cpD d e m) c (bdiff (oS (cpD d e m) c S k).1 (2 ^ g)) (some g)).map e)
      rw [← ph_pow h hg, ← ph_diff h, ← nxt_ph h (by omega) (bh := some g) (fun b hb => by cases hb; exact hg)]
      rfl
theorem pS_ph (h : EM e m d.1) : ∀ S, S < 2 ^ m → pS d c (ph e m S) = ((pS (cpD d e m) c S).1, (pS (cpD d e m) c S).2.1, ph e m (pS (cpD d e m) c S).2.2) := by
  intro S
  induction S using Nat.strongRecOn with
  | _ S ih =>
    intro hS
    have hm10 := pow10' h.2.2.1
    by_cases h0 : S = 0
    · subst h0
      rw [ph_0, show pS d c 0 = (0, 0, 0) from pB_0, show pS (cpD d e m) c 0 = (0, 0, 0) from pB_0]
      show _ = (0, 0, ph e m 0)
      rw [ph_0]
    · have hp0 : ph e m S ≠ 0 := fun q => h0 ((ph_zero h hS).mp q)
      obtain ⟨a1, a2, a3⟩ := loI_tb S (by omega) h0
      have hlm := tb_big hS a1
      show pB _ _ _ = _
      rw [pB_eq hp0 (ph_lt10 h), show pS (cpD d e m) c S = pK _ _ S (S + 1) from pB_eq h0 (by omega)]
      have fold : ∀ (rt : Nat → Bool) (le : Nat → Int32) (R k : Nat), pK rt le R k = foldP (fun P => cdP rt R P) (fun P acc => stP acc (pB rt le (bdiff R P)) (le P) P) (1000000, 1000000, 0) k := by
        intro rt le R k
        induction k with
        | zero => rfl
        | succ k ihk => rw [pK_s, foldP_s, ihk]
      rw [fold, fold]
      have hcd : ∀ i, i < 2 ^ m → cdP (rS d c) (ph e m S) (ph e m i) = cdP (rS (cpD d e m) c) S i := fun i hi => by
        unfold cdP
        have e1 : decide (bdiff (ph e m i) (ph e m S) = 0) = decide (bdiff i S = 0) := by
          rw [← ph_diff h]
          exact decide_eq_decide.mpr (ph_zero h (by have := bdiff_le i S; omega))
        rw [e1, ph_lo h hS h0, ph_tb h hlm, rS_ph h hi]
      refine (foldP_tr (e := ph e m) (M := 2 ^ m) (p' := fun P => cdP (rS (cpD d e m) c) S P) (st' := fun P acc => stP acc (pB (rS (cpD d e m) c) (lS (cpD d e m) c) (bdiff S P)) (lS (cpD d e m) c P) P) (a0 := (1000000, 1000000, 0)) (fun a : pP => ((a.1, a.2.1, ph e m a.2.2) : pP)) (fun i j hij hj => ph_mono h hj hij) (fun y hy => ?_) hcd (fun i a hi hp => ?_) (ph e m S + 1) (S + 1) (by omega) (fun i hi => ?_) (fun i h1 h2 => ?_)) |> fun q => (by rw [ph_0] at q; exact q)
      · refine ⟨ps e m y, ps_lt e m y, ps_ph h (fun x hx => ?_)⟩
        obtain ⟨i, q1, -, q3⟩ := ph_ex (bsub_tb (cdP_1 hy).1 hx)
        exact ⟨i, q1, q3⟩
      · obtain ⟨c1, c2, c3⟩ := cdP_1 hp
        have hlt := bdiff_lt2 a1 c2
        have hi2 := ih (bdiff S i) hlt (by omega)
        rw [ph_diff h] at hi2
        have e2 : pB (rS d c) (lS d c) (bdiff (ph e m S) (ph e m i)) = ((pS (cpD d e m) c (bdiff S i)).1, (pS (cpD d e m) c (bdiff S i)).2.1, ph e m (pS (cpD d e m) c (bdiff S i)).2.2) := hi2
        rw [e2, lS_ph h hi]
        unfold stP
        dsimp only
        split
        · split <;> rfl
        · rfl
      · by_cases q : i = S
        · subst q; omega
        · have := ph_mono h hS (show i < S by omega); omega
      · have := ph_mono (e := e) (m := m) (S := S) (R := i) h h2 (by omega); omega
end CPT
