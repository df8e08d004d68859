/-! ===== MORNINGS ===== -/
theorem oS_s (d : pD) (c : pC) (S k : Nat) : oS d c S (k + 1) = match (oS d c S k).2 with
    | none => oS d c S k
    | some g => (bdiff (oS d c S k).1 (2 ^ g), nxt d c (bdiff (oS d c S k).1 (2 ^ g)) (some g)) := rfl
theorem oS_cd {d : pD} {c : pC} {S : Nat} (h10 : d.1 ≤ 10) : ∀ k g, (oS d c S k).2 = some g → cdB (oS d c S k).1 10 + k ≤ cdB S 10 ∧ (oS d c S k).1.testBit g = true ∧ g < d.1
  | 0, g, h => ⟨Nat.le_refl _, (nxt_tb h).2, (nxt_tb h).1⟩
  | k + 1, g, h => by
    cases h2 : (oS d c S k).2 with
    | none => rw [oS_s, h2] at h; dsimp only at h; rw [h2] at h; cases h
    | some g2 =>
      obtain ⟨i1, i2, i3⟩ := oS_cd h10 k g2 h2
      rw [oS_s, h2] at h ⊢
      have hl := cdB_lt i2 (Nat.testBit_two_pow_self (n := g2)) 10 (by omega)
      dsimp only at h ⊢
      exact ⟨by omega, (nxt_tb h).2, (nxt_tb h).1⟩
theorem oS_lt {d : pD} {c : pC} {S k g : Nat} (h10 : d.1 ≤ 10) (h : (oS d c S k).2 = some g) : k < cdB S 10 ∧ k < 10 ∧ g < d.1 := by
  obtain ⟨h1, h2, h3⟩ := oS_cd h10 k g h
  have := cdB_pos h2 (show g < 10 by omega)
  have := cdB_bound S 10
  exact ⟨by omega, by omega, h3⟩
theorem oS_end {d : pD} {c : pC} {S k : Nat} (h : (oS d c S k).2 = none) : ∀ j, (oS d c S (k + j)).2 = none
  | 0 => h
  | j + 1 => by
    have := oS_end h j
    rw [show k + (j + 1) = (k + j) + 1 by omega, oS_s, this]
    exact this
/-- the minutes of the first k stops of a route's order, by the distances D -/
def swA (D : tT) (d : pD) (c : pC) (S : Nat) : Nat → Int32
  | 0 => 0
  | k + 1 => match (oS d c S k).2 with
    | none => swA D d c S k
    | some g => swA D d c S k + ((1 : Int32) + D (d.2.1 g) (match (oS d c S (k + 1)).2 with | none => c.1 | some g' => d.2.1 g'))
theorem swA_s (D : tT) (d : pD) (c : pC) (S k : Nat) : swA D d c S (k + 1) = match (oS d c S k).2 with
    | none => swA D d c S k
    | some g => swA D d c S k + ((1 : Int32) + D (d.2.1 g) (match (oS d c S (k + 1)).2 with | none => c.1 | some g' => d.2.1 g')) := rfl
theorem swA_end {D : tT} {d : pD} {c : pC} {S k : Nat} (h : (oS d c S k).2 = none) : ∀ j, swA D d c S (k + j) = swA D d c S k
  | 0 => rfl
  | j + 1 => by
    rw [show k + (j + 1) = (k + j) + 1 by omega, swA_s, oS_end h j]
    exact swA_end h j
theorem sumB_or {S x : Nat} {g : Nat → Int32} (h : S.testBit x = false) : ∀ n, x < n → sumB (S ||| 2 ^ x) g n = sumB S g n + g x
  | 0, hn => absurd hn (by omega)
  | n + 1, hn => by
    have gen : ∀ m, m ≤ x → sumB (S ||| 2 ^ x) g m = sumB S g m := by
      intro m
      induction m with
      | zero => intro _; rfl
      | succ m ih =>
        intro hm
        rw [sumB_s, sumB_s, ih (by omega), Nat.testBit_or, Nat.testBit_two_pow, decide_eq_false (show ¬ x = m by omega), Bool.or_false]
    rw [sumB_s, sumB_s]
    by_cases e : x = n
    · subst e
      rw [gen x (Nat.le_refl _), or_tb.mpr (Or.inr rfl), h]
      simp
    · rw [sumB_or h n (by omega), Nat.testBit_or, Nat.testBit_two_pow, decide_eq_false e, Bool.or_false]
      rw [Int32.add_assoc, Int32.add_assoc, Int32.add_comm (g x)]
theorem sumB_bits {S : Nat} {g g' : Nat → Int32} : ∀ n, (∀ k, k < n → S.testBit k = true → g k = g' k) → sumB S g n = sumB S g' n
  | 0, _ => rfl
  | n + 1, h => by
    rw [sumB_s, sumB_s, sumB_bits n (fun k hk => h k (by omega))]
    by_cases hb : S.testBit n = true
    · rw [if_pos hb, if_pos hb, h n (by omega) hb]
    · rw [if_neg hb, if_neg hb]
theorem sumB_all {S : Nat} {g : Nat → Int32} : ∀ n, (∀ k, k < n → S.testBit k = true) → sumB S g n = cSum g n
  | 0, _ => rfl
  | n + 1, h => by
    rw [sumB_s, sumB_all n (fun k hk => h k (by omega)), if_pos (h n (by omega))]
    rfl
theorem sumB_0 {g : Nat → Int32} : ∀ n, sumB 0 g n = 0
  | 0 => rfl
  | n + 1 => by
    rw [sumB_s, sumB_0 n]; simp
/-- what a morning is made from: starts, ways, lengths, what is late; bells, pupils -/
abbrev mP : Type := (Nat → Int32) × (Nat → Nat → Int32) × (Nat → Int32) × (Nat → Int32) × (Nat → Int32) × (Nat → Int32)
/-- when route r comes, behind fr -/
def cmV (p : mP) (C : Nat → Int32) (fr : Option Nat) (r : Nat) : Int32 := (match fr with
  | none => p.1 r
  | some a => if p.1 r < C a + p.2.1 a r then C a + p.2.1 a r else p.1 r) + p.2.2.2.1 r + p.2.2.1 r
def ltV (p : mP) (v : Int32) (r : Nat) : Int32 := if p.2.2.2.2.1 r < v then p.2.2.2.2.2 r else 0
/-- a bus drives its chain on -/
def drC (p : mP) (nx : Nat → Option Nat) : Nat → (Nat → Int32) × Int32 → Option Nat → Option Nat → (Nat → Int32) × Int32
  | 0, x, _, _ => x
  | m + 1, x, fr, o => match o with
    | none => x
    | some r => drC p nx m (fup x.1 r (cmV p x.1 fr r), x.2 + ltV p (cmV p x.1 fr r) r) (some r) (nx r)
theorem drC_none (p : mP) (nx : Nat → Option Nat) (x : (Nat → Int32) × Int32) (fr : Option Nat) : ∀ m, drC p nx m x fr none = x
  | 0 => rfl
  | _ + 1 => rfl
/-- all buses drive, those of the last e of n -/
def drA (p : mP) (nx : Nat → Option Nat) (fir : Nat → Bool) (n : Nat) : Nat → (Nat → Int32) × Int32 → (Nat → Int32) × Int32
  | 0, x => x
  | e + 1, x => drA p nx fir n e (if fir (n - (e + 1)) then drC p nx n x none (some (n - (e + 1))) else x)
theorem drA_s (p : mP) (nx : Nat → Option Nat) (fir : Nat → Bool) (n e : Nat) (x : (Nat → Int32) × Int32) : drA p nx fir n (e + 1) x = drA p nx fir n e (if fir (n - (e + 1)) then drC p nx n x none (some (n - (e + 1))) else x) := rfl
/-- what chains are -/
def CHN (nx : Nat → Option Nat) (fir : Nat → Bool) (n : Nat) (dp : Nat → Nat) : Prop := dpOK nx n dp ∧ (∀ a b x, a < n → b < n → nx a = some x → nx b = some x → a = b) ∧ (∀ x, x < n → (fir x = true ↔ ∀ a, a < n → nx a ≠ some x)) ∧ ∀ x, x < n → dp x < n
def DI (p : mP) (nx : Nat → Option Nat) (fir : Nat → Bool) (n V : Nat) (fr : Option Nat) (lim : Nat) (x : (Nat → Int32) × Int32) : Prop :=
  (∀ y, V.testBit y = true → y < n) ∧ (∀ y, y < n → fir y = true → (V.testBit y = true ↔ y < lim)) ∧ (∀ a y, a < n → nx a = some y → (V.testBit y = true ↔ (V.testBit a = true ∧ fr ≠ some a))) ∧ x.2 = sumB V (fun r => ltV p (x.1 r) r) n
theorem DI_sum {p : mP} {n V r : Nat} {x : (Nat → Int32) × Int32} {v : Int32} (hx : x.2 = sumB V (fun r => ltV p (x.1 r) r) n) (hr : r < n) (hV : V.testBit r = false) : x.2 + ltV p v r = sumB (V ||| 2 ^ r) (fun q => ltV p (fup x.1 r v q) q) n := by
  rw [sumB_or hV n hr, hx, fup_eq]
  congr 1
  exact sumB_bits n (fun k hk hb => by rw [fup_ne (fun e => by rw [e, hV] at hb; cases hb)])
theorem DI_first {p : mP} {nx : Nat → Option Nat} {fir : Nat → Bool} {n V r : Nat} {dp : Nat → Nat} {x : (Nat → Int32) × Int32} {v : Int32} (hc : CHN nx fir n dp) (h : DI p nx fir n V none r x) (hr : r < n) (hf : fir r = true) : DI p nx fir n (V ||| 2 ^ r) (some r) (r + 1) (fup x.1 r v, x.2 + ltV p v r) := by
  have hV : V.testBit r = false := Bool.eq_false_iff.mpr (fun q => by have := (h.2.1 r hr hf).mp q; omega)
  refine ⟨fun y hy => ?_, fun y hy hfy => ?_, fun a y ha hn => ?_, DI_sum h.2.2.2 hr hV⟩
  · rcases or_tb.mp hy with q | q
    · exact h.1 y q
    · omega
  · rw [or_tb, h.2.1 y hy hfy]; omega
  · have hyr : y ≠ r := fun e => (hc.2.2.1 r hr).mp hf a ha (by rw [hn, e])
    rw [or_tb, or_tb, h.2.2.1 a y ha hn]
    constructor
    · rintro (⟨q1, -⟩ | q)
      · exact ⟨Or.inl q1, fun e => by cases e; rw [hV] at q1; cases q1⟩
      · exact absurd q hyr
    · rintro ⟨q1 | q1, q2⟩
      · exact Or.inl ⟨q1, fun e => by cases e⟩
      · exact absurd (by rw [q1]) q2
theorem DI_next {p : mP} {nx : Nat → Option Nat} {fir : Nat → Bool} {n V a r lim : Nat} {dp : Nat → Nat} {x : (Nat → Int32) × Int32} {v : Int32} (hc : CHN nx fir n dp) (h : DI p nx fir n V (some a) lim x) (ha : a < n) (hVa : V.testBit a = true) (hn : nx a = some r) : DI p nx fir n (V ||| 2 ^ r) (some r) lim (fup x.1 r v, x.2 + ltV p v r) := by
  have hr := (hc.1 a r ha hn).1
  have hV : V.testBit r = false := Bool.eq_false_iff.mpr (fun q => ((h.2.2.1 a r ha hn).mp q).2 rfl)
  have hnf : ¬ fir r = true := fun q => (hc.2.2.1 r hr).mp q a ha hn
  refine ⟨fun y hy => ?_, fun y hy hfy => ?_, fun b y hb hny => ?_, DI_sum h.2.2.2 hr hV⟩
  · rcases or_tb.mp hy with q | q
    · exact h.1 y q
    · omega
  · rw [or_tb, h.2.1 y hy hfy]
    exact ⟨fun q => q.resolve_right (fun e => hnf (e ▸ hfy)), Or.inl⟩
  · rw [or_tb, or_tb]
    by_cases e : y = r
    · have eb : b = a := hc.2.1 b a r hb ha (by rw [hny, e]) hn
      subst eb
      exact ⟨fun _ => ⟨Or.inl hVa, fun q => by cases q; rw [hV] at hVa; cases hVa⟩, fun _ => Or.inr e⟩
    · rw [h.2.2.1 b y hb hny]
      constructor
      · rintro (⟨q1, -⟩ | q)
        · exact ⟨Or.inl q1, fun e2 => by cases e2; rw [hV] at q1; cases q1⟩
        · exact absurd q e
      · rintro ⟨q1 | q1, q2⟩
        · refine Or.inl ⟨q1, fun e2 => ?_⟩
          cases e2
          rw [hn] at hny; cases hny; exact e rfl
        · exact absurd (by rw [q1]) q2
theorem DI_end {p : mP} {nx : Nat → Option Nat} {fir : Nat → Bool} {n V a lim : Nat} {x : (Nat → Int32) × Int32} (h : DI p nx fir n V (some a) lim x) (hn : nx a = none) : DI p nx fir n V none lim x := by
  refine ⟨h.1, h.2.1, fun b y hb hny => ?_, h.2.2.2⟩
  rw [h.2.2.1 b y hb hny]
  exact ⟨fun q => ⟨q.1, fun e => by cases e⟩, fun q => ⟨q.1, fun e => by cases e; rw [hn] at hny; cases hny⟩⟩
theorem DI_chain {p : mP} {nx : Nat → Option Nat} {fir : Nat → Bool} {n lim : Nat} {dp : Nat → Nat} (hc : CHN nx fir n dp) : ∀ (m a V : Nat) (x : (Nat → Int32) × Int32), a < n → dp a ≤ m → V.testBit a = true → DI p nx fir n V (some a) lim x → ∃ V', DI p nx fir n V' none lim (drC p nx m x (some a) (nx a)) := by
  intro m
  induction m with
  | zero =>
    intro a V x ha hd hV h
    cases hn : nx a with
    | none => exact ⟨V, DI_end h hn⟩
    | some r => have := (hc.1 a r ha hn).2; omega
  | succ m ih =>
    intro a V x ha hd hV h
    cases hn : nx a with
    | none => exact ⟨V, DI_end h hn⟩
    | some r =>
      obtain ⟨h1, h2⟩ := hc.1 a r ha hn
      exact ih r _ _ h1 (by omega) (or_tb.mpr (Or.inr rfl)) (DI_next hc h ha hV hn)
theorem DI_all {p : mP} {nx : Nat → Option Nat} {fir : Nat → Bool} {n : Nat} {dp : Nat → Nat} (hc : CHN nx fir n dp) : ∀ (e V : Nat) (x : (Nat → Int32) × Int32), e ≤ n → DI p nx fir n V none (n - e) x → ∃ V', DI p nx fir n V' none n (drA p nx fir n e x)
  | 0, V, x, _, h => ⟨V, h⟩
  | e + 1, V, x, he, h => by
    rw [drA_s]
    by_cases hf : fir (n - (e + 1)) = true
    · rw [if_pos hf]
      have h1 := DI_first (v := cmV p x.1 none (n - (e + 1))) hc h (by omega) hf
      rw [show n - (e + 1) + 1 = n - e by omega] at h1
      obtain ⟨n', hn'⟩ : ∃ n', n = n' + 1 := ⟨n - 1, by omega⟩
      have hdn := hc.2.2.2 (n - (e + 1)) (by omega)
      obtain ⟨V', hV'⟩ := DI_chain hc n' (n - (e + 1)) _ _ (by omega) (by omega) (or_tb.mpr (Or.inr rfl)) h1
      have ed : drC p nx n x none (some (n - (e + 1))) = drC p nx n' (fup x.1 (n - (e + 1)) (cmV p x.1 none (n - (e + 1))), x.2 + ltV p (cmV p x.1 none (n - (e + 1))) (n - (e + 1))) (some (n - (e + 1))) (nx (n - (e + 1))) := by
        generalize n - (e + 1) = r
        rw [hn']; rfl
      rw [ed]
      exact DI_all hc e V' _ (by omega) hV'
    · rw [if_neg hf]
      refine DI_all hc e V x (by omega) ⟨h.1, fun y hy hfy => ?_, h.2.2.1, h.2.2.2⟩
      rw [h.2.1 y hy hfy]
      have : y ≠ n - (e + 1) := fun q => hf (q ▸ hfy)
      omega
/-- the late pupils, route by route -/
theorem drA_sum {p : mP} {nx : Nat → Option Nat} {fir : Nat → Bool} {n : Nat} {dp : Nat → Nat} (hc : CHN nx fir n dp) (C : Nat → Int32) : (drA p nx fir n n (C, 0)).2 = cSum (fun r => ltV p ((drA p nx fir n n (C, 0)).1 r) r) n := by
  obtain ⟨V, hV⟩ := DI_all (p := p) hc n 0 (C, 0) (Nat.le_refl _) ⟨fun y hy => by simp at hy, fun y _ _ => by simp, fun a y _ _ => by simp, (sumB_0 n).symm⟩
  have all : ∀ (m x : Nat), x < n → n - dp x ≤ m → V.testBit x = true := by
    intro m
    induction m with
    | zero => intro x hx hm; have := hc.2.2.2 x hx; omega
    | succ m ih =>
      intro x hx hm
      by_cases hf : fir x = true
      · exact (hV.2.1 x hx hf).mpr hx
      · have : ¬ ∀ a, a < n → nx a ≠ some x := fun q => hf ((hc.2.2.1 x hx).mpr q)
        obtain ⟨a, ha⟩ := Classical.not_forall.mp this
        have hal : a < n := Classical.byContradiction fun q => ha (fun w => absurd w q)
        have hna : nx a = some x := Classical.byContradiction fun q => ha (fun _ => q)
        have hd := (hc.1 a x hal hna).2
        exact (hV.2.2.1 a x hal hna).mpr ⟨ih a hal (by omega), fun q => by cases q⟩
  rw [hV.2.2.2]
  exact sumB_all n (fun k hk => all (n - dp k) k hk (Nat.le_refl _))
