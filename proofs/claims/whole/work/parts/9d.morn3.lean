/-! ===== mornings: what stood before doesn't matter ===== -/
theorem cmV_cg {p : mP} {C C' : Nat → Int32} {fr : Option Nat} {r : Nat} (h : ∀ a, fr = some a → C a = C' a) : cmV p C fr r = cmV p C' fr r := by
  unfold cmV
  cases fr with
  | none => rfl
  | some a => dsimp only; rw [h a rfl]
theorem fup_ag {C C' : Nat → Int32} {V r : Nat} {v : Int32} (h : ∀ y, V.testBit y = true → C y = C' y) : ∀ y, (V ||| 2 ^ r).testBit y = true → fup C r v y = fup C' r v y := fun y hy => by
  by_cases e : y = r
  · subst e; rw [fup_eq, fup_eq]
  · rw [fup_ne e, fup_ne e]; exact h y ((or_tb.mp hy).resolve_right e)
theorem AG_chain {p : mP} {nx : Nat → Option Nat} {fir : Nat → Bool} {n lim : Nat} {dp : Nat → Nat} (hc : CHN nx fir n dp) : ∀ (m a V : Nat) (x x' : (Nat → Int32) × Int32), a < n → dp a ≤ m → V.testBit a = true → DI p nx fir n V (some a) lim x → (∀ y, V.testBit y = true → x.1 y = x'.1 y) → ∃ V', DI p nx fir n V' none lim (drC p nx m x (some a) (nx a)) ∧ ∀ y, V'.testBit y = true → (drC p nx m x (some a) (nx a)).1 y = (drC p nx m x' (some a) (nx a)).1 y := by
  intro m
  induction m with
  | zero =>
    intro a V x x' ha hd hV h hag
    cases hn : nx a with
    | none => exact ⟨V, DI_end h hn, hag⟩
    | some r => have := (hc.1 a r ha hn).2; omega
  | succ m ih =>
    intro a V x x' ha hd hV h hag
    cases hn : nx a with
    | none => exact ⟨V, DI_end h hn, hag⟩
    | some r =>
      obtain ⟨h1, h2⟩ := hc.1 a r ha hn
      have ec : cmV p x.1 (some a) r = cmV p x'.1 (some a) r := cmV_cg (fun b hb => by cases hb; exact hag a hV)
      have := ih r _ _ (fup x'.1 r (cmV p x'.1 (some a) r), x'.2 + ltV p (cmV p x'.1 (some a) r) r) h1 (by omega) (or_tb.mpr (Or.inr rfl)) (DI_next (v := cmV p x.1 (some a) r) hc h ha hV hn) (by rw [← ec]; exact fup_ag hag)
      exact this
theorem AG_all {p : mP} {nx : Nat → Option Nat} {fir : Nat → Bool} {n : Nat} {dp : Nat → Nat} (hc : CHN nx fir n dp) : ∀ (e V : Nat) (x x' : (Nat → Int32) × Int32), e ≤ n → DI p nx fir n V none (n - e) x → (∀ y, V.testBit y = true → x.1 y = x'.1 y) → ∃ V', DI p nx fir n V' none n (drA p nx fir n e x) ∧ ∀ y, V'.testBit y = true → (drA p nx fir n e x).1 y = (drA p nx fir n e x').1 y
  | 0, V, x, x', _, h, hag => ⟨V, h, hag⟩
  | e + 1, V, x, x', he, h, hag => by
    rw [drA_s, drA_s]
    by_cases hf : fir (n - (e + 1)) = true
    · rw [if_pos hf, if_pos hf]
      have h1 := DI_first (v := cmV p x.1 none (n - (e + 1))) hc h (by omega) hf
      rw [show n - (e + 1) + 1 = n - e by omega] at h1
      obtain ⟨n', hn'⟩ : ∃ n', n = n' + 1 := ⟨n - 1, by omega⟩
      have hdn := hc.2.2.2 (n - (e + 1)) (by omega)
      obtain ⟨V', hV', hag'⟩ := AG_chain hc n' (n - (e + 1)) _ _ (fup x'.1 (n - (e + 1)) (cmV p x'.1 none (n - (e + 1))), x'.2 + ltV p (cmV p x'.1 none (n - (e + 1))) (n - (e + 1))) (by omega) (by omega) (or_tb.mpr (Or.inr rfl)) h1 (fup_ag hag)
      have ed : ∀ x : (Nat → Int32) × Int32, drC p nx n x none (some (n - (e + 1))) = drC p nx n' (fup x.1 (n - (e + 1)) (cmV p x.1 none (n - (e + 1))), x.2 + ltV p (cmV p x.1 none (n - (e + 1))) (n - (e + 1))) (some (n - (e + 1))) (nx (n - (e + 1))) := by
        intro x
        generalize n - (e + 1) = r
        rw [hn']; rfl
      rw [ed, ed]
      exact AG_all hc e V' _ _ (by omega) hV' hag'
    · rw [if_neg hf, if_neg hf]
      refine AG_all hc e V x x' (by omega) ⟨h.1, fun y hy hfy => ?_, h.2.2.1, h.2.2.2⟩ hag
      rw [h.2.1 y hy hfy]
      have : y ≠ n - (e + 1) := fun q => hf (q ▸ hfy)
      omega
theorem drA_C {p : mP} {nx : Nat → Option Nat} {fir : Nat → Bool} {n : Nat} {dp : Nat → Nat} (hc : CHN nx fir n dp) (C C' : Nat → Int32) : ∀ r, r < n → (drA p nx fir n n (C, 0)).1 r = (drA p nx fir n n (C', 0)).1 r := by
  obtain ⟨V, hV, hag⟩ := AG_all (p := p) hc n 0 (C, 0) (C', 0) (Nat.le_refl _) ⟨fun y hy => by simp at hy, fun y _ _ => by simp, fun a y _ _ => by simp, (sumB_0 n).symm⟩ (fun y hy => by simp at hy)
  have all : ∀ (m x : Nat), x < n → n - dp x ≤ m → V.testBit x = true := by
    intro m
    induction m with
    | zero => intro x hx hm; have := hc.2.2.2 x hx; omega
    | succ m ih =>
      intro x hx hm
      by_cases hf : fir x = true
      · exact (hV.2.1 x hx hf).mpr hx
      · have : ¬ ∀ a, a < n → nx a ≠ some x := fun q => hf ((hc.2.2.1 x hx).mpr q)
        obtain ⟨a, ha⟩ := Classical.not_forall.mp this
        have hal : a < n := Classical.byContradiction fun q => ha (fun w => absurd w q)
        have hna : nx a = some x := Classical.byContradiction fun q => ha (fun _ => q)
        have hd := (hc.1 a x hal hna).2
        exact (hV.2.2.1 a x hal hna).mpr ⟨ih a hal (by omega), fun q => by cases q⟩
  exact fun r hr => hag r (all (n - dp r) r hr (Nat.le_refl _))
theorem drA_C2 {p : mP} {nx : Nat → Option Nat} {fir : Nat → Bool} {n : Nat} {dp : Nat → Nat} (hc : CHN nx fir n dp) (C C' : Nat → Int32) : (drA p nx fir n n (C, 0)).2 = (drA p nx fir n n (C', 0)).2 := by
  rw [drA_sum hc, drA_sum hc]
  exact cSum_congr n (fun r hr => by rw [drA_C hc C C' r hr])
/-- what the chains that the class links are -/
theorem CHN_G {f : Nat → Nat → Bool} {n : Nat} {dp : Nat → Nat} (h1 : dpOK (nxG f n) n dp) (h2 : ∀ r, r < n → dp r < n) : CHN (nxG f n) (fun r => isF (nxG f n) r n) n dp := by
  refine ⟨h1, fun a b x ha hb hna hnb => ?_, fun x hx => isF_iff n, h2⟩
  have key : ∀ a b, a < b → b < n → nxG f n a = some x → nxG f n b = some x → False := fun a b hab hb h3 h4 => by
    have h5 := (nxG_some h4).2.2
    have h6 := (tkG_tb (f := f) (n := n) (b := x) b).mpr ⟨a, hab, h3⟩
    rw [h5] at h6; cases h6
  rcases Nat.lt_trichotomy a b with q | q | q
  · exact (key a b q hb hna hnb).elim
  · exact q
  · exact (key b a q ha hnb hna).elim
theorem mx_cm (a b : Int32) : (if a < b then b else a) = (if b < a then a else b) := by
  by_cases h : a < b
  · rw [if_pos h]
    by_cases h2 : b < a
    · exact absurd (Int32.lt_trans h h2) Int32.lt_irrefl
    · rw [if_neg h2]
  · rw [if_neg h]
    by_cases h2 : b < a
    · rw [if_pos h2]
    · rw [if_neg h2]; exact Int32.le_antisymm (Int32.not_lt.mp h2) (Int32.not_lt.mp h)
/-- the pupils of a route's first k stops -/
def poA (pu : Nat → Int32) (d : pD) (c : pC) (S : Nat) : Nat → Int32
  | 0 => 0
  | k + 1 => match (oS d c S k).2 with
    | none => poA pu d c S k
    | some g => poA pu d c S k + pu g
theorem poA_sum {pu : Nat → Int32} {d : pD} {c : pC} {S : Nat} (h10 : d.1 ≤ 10) : ∀ k, poA pu d c S k + sumB (oS d c S k).1 pu d.1 = sumB S pu d.1
  | 0 => Int32.zero_add _
  | k + 1 => by
    have ih := poA_sum (pu := pu) (c := c) (S := S) h10 k
    cases hk : (oS d c S k).2 with
    | none =>
      rw [show poA pu d c S (k + 1) = poA pu d c S k by simp only [poA, hk], show oS d c S (k + 1) = oS d c S k by rw [oS_s, hk]]
      exact ih
    | some g =>
      obtain ⟨-, a2, a3⟩ := oS_cd h10 k g hk
      rw [show poA pu d c S (k + 1) = poA pu d c S k + pu g by simp only [poA, hk], show (oS d c S (k + 1)).1 = bdiff (oS d c S k).1 (2 ^ g) by rw [oS_s, hk]]
      have hb : (bdiff (oS d c S k).1 (2 ^ g)).testBit g = false := by rw [bdiff_tb, Nat.testBit_two_pow_self]; simp
      have ho := sumB_or (g := pu) hb d.1 a3
      have he : bdiff (oS d c S k).1 (2 ^ g) ||| 2 ^ g = (oS d c S k).1 := by
        apply Nat.eq_of_testBit_eq
        intro i
        rw [Nat.testBit_or, bdiff_tb, Nat.testBit_two_pow]
        by_cases e : g = i
        · subst e; rw [a2]; simp
        · simp [e]
      rw [he] at ho
      rw [← ih, ho]
      rw [Int32.add_assoc, Int32.add_comm (pu g)]
theorem poA_all {pu : Nat → Int32} {d : pD} {c : pC} {S : Nat} (h10 : d.1 ≤ 10) (hb : ∀ i, S.testBit i = true → i < d.1) : poA pu d c S (cdB S 10) = sumB S pu d.1 := by
  have h := poA_sum (pu := pu) (c := c) (S := S) h10 (cdB S 10)
  rw [oS_no hb _ (oS_none h10 (Nat.le_refl _)), sumB_0, Int32.add_zero] at h
  exact h
def rdV (p : mP) (C : Nat → Int32) (fr : Option Nat) (r : Nat) : Int32 := match fr with
  | none => p.1 r
  | some a => C a + p.2.1 a r
theorem rdV_cm (p : mP) (C : Nat → Int32) (fr : Option Nat) (r : Nat) : (if rdV p C fr r < p.1 r then p.1 r else rdV p C fr r) + p.2.2.2.1 r + p.2.2.1 r = cmV p C fr r := by
  unfold cmV rdV
  cases fr with
  | none => dsimp only; rw [if_neg Int32.lt_irrefl]
  | some a => dsimp only; rw [mx_cm]
