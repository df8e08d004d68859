/-! ===== the order of a route's stops by the class's least lengths ===== -/
theorem minF_nx {w : Nat → Int32} {S : Nat} {v0 : Int32} : ∀ n, (nxP w S n = none → minF S w v0 n = v0) ∧ ∀ b l, nxP w S n = some (b, l) → (minF S w v0 n).toInt = min (w b).toInt v0.toInt
  | 0 => ⟨fun _ => rfl, fun b l h => (by cases h)⟩
  | n + 1 => by
    obtain ⟨i1, i2⟩ := minF_nx (w := w) (S := S) (v0 := v0) n
    rw [minF_s, nxP_nxS]
    by_cases hb : S.testBit n = true
    · rw [if_pos hb, if_pos hb]
      cases hn : nxP w S n with
      | none =>
        refine ⟨fun h => (by cases h), fun b l h => ?_⟩
        cases h
        rw [i1 hn, mn_toInt]
      | some p =>
        obtain ⟨b0, l0⟩ := p
        have h0 := nxP_some n hn
        obtain ⟨-, -, hl0, -, -⟩ := h0
        have hm := i2 b0 l0 hn
        unfold nxS
        dsimp only
        by_cases hw : w n < l0
        · rw [if_pos hw]
          refine ⟨fun h => (by cases h), fun b l h => ?_⟩
          cases h
          rw [mn_toInt, hm]
          rw [hl0, Int32.lt_iff_toInt_lt] at hw
          omega
        · rw [if_neg hw]
          refine ⟨fun h => (by cases h), fun b l h => ?_⟩
          cases h
          rw [mn_toInt, hm]
          rw [hl0, Int32.lt_iff_toInt_lt] at hw
          omega
    · rw [if_neg hb, if_neg hb]
      exact ⟨i1, i2⟩
abbrev wN (d : pD) (c : pC) (S : Nat) (bh : Option Nat) (g : Nat) : Int32 := wyP d bh g + fS d c S g
theorem nxt_some {d : pD} {c : pC} {S g : Nat} {bh : Option Nat} (h : nxt d c S bh = some g) : g < d.1 ∧ S.testBit g = true ∧ nxP (wN d c S bh) S d.1 = some (g, wN d c S bh g) ∧ ∀ j, j < g → S.testBit j = true → wN d c S bh g < wN d c S bh j := by
  unfold nxt at h
  cases hp : nxP (fun g => wyP d bh g + fS d c S g) S d.1 with
  | none => rw [hp] at h; cases h
  | some p =>
    obtain ⟨b, l⟩ := p
    rw [hp] at h
    cases h
    obtain ⟨a1, a2, a3, a4, a5⟩ := nxP_some _ hp
    subst a3
    exact ⟨a1, a2, rfl, a5⟩
/-- behind stop g of the set L the next one has what is left of g's minutes -/
theorem nxt_next {d : pD} {c : pC} (hd : d01 d) {L g g' : Nat} (hg : L.testBit g = true) (hf : (fS d c L g).toInt < 1000000) (h : nxt d c (bdiff L (2 ^ g)) (some g) = some g') : wN d c (bdiff L (2 ^ g)) (some g) g' = fS d c L g - 1 ∧ (fS d c (bdiff L (2 ^ g)) g').toInt < 1000000 := by
  obtain ⟨a1, a2, a3, a4⟩ := nxt_some h
  have hne : bdiff L (2 ^ g) ≠ 0 := fun q => by rw [q] at a2; simp at a2
  obtain ⟨p1, p2⟩ := preF_b (c := c) hd L g
  rw [fS_pre hg, finV_i p1 p2] at hf
  have hm := (minF_nx (w := wN d c (bdiff L (2 ^ g)) (some g)) (S := bdiff L (2 ^ g)) (v0 := 1000000) d.1).2 g' _ a3
  have hpre : preF d c L g = minF (bdiff L (2 ^ g)) (wN d c (bdiff L (2 ^ g)) (some g)) 1000000 d.1 := by
    unfold preF; rw [if_neg hne]; rfl
  rw [← hpre, i32_M] at hm
  have b1 := hd (d.2.1 g) (d.2.1 g')
  have b2 := fS_b (c := c) hd (bdiff L (2 ^ g)) g'
  have hsum : (wN d c (bdiff L (2 ^ g)) (some g) g').toInt = (d.2.2.1 (d.2.1 g) (d.2.1 g')).toInt + (fS d c (bdiff L (2 ^ g)) g').toInt := by
    show (d.2.2.1 (d.2.1 g) (d.2.1 g') + fS d c (bdiff L (2 ^ g)) g').toInt = _
    exact i_add (by omega) (by omega)
  have heq : (preF d c L g).toInt = (wN d c (bdiff L (2 ^ g)) (some g) g').toInt := by omega
  refine ⟨?_, by omega⟩
  rw [← Int32.toInt_inj.mp heq, fS_pre hg]
  have : finV (preF d c L g) = preF d c L g + 1 := by
    unfold finV
    rw [if_neg (by rw [Int32.le_iff_toInt_le, i32_M]; omega)]
  rw [this, Int32.add_sub_cancel]
theorem nxt_first {d : pD} {c : pC} (hd : d01 d) {S g : Nat} (hf : (lS d c S).toInt < 1000000) (h : nxt d c S none = some g) : wN d c S none g = lS d c S ∧ (fS d c S g).toInt < 1000000 := by
  obtain ⟨a1, a2, a3, a4⟩ := nxt_some h
  have hm := (minF_nx (w := wN d c S none) (S := S) (v0 := 1000000) d.1).2 g _ a3
  have hw : ∀ g, wN d c S none g = fS d c S g := fun g => Int32.zero_add _
  have hl : lS d c S = minF S (wN d c S none) 1000000 d.1 := minF_congr d.1 (fun g _ _ => (hw g).symm)
  rw [← hl, i32_M] at hm
  have heq : (lS d c S).toInt = (wN d c S none g).toInt := by omega
  exact ⟨(Int32.toInt_inj.mp heq).symm, by rw [← hw g]; omega⟩
theorem cdB_split {S P : Nat} (h : bdiff P S = 0) : ∀ k, cdB (bdiff S P) k + cdB P k = cdB S k
  | 0 => rfl
  | k + 1 => by
    have ih := cdB_split h k
    have a := bdiff_tb P S k
    rw [h, Nat.zero_testBit] at a
    simp only [cdB, bdiff_tb]
    revert a
    cases S.testBit k <;> cases P.testBit k <;> simp <;> omega
theorem cdB_rm {S g : Nat} (h : S.testBit g = true) (k : Nat) (hk : g < k) : cdB (bdiff S (2 ^ g)) k + 1 = cdB S k := by
  have hs : bdiff (2 ^ g) S = 0 := by
    apply Nat.eq_of_testBit_eq
    intro i
    rw [Nat.zero_testBit, bdiff_tb, Nat.testBit_two_pow]
    by_cases e : g = i
    · subst e; rw [h]; simp
    · simp [e]
  have h1 := cdB_split hs k
  have h2 : cdB (2 ^ g) k = 1 := by
    have h0 : ∀ m, cdB 0 m = 0 := by
      intro m; induction m with
      | zero => rfl
      | succ m ih => simp [cdB, ih]
    have := cdB_or (T := 0) (x := g) (by simp) k hk
    rw [Nat.zero_or, h0] at this
    exact this
  omega
/-- where the i-th route begins -/
def bgn : List Nat → Nat → Nat
  | _, 0 => 0
  | [], _ + 1 => 0
  | S :: L, i + 1 => cdB S 10 + bgn L i
theorem bgn_0 (L : List Nat) : bgn L 0 = 0 := by cases L <;> rfl
theorem bgn_app {S : Nat} : ∀ (L : List Nat) (i : Nat), i ≤ L.length → bgn (L ++ [S]) i = bgn L i
  | L, 0, _ => by rw [bgn_0, bgn_0]
  | [], i + 1, h => by simp at h
  | T :: L, i + 1, h => by
    show cdB T 10 + bgn (L ++ [S]) i = cdB T 10 + bgn L i
    rw [bgn_app L i (by simpa using h)]
theorem bgn_end {S : Nat} : ∀ (L : List Nat), bgn (L ++ [S]) (L.length + 1) = bgn L L.length + cdB S 10
  | [] => by show cdB S 10 + bgn [] 0 = 0 + cdB S 10; rw [bgn_0]; omega
  | T :: L => by
    show cdB T 10 + bgn (L ++ [S]) (L.length + 1) = cdB T 10 + bgn L L.length + cdB S 10
    rw [bgn_end L]; omega
theorem bgn_s {S : Nat} : ∀ (L : List Nat) (i : Nat), L[i]? = some S → bgn L (i + 1) = bgn L i + cdB S 10
  | [], i, h => by simp at h
  | T :: L, 0, h => by
    simp at h
    show cdB T 10 + bgn L 0 = bgn (T :: L) 0 + cdB S 10
    rw [bgn_0, bgn_0, h]; omega
  | T :: L, i + 1, h => by
    show cdB T 10 + bgn L (i + 1) = cdB T 10 + bgn L i + cdB S 10
    rw [bgn_s L i (by simpa using h)]; omega
