/-! ===== the order of a route, once more ===== -/
theorem oS_bits {d : pD} {c : pC} {S : Nat} (hb : ∀ i, S.testBit i = true → i < d.1) (k : Nat) : ∀ i, (oS d c S k).1.testBit i = true → i < d.1 := fun i hi => hb i (bsub_tb (oS_sub k) hi)
theorem oS_no {d : pD} {c : pC} {S : Nat} (hb : ∀ i, S.testBit i = true → i < d.1) : ∀ k, (oS d c S k).2 = none → (oS d c S k).1 = 0
  | 0, h => Classical.byContradiction fun q => by
    obtain ⟨g, hg, -⟩ := nxt_ex (d := d) (c := c) (bh := none) q (oS_bits hb 0)
    have h2 : nxt d c S none = none := h
    rw [show (oS d c S 0).1 = S from rfl, h2] at hg; cases hg
  | k + 1, h => by
    cases hk : (oS d c S k).2 with
    | none =>
      have e : oS d c S (k + 1) = oS d c S k := by rw [oS_s, hk]
      rw [e]; exact oS_no hb k hk
    | some g =>
      have e : oS d c S (k + 1) = (bdiff (oS d c S k).1 (2 ^ g), nxt d c (bdiff (oS d c S k).1 (2 ^ g)) (some g)) := by rw [oS_s, hk]
      refine Classical.byContradiction fun q => ?_
      obtain ⟨g', hg', -⟩ := nxt_ex (d := d) (c := c) (bh := some g) q (oS_bits hb (k + 1))
      rw [e] at h hg'
      dsimp only at h hg'
      rw [h] at hg'; cases hg'
theorem oS_cdE {d : pD} {c : pC} {S : Nat} (h10 : d.1 ≤ 10) (hb : ∀ i, S.testBit i = true → i < d.1) : ∀ k, k ≤ cdB S 10 → cdB (oS d c S k).1 10 + k = cdB S 10
  | 0, _ => rfl
  | k + 1, h => by
    have ih := oS_cdE (c := c) h10 hb k (by omega)
    cases hk : (oS d c S k).2 with
    | none =>
      have := oS_no hb k hk
      rw [this] at ih
      have h0 : cdB 0 10 = 0 := by decide
      omega
    | some g =>
      obtain ⟨-, a2, a3⟩ := oS_cd h10 k g hk
      have hrm := cdB_rm a2 10 (by omega)
      rw [oS_s, hk]
      show cdB (bdiff (oS d c S k).1 (2 ^ g)) 10 + (k + 1) = _
      omega
theorem oS_ex {d : pD} {c : pC} {S k : Nat} (h10 : d.1 ≤ 10) (hb : ∀ i, S.testBit i = true → i < d.1) (hk : k < cdB S 10) : ∃ g, (oS d c S k).2 = some g := by
  cases h : (oS d c S k).2 with
  | some g => exact ⟨g, rfl⟩
  | none =>
    have h1 := oS_no hb k h
    have h2 := oS_cdE (c := c) h10 hb k (by omega)
    rw [h1] at h2
    have h0 : cdB 0 10 = 0 := by decide
    omega
theorem oS_none {d : pD} {c : pC} {S k : Nat} (h10 : d.1 ≤ 10) (hk : cdB S 10 ≤ k) : (oS d c S k).2 = none := by
  cases h : (oS d c S k).2 with
  | none => rfl
  | some g => have := (oS_lt h10 h).1; omega
theorem oS_fin {d : pD} {c : pC} (hd : d01 d) {S : Nat} (hf : (lS d c S).toInt < 1000000) (h10 : d.1 ≤ 10) : ∀ k g, (oS d c S k).2 = some g → (fS d c (oS d c S k).1 g).toInt < 1000000
  | 0, g, h => (nxt_first hd hf h).2
  | k + 1, g, h => by
    cases hk : (oS d c S k).2 with
    | none =>
      have e : oS d c S (k + 1) = oS d c S k := by rw [oS_s, hk]
      rw [e, hk] at h; cases h
    | some g' =>
      have e : oS d c S (k + 1) = (bdiff (oS d c S k).1 (2 ^ g'), nxt d c (bdiff (oS d c S k).1 (2 ^ g')) (some g')) := by rw [oS_s, hk]
      rw [e] at h ⊢
      obtain ⟨-, a2, a3⟩ := oS_cd h10 k g' hk
      exact (nxt_next hd a2 (oS_fin hd hf h10 k g' hk) h).2
/-- what is left of a route's minutes at its k-th stop -/
theorem sw_ride {d : pD} {c : pC} (hd : d01 d) {S : Nat} (hf : (lS d c S).toInt < 1000000) (h10 : d.1 ≤ 10) (hb : ∀ i, S.testBit i = true → i < d.1) : ∀ (m k g : Nat), k + m + 1 = cdB S 10 → (oS d c S k).2 = some g → swA d.2.2.1 d c S (cdB S 10) - swA d.2.2.1 d c S k = fS d c (oS d c S k).1 g
  | 0, k, g, hm, h => by
    have e1 := oS_none (c := c) h10 (show cdB S 10 ≤ k + 1 by omega)
    have hz := oS_no hb (k + 1) e1
    rw [oS_s, h] at hz
    have hz2 : bdiff (oS d c S k).1 (2 ^ g) = 0 := hz
    obtain ⟨-, a2, a3⟩ := oS_cd h10 k g h
    have hs := swA_s d.2.2.1 d c S k
    rw [h, e1] at hs
    rw [show cdB S 10 = k + 1 by omega, hs]
    dsimp only
    rw [fS_pre a2]
    have hp : preF d c (oS d c S k).1 g = d.2.2.1 (d.2.1 g) c.1 := by
      unfold preF
      rw [hz2, if_pos rfl]
      have h0 : ∀ (w : Nat → Int32) (v0 : Int32) n, minF 0 w v0 n = v0 := by
        intro w v0 n
        induction n with
        | zero => rfl
        | succ n ih => rw [minF_s, ih]; simp
      exact h0 _ _ _
    have hfin := oS_fin hd hf h10 k g h
    obtain ⟨p1, p2⟩ := preF_b (c := c) hd (oS d c S k).1 g
    rw [fS_pre a2, finV_i p1 p2] at hfin
    have e2 : finV (preF d c (oS d c S k).1 g) = preF d c (oS d c S k).1 g + 1 := by
      unfold finV
      rw [if_neg (by rw [Int32.le_iff_toInt_le, i32_M]; omega)]
    rw [e2, hp, Int32.add_comm (swA d.2.2.1 d c S k), Int32.add_sub_cancel, Int32.add_comm]
  | m + 1, k, g, hm, h => by
    obtain ⟨g', hg'⟩ := oS_ex (c := c) (k := k + 1) h10 hb (by omega)
    have ih := sw_ride hd hf h10 hb m (k + 1) g' (by omega) hg'
    obtain ⟨-, a2, a3⟩ := oS_cd h10 k g h
    have hfin := oS_fin hd hf h10 k g h
    have e : oS d c S (k + 1) = (bdiff (oS d c S k).1 (2 ^ g), nxt d c (bdiff (oS d c S k).1 (2 ^ g)) (some g)) := by rw [oS_s, h]
    have hn : nxt d c (bdiff (oS d c S k).1 (2 ^ g)) (some g) = some g' := by rw [e] at hg'; exact hg'
    have hw := (nxt_next hd a2 hfin hn).1
    have hw2 : d.2.2.1 (d.2.1 g) (d.2.1 g') + fS d c (bdiff (oS d c S k).1 (2 ^ g)) g' = fS d c (oS d c S k).1 g - 1 := hw
    have hs := swA_s d.2.2.1 d c S k
    rw [h, hg'] at hs
    dsimp only at hs
    rw [e] at ih
    dsimp only at ih
    rw [← ih, hs] at hw2
    have hz : ∀ a b w : Int32, w + (a - (b + (1 + w))) = (a - b) - 1 := by intro a b w; grind
    rw [hz] at hw2
    have hz2 : ∀ a b : Int32, a - 1 = b - 1 → a = b := by
      intro a b h
      have h3 : a - 1 + 1 = b - 1 + 1 := by rw [h]
      rw [Int32.sub_add_cancel, Int32.sub_add_cancel] at h3
      exact h3
    exact hz2 _ _ hw2
theorem sw_len {d : pD} {c : pC} (h10 : d.1 ≤ 10) {D : tT} {S : Nat} : swA D d c S (cdB S 10) = swA D d c S 10 := by
  have h1 := oS_none (d := d) (c := c) (S := S) h10 (Nat.le_refl _)
  have h2 := swA_end (D := D) h1 (10 - cdB S 10)
  have := cdB_bound S 10
  rw [show cdB S 10 + (10 - cdB S 10) = 10 by omega] at h2
  exact h2.symm
/-- every stop of a route has its place -/
theorem oS_has {d : pD} {c : pC} {S t : Nat} (h10 : d.1 ≤ 10) (hb : ∀ i, S.testBit i = true → i < d.1) (ht : S.testBit t = true) : ∃ k, (oS d c S k).2 = some t := by
  refine Classical.byContradiction fun q => ?_
  have stay : ∀ k, (oS d c S k).1.testBit t = true := by
    intro k
    induction k with
    | zero => exact ht
    | succ k ih =>
      rw [oS_s]
      cases hk : (oS d c S k).2 with
      | none => exact ih
      | some g =>
        show (bdiff (oS d c S k).1 (2 ^ g)).testBit t = true
        rw [bdiff_tb, ih, Nat.testBit_two_pow]
        have : g ≠ t := fun e => q ⟨k, by rw [hk, e]⟩
        simp [this]
  have h1 := oS_none (d := d) (c := c) (S := S) h10 (Nat.le_refl _)
  have h2 := oS_no hb _ h1
  have h3 := stay (cdB S 10)
  rw [h2] at h3
  simp at h3
theorem oS_tb {d : pD} {c : pC} {S t k : Nat} (h10 : d.1 ≤ 10) (h : (oS d c S k).2 = some t) : S.testBit t = true := bsub_tb (oS_sub k) (oS_cd h10 k t h).2.1
theorem rideP_k {d : pD} {c : pC} {S t : Nat} (h10 : d.1 ≤ 10) : ∀ (j n k : Nat) (bh : Option Nat), nxt d c (oS d c S k).1 bh = (oS d c S k).2 → (oS d c S (k + j)).2 = some t → (∀ i, i < j → (oS d c S (k + i)).2 ≠ some t) → j < n → rideP d c t n (oS d c S k).1 bh = fS d c (oS d c S (k + j)).1 t
  | 0, n, k, bh, h1, h2, h3, h4 => by
    obtain ⟨n, rfl⟩ : ∃ m, n = m + 1 := ⟨n - 1, by omega⟩
    unfold rideP
    rw [h1, show k + 0 = k from rfl] at *
    rw [h2]
    dsimp only
    rw [if_pos rfl]
  | j + 1, n, k, bh, h1, h2, h3, h4 => by
    obtain ⟨n, rfl⟩ : ∃ m, n = m + 1 := ⟨n - 1, by omega⟩
    unfold rideP
    rw [h1]
    cases hk : (oS d c S k).2 with
    | none =>
      have := oS_end hk (j + 1)
      rw [this] at h2; cases h2
    | some g =>
      have hne : g ≠ t := fun e => h3 0 (by omega) (by rw [show k + 0 = k from rfl, hk, e])
      have e : oS d c S (k + 1) = (bdiff (oS d c S k).1 (2 ^ g), nxt d c (bdiff (oS d c S k).1 (2 ^ g)) (some g)) := by rw [oS_s, hk]
      dsimp only
      rw [if_neg hne]
      have ih := rideP_k (S := S) h10 j n (k + 1) (some g) (by rw [e]) (by rw [show k + 1 + j = k + (j + 1) by omega]; exact h2) (fun i hi => by rw [show k + 1 + i = k + (i + 1) by omega]; exact h3 (i + 1) (by omega)) (by omega)
      rw [show k + 1 + j = k + (j + 1) by omega, e] at ih
      exact ih
/-- the ride of a stop by its school's routes -/
def rideS (d : pD) (c : pC) (t : Nat) : List Nat → Int32
  | [] => 0
  | S :: L => if S.testBit t then rideP d c t 10 S none else rideS d c t L
theorem rideL_skip {d : pD} {cs : Nat → pC} {t : Nat} : ∀ (L L' : List (Nat × Nat)), (∀ p, p ∈ L → p.2.testBit t = false) → rideL d cs t (L ++ L') = rideL d cs t L'
  | [], _, _ => rfl
  | p :: L, L', h => by
    show (if p.2.testBit t then _ else rideL d cs t (L ++ L')) = _
    rw [h p (List.mem_cons_self ..)]
    exact rideL_skip L L' (fun q hq => h q (List.mem_cons_of_mem _ hq))
theorem rideL_map {d : pD} {cs : Nat → pC} {t s : Nat} : ∀ (L : List Nat) (L' : List (Nat × Nat)), (∀ p, p ∈ L' → p.2.testBit t = false) → rideL d cs t (L.map (fun S => (s, S)) ++ L') = rideS d (cs s) t L
  | [], L', h => by
    have := rideL_skip (d := d) (cs := cs) L' [] h
    rw [List.append_nil] at this
    exact this
  | S :: L, L', h => by
    show (if S.testBit t then rideP d (cs s) t 10 S none else rideL d cs t (L.map (fun S => (s, S)) ++ L')) = if S.testBit t then _ else _
    rw [rideL_map L L' h]
theorem rideL_sc {d : pD} {cs : Nat → pC} {al : Nat → Nat} {t s : Nat} (hal : ∀ s, al s < 1024) (hot : ∀ s', s' ≠ s → (al s').testBit t = false) {ns : Nat} (hs : s < ns) : rideL d cs t (RR d cs al ns) = rideS d (cs s) t (RLs d (cs s) (al s)) := by
  have no : ∀ (p : Nat × Nat) k, p ∈ RR d cs al k → p.1 ≠ s → p.2.testBit t = false := fun p k hp hne => by
    obtain ⟨p1, p2⟩ := p
    have := RR_mem hal k p1 p2 hp
    refine Bool.eq_false_iff.mpr fun q => ?_
    have := bsub_tb this.2.2.2.1 q
    rw [hot p1 hne] at this; cases this
  have ex : ∀ k, s + 1 ≤ k → ∃ L', RR d cs al k = RR d cs al s ++ ((RLs d (cs s) (al s)).map (fun S => (s, S)) ++ L') ∧ ∀ p, p ∈ L' → p.1 ≠ s ∧ p.1 < k ∧ p ∈ RR d cs al k := by
    intro k
    induction k with
    | zero => intro h; omega
    | succ k ih =>
      intro h
      by_cases e : s = k
      · subst e
        exact ⟨[], by rw [List.append_nil]; rfl, fun p hp => by simp at hp⟩
      · obtain ⟨L', e1, e2⟩ := ih (by omega)
        refine ⟨L' ++ (RLs d (cs k) (al k)).map (fun S => (k, S)), ?_, fun p hp => ?_⟩
        · show RR d cs al k ++ _ = _
          rw [e1]; simp
        · have hin : p ∈ RR d cs al (k + 1) := by
            show p ∈ RR d cs al k ++ _
            rcases List.mem_append.mp hp with w | w
            · exact List.mem_append_left _ (e2 p w).2.2
            · exact List.mem_append_right _ w
          rcases List.mem_append.mp hp with w | w
          · exact ⟨(e2 p w).1, by have := (e2 p w).2.1; omega, hin⟩
          · obtain ⟨S, -, rfl⟩ := List.mem_map.mp w
            exact ⟨fun q => e q.symm, by show k < k + 1; omega, hin⟩
  obtain ⟨L', e1, e2⟩ := ex ns hs
  rw [e1, rideL_skip _ _ (fun p hp => ?_), rideL_map _ _ (fun p hp => no p ns (e2 p hp).2.2 (e2 p hp).1)]
  refine no p s hp (fun q => ?_)
  obtain ⟨p1, p2⟩ := p
  have := (RR_mem hal s p1 p2 hp).1
  have q2 : p1 = s := q
  omega
/-! ===== who can follow ===== -/
theorem lS_pos {d : pD} {c : pC} (hd : d01 d) {S : Nat} : 1 ≤ (lS d c S).toInt := by
  have key : ∀ n, 1 ≤ (minF S (fS d c S) 1000000 n).toInt := by
    intro n
    induction n with
    | zero => show 1 ≤ (1000000 : Int32).toInt; rw [i32_M]; omega
    | succ n ih =>
      rw [minF_s]
      by_cases hb : S.testBit n = true
      · rw [if_pos hb, mn_toInt, fS_pre hb]
        obtain ⟨p1, p2⟩ := preF_b (c := c) hd S n
        rw [finV_i p1 p2]
        omega
      · rw [if_neg hb]; exact ih
  exact key d.1
theorem cf_gap {d : pD} {cs : Nat → pC} (hd : d01 d) {tr : Nat → Int32} {sl : Int32} {s : Nat} {p : Nat × Nat} (ha : 0 ≤ (tr s).toInt ∧ (tr s).toInt ≤ 6) (hb : 0 ≤ (tr p.1).toInt ∧ (tr p.1).toInt ≤ 6) (hsl : 0 ≤ sl.toInt ∧ sl.toInt ≤ 30) (hl : (lS d (cs p.1) p.2).toInt ≤ 90) : cf1 d cs tr sl s p = decide (wy1 d cs s p + sl + lS d (cs p.1) p.2 ≤ 20 * (tr p.1 - tr s)) := by
  have hw : 0 ≤ (wy1 d cs s p).toInt ∧ (wy1 d cs s p).toInt ≤ 1000000 := hd (cs s).1 (d.2.1 (fs1 d (cs p.1) p.2))
  have hl0 := lS_pos (c := cs p.1) hd (S := p.2)
  have i60 : (60 : Int32).toInt = 60 := rfl
  have i20 : (20 : Int32).toInt = 20 := rfl
  have im : ∀ x y : Int32, -1000 ≤ x.toInt → x.toInt ≤ 1000 → -1000 ≤ y.toInt → y.toInt ≤ 1000 → (x * y).toInt = x.toInt * y.toInt := by
    intro x y a b c e
    rw [Int32.toInt_mul]
    apply Int.bmod_eq_of_le
    · have : -1000 * 1000 ≤ x.toInt * y.toInt := by
        rcases Int.le_total 0 x.toInt with h | h <;> rcases Int.le_total 0 y.toInt with h2 | h2
        · have := Int.mul_nonneg h h2; omega
        · have := Int.mul_le_mul b (show -y.toInt ≤ 1000 by omega) (by omega) (by omega)
          rw [Int.mul_neg] at this; omega
        · have := Int.mul_le_mul (show -x.toInt ≤ 1000 by omega) e (by omega) (by omega)
          rw [Int.neg_mul] at this; omega
        · have := Int.mul_nonneg_of_nonpos_of_nonpos h h2; omega
      omega
    · have : x.toInt * y.toInt ≤ 1000 * 1000 := by
        rcases Int.le_total 0 x.toInt with h | h <;> rcases Int.le_total 0 y.toInt with h2 | h2
        · exact Int.mul_le_mul b e h2 (by omega)
        · have := Int.mul_nonpos_of_nonneg_of_nonpos h h2; omega
        · have := Int.mul_nonpos_of_nonpos_of_nonneg h h2; omega
        · have := Int.mul_le_mul (show -x.toInt ≤ 1000 by omega) (show -y.toInt ≤ 1000 by omega) (by omega) (by omega)
          rw [Int.neg_mul_neg] at this; omega
      omega
  have isub : ∀ x y : Int32, -2 ^ 31 ≤ x.toInt - y.toInt → x.toInt - y.toInt < 2 ^ 31 → (x - y).toInt = x.toInt - y.toInt := by
    intro x y a b
    rw [Int32.toInt_sub]
    apply Int.bmod_eq_of_le <;> omega
  have e1 : (tr p.1 - tr s).toInt = (tr p.1).toInt - (tr s).toInt := isub _ _ (by omega) (by omega)
  have e2 : (20 * (tr p.1 - tr s)).toInt = 20 * ((tr p.1).toInt - (tr s).toInt) := by rw [im _ _ (by omega) (by omega) (by omega) (by omega), e1, i20]
  have e3 : (20 * tr s).toInt = 20 * (tr s).toInt := by rw [im _ _ (by omega) (by omega) (by omega) (by omega), i20]
  have e4 : (20 * tr p.1).toInt = 20 * (tr p.1).toInt := by rw [im _ _ (by omega) (by omega) (by omega) (by omega), i20]
  have e5 : (wy1 d cs s p + sl + lS d (cs p.1) p.2).toInt = (wy1 d cs s p).toInt + sl.toInt + (lS d (cs p.1) p.2).toInt := by
    rw [i_add (by rw [i_add (by omega) (by omega)]; omega) (by rw [i_add (by omega) (by omega)]; omega), i_add (by omega) (by omega)]
  have e6 : (60 + 20 * tr s + wy1 d cs s p + sl).toInt = 60 + 20 * (tr s).toInt + (wy1 d cs s p).toInt + sl.toInt := by
    have a1 : (60 + 20 * tr s).toInt = 60 + 20 * (tr s).toInt := by rw [i_add (by omega) (by omega)]; omega
    have a2 : (60 + 20 * tr s + wy1 d cs s p).toInt = 60 + 20 * (tr s).toInt + (wy1 d cs s p).toInt := by rw [i_add (by omega) (by omega)]; omega
    rw [i_add (by omega) (by omega)]; omega
  have e7 : (st1 d cs tr p).toInt = 60 + 20 * (tr p.1).toInt - (lS d (cs p.1) p.2).toInt := by
    have a1 : (60 + 20 * tr p.1).toInt = 60 + 20 * (tr p.1).toInt := by rw [i_add (by omega) (by omega)]; omega
    show (60 + 20 * tr p.1 - lS d (cs p.1) p.2).toInt = _
    rw [isub _ _ (by omega) (by omega), a1]
  unfold cf1
  by_cases h : wy1 d cs s p + sl + lS d (cs p.1) p.2 ≤ 20 * (tr p.1 - tr s)
  · rw [decide_eq_true h]
    rw [Int32.le_iff_toInt_le, e5, e2] at h
    rw [decide_eq_true (by rw [Int32.lt_iff_toInt_lt, i32_M]; omega), decide_eq_true (by rw [Int32.le_iff_toInt_le, e6, e7]; omega)]
    rfl
  · rw [decide_eq_false h]
    rw [Int32.le_iff_toInt_le, e5, e2] at h
    have : ¬ 60 + 20 * tr s + wy1 d cs s p + sl ≤ st1 d cs tr p := by rw [Int32.le_iff_toInt_le, e6, e7]; omega
    rw [decide_eq_false this, Bool.and_false]
