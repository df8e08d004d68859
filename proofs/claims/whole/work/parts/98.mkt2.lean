/-! ===== costs are small, lists' rows ===== -/
theorem sumS_b {f g : Nat → Int32} {x : Int32} : ∀ n, n ≤ 10 → (∀ k, k < n → 0 ≤ (g k).toInt ∧ (g k).toInt ≤ 30) → 0 ≤ (sumS f g x n).toInt ∧ (sumS f g x n).toInt ≤ 30 * n
  | 0, _, _ => ⟨Int.le_refl _, Int.le_refl _⟩
  | n + 1, hn, h => by
    obtain ⟨a, b⟩ := sumS_b (f := f) (x := x) n (by omega) (fun k hk => h k (by omega))
    have hk := h n (by omega)
    unfold sumS
    split
    · rw [i_add (by omega) (by omega)]; omega
    · omega
theorem i_mul_b {x y : Int32} {A B : Int} (hx : 0 ≤ x.toInt ∧ x.toInt ≤ A) (hy : 0 ≤ y.toInt ∧ y.toInt ≤ B) (hAB : A * B < 2 ^ 31) : (x * y).toInt = x.toInt * y.toInt ∧ 0 ≤ x.toInt * y.toInt ∧ x.toInt * y.toInt ≤ A * B := by
  have h0 := Int.mul_nonneg hx.1 hy.1
  have h1 := Int.mul_le_mul hx.2 hy.2 hy.1 (by omega)
  refine ⟨?_, h0, h1⟩
  rw [Int32.toInt_mul]
  apply Int.bmod_eq_of_le <;> omega
theorem cOne_b {p b w : Int32} (hp : 0 ≤ p.toInt ∧ p.toInt ≤ 300) (hb : 0 ≤ b.toInt ∧ b.toInt ≤ 6) (hw : 0 ≤ w.toInt ∧ w.toInt ≤ 6) : 0 ≤ (cOne p b w).toInt ∧ (cOne p b w).toInt ≤ 36000 := by
  have e1 : (b - w).toInt = b.toInt - w.toInt := by rw [Int32.toInt_sub]; apply Int.bmod_eq_of_le <;> omega
  have h20 := i_mul_b (x := 20) (y := p) (A := 20) (B := 300) (by rw [show (20 : Int32).toInt = 20 from rfl]; omega) hp (by omega)
  have hd : 0 ≤ ((if 0 ≤ b - w then b - w else 0 - (b - w)) : Int32).toInt ∧ ((if 0 ≤ b - w then b - w else 0 - (b - w)) : Int32).toInt ≤ 6 := by
    by_cases q : 0 ≤ b - w
    · rw [if_pos q]
      rw [Int32.le_iff_toInt_le, i32_0] at q
      omega
    · rw [if_neg q]
      rw [Int32.le_iff_toInt_le, i32_0] at q
      have e2 : (0 - (b - w)).toInt = 0 - (b - w).toInt := by rw [Int32.toInt_sub, i32_0]; apply Int.bmod_eq_of_le <;> omega
      omega
  have h3 := i_mul_b (x := 20 * p) (A := 6000) (B := 6) (by rw [h20.1]; omega) hd (by omega)
  show 0 ≤ (20 * p * _).toInt ∧ (20 * p * _).toInt ≤ 36000
  rw [h3.1]
  exact ⟨h3.2.1, h3.2.2⟩
theorem cSum_b {f : Nat → Int32} : ∀ n, n ≤ 4 → (∀ s, s < n → 0 ≤ (f s).toInt ∧ (f s).toInt ≤ 36000) → 0 ≤ (cSum f n).toInt ∧ (cSum f n).toInt ≤ 36000 * n
  | 0, _, _ => ⟨Int.le_refl _, Int.le_refl _⟩
  | n + 1, hn, h => by
    obtain ⟨a, b⟩ := cSum_b n (by omega) (fun s hs => h s (by omega))
    have hk := h n (by omega)
    unfold cSum
    rw [i_add (by omega) (by omega)]; omega
theorem nI_sm {k : Nat} (h : k < 7) : 0 ≤ (nI k).toInt ∧ (nI k).toInt ≤ 6 := by
  have key : ∀ k, k < 7 → 0 ≤ (nI k).toInt ∧ (nI k).toInt ≤ 6 := by decide
  exact key k h
theorem lsT_cg {b b' : Nat → Int32} {hi : Int32} : ∀ k, (∀ j, j < k → b j = b' j) → lsT b hi k = lsT b' hi k
  | 0, _ => rfl
  | k + 1, h => by
    rw [lsT_s, lsT_s, lsT_cg k (fun j hj => h j (by omega)), h k (by omega)]
theorem lsT_low {b : Nat → Int32} {hi : Int32} {n : Nat} : ∀ k, (lsT b hi k).1 ≤ hi ∧ (n ∈ (lsT b hi k).2 → b n < hi)
  | 0 => ⟨Int32.le_refl _, fun h => by simp [lsT] at h⟩
  | k + 1 => by
    obtain ⟨i1, i2⟩ := lsT_low (b := b) (hi := hi) (n := n) k
    rw [lsT_s]
    split
    · rename_i q
      have hq : b k < hi := Int32.lt_of_lt_of_le q i1
      refine ⟨Int32.le_of_lt hq, fun h => ?_⟩
      rcases List.mem_append.mp h with w | w
      · exact i2 w
      · rw [List.mem_singleton.mp w]; exact hq
    · exact ⟨i1, i2⟩
theorem cS_none {al : Nat → Bool} {co : Nat → Int32} {nb : Nat → Nat} {fl n : Nat} : ∀ c, (cS al co nb fl c).2 n = none → (cS al co nb fl c).1 n = 1000000
  | 0, _ => rfl
  | c + 1, h => by
    rw [cS_s] at h ⊢
    split at h
    · rename_i q
      rw [if_pos q]
      by_cases e : n = nb c
      · have h : fup (cS al co nb fl c).2 (nb c) (some c) n = none := h
        rw [e, fup_eq] at h; cases h
      · have h : fup (cS al co nb fl c).2 (nb c) (some c) n = none := h
        rw [fup_ne e] at h
        show fup (cS al co nb fl c).1 (nb c) (co c) n = _
        rw [fup_ne e]
        exact cS_none c h
    · rename_i q
      rw [if_neg q]
      exact cS_none c h
theorem cS_lt {al : Nat → Bool} {co : Nat → Int32} {nb : Nat → Nat} {fl n c' : Nat} : ∀ c, (cS al co nb fl c).2 n = some c' → c' < c
  | 0, h => by cases h
  | c + 1, h => by
    rw [cS_s] at h
    split at h
    · by_cases e : n = nb c
      · have h : fup (cS al co nb fl c).2 (nb c) (some c) n = some c' := h
        rw [e, fup_eq] at h; cases h; omega
      · have h : fup (cS al co nb fl c).2 (nb c) (some c) n = some c' := h
        rw [fup_ne e] at h
        have := cS_lt c h; omega
    · have := cS_lt c h; omega
/-- the class's functions of a code -/
def gCl (I : Nat → Nat → Int32) (nr : Nat) (s b : Nat) : Bool := decide (permV (I (28 + 4 * s) 0) (nI b) (I 77) (I 78) (I 79) nr ≠ 0)
def pCl (I : Nat → Nat → Int32) (sp : Nat → Nat) (d : pD) (s b : Nat) : Int32 := cOne (sumS (fun k => I (sp k) 0) (fun k => I (sp k) 2) (nI s) d.1) (nI b) (I (28 + 4 * s) 2)
def alN (I : Nat → Nat → Int32) (nr ns c : Nat) : Bool := alF (fun s => gCl I nr s (dg ns c s)) ns ns
def coN (I : Nat → Nat → Int32) (sp : Nat → Nat) (d : pD) (ns c : Nat) : Int32 := cSum (fun s => pCl I sp d s (dg ns c s)) ns
def nbN (d : pD) (cs : Nat → pC) (al : Nat → Nat) (sl : Int32) (ns c : Nat) : Nat := (RR d cs al ns).length - mxF (mayF d cs (fun s => nI (dg ns c s)) sl (RR d cs al ns)) (RR d cs al ns).length (RR d cs al ns).length 0
/-- the class's market holds the trades -/
def MkT (J : Nat → Nat → Int32) (l : List Nat) (ts : tU) (ns : Nat) : Prop := J 80 1 = nI ns ∧ J 80 0 = nI l.length ∧ l.length ≤ 11 ∧ ∀ (i n : Nat), l[i]? = some n → i < 11 ∧ n < 11 ∧ J 81 i = nI n ∧ J 82 n = ts.1 n ∧ ∃ c, ts.2 n = some c ∧ J 83 n = nI c ∧ c < 10000
theorem MkT_fr {I J : Nat → Nat → Int32} {l : List Nat} {ts : tU} {ns : Nat} (h : MkT I l ts ns) (hq : ∀ q i, 80 ≤ q ∧ q ≤ 83 → J q i = I q i) : MkT J l ts ns :=
  ⟨(hq _ _ (by omega)).trans h.1, (hq _ _ (by omega)).trans h.2.1, h.2.2.1, fun i n hi => by
    obtain ⟨a, b, c, d, x, e1, e2, e3⟩ := h.2.2.2 i n hi
    exact ⟨a, b, (hq _ _ (by omega)).trans c, (hq _ _ (by omega)).trans d, x, e1, (hq _ _ (by omega)).trans e2, e3⟩⟩
theorem MkT_of {J : Nat → Nat → Int32} {al : Nat → Bool} {co : Nat → Int32} {nb : Nat → Nat} {fl ns K : Nat} {l : List Nat} {ts : tU} (hK : K ≤ 10000) (hnb : ∀ c, al c = true → fl ≤ nb c) (hco : ∀ c, al c = true → (co c).toInt < 1000000) (hts : tS al co nb K = ts) (hl : (lsT ts.1 2000000000 11).2 = l) (h1 : J 80 1 = nI ns) (h82 : ∀ k, k < 11 → J 82 k = (cS al co nb fl K).1 k) (h83 : ∀ k, k < 11 → ∀ c, (cS al co nb fl K).2 k = some c → J 83 k = nI c) (h0 : J 80 0 = nI (lsT (fun k => J 82 k) 1000000 11).2.length) (h81 : ∀ (i n : Nat), (lsT (fun k => J 82 k) 1000000 11).2[i]? = some n → J 81 i = nI n) : MkT J l ts ns := by
  have hR := RelT_s (fl := fl) hnb hco K
  rw [hts] at hR
  obtain ⟨r1, -, -, r4⟩ := RelT_list hR 11
  have hlc : lsT (fun k => J 82 k) 1000000 11 = lsT (cS al co nb fl K).1 1000000 11 := lsT_cg 11 (fun j hj => h82 j hj)
  rw [hlc] at h0 h81
  rw [r1, hl] at h0 h81
  have hlen := lsT_len ts.1 2000000000 11
  rw [hl] at hlen
  refine ⟨h1, h0, hlen, fun i n hi => ?_⟩
  have hm : n ∈ (lsT (cS al co nb fl K).1 1000000 11).2 := by rw [r1, hl]; exact List.mem_of_getElem? hi
  have hn := lsT_mem 11 hm
  have hi2 := (List.getElem?_eq_some_iff.mp hi).1
  obtain ⟨e1, e2⟩ := r4 n hm
  have hlow := (lsT_low (b := (cS al co nb fl K).1) (hi := 1000000) (n := n) 11).2 hm
  refine ⟨by omega, hn, h81 i n hi, (h82 n hn).trans e1, ?_⟩
  cases hc : (cS al co nb fl K).2 n with
  | none => rw [cS_none K hc] at hlow; exact absurd hlow (Int32.lt_irrefl)
  | some c => exact ⟨c, by rw [← e2, hc], h83 n hn c hc, by have := cS_lt K hc; omega⟩
theorem CW_fr2 {I J : Nat → Nat → Int32} {sp : Nat → Nat} {ns nstr nc : Nat} {d : pD} {cs : Nat → pC} {fr to : Nat → Nat} (h : CW I sp ns nstr nc d cs fr to) (hq : ∀ q i, ((1 ≤ q ∧ q ≤ 6 ∧ ¬ (q = 2 ∧ i = 8)) ∨ (44 ≤ q ∧ q < 54) ∨ (28 ≤ q ∧ q < 44 ∧ q % 4 = 0 ∧ i < 3)) → J q i = I q i) (ht : ¬ J 2 8 = 0 → ∀ a b, a < nc → b < nc → J (8 + a) b = d.2.2.1 a b) : CW J sp ns nstr nc d cs fr to := by
  obtain ⟨a1, a2, a3, a4, a5, a6, a7, a8, a9, a10, a11, a12⟩ := h
  have f5 : J 5 = I 5 := funext fun i => hq 5 i (by omega)
  have f6 : J 6 = I 6 := funext fun i => hq 6 i (by omega)
  have f1 : ∀ i, J 1 i = I 1 i := fun i => hq 1 i (by omega)
  have f2 : ∀ i, i ≠ 8 → J 2 i = I 2 i := fun i hi => hq 2 i (by omega)
  have f3 : ∀ i, J 3 i = I 3 i := fun i => hq 3 i (by omega)
  have f4 : ∀ i, J 4 i = I 4 i := fun i => hq 4 i (by omega)
  have fs : ∀ k i, k < 10 → J (sp k) i = I (sp k) i := fun k i hk => hq (sp k) i (by have := a8 k hk; omega)
  have fc : ∀ s i, s < 4 → i < 3 → J (28 + 4 * s) i = I (28 + 4 * s) i := fun s i hs hi => hq _ i (by omega)
  refine ⟨⟨(f1 4).trans a1.1, a1.2⟩, ⟨(f2 0 (by decide)).trans a2.1, a2.2⟩, ⟨(f2 1 (by decide)).trans a3.1, a3.2⟩, fun s hs => ?_, fun s hs => ?_, by rw [f5, f6]; exact a6, ⟨(f1 5).trans a7.1, a7.2⟩, a8, fun k hk => ?_, (f1 6).trans a10, fun s hs => ?_, ht⟩
  · rw [f3, f4]; exact a4 s hs
  · rw [f5]; exact a5 s hs
  · rw [fs k 1 (by omega), fs k 2 (by omega)]; exact a9 k hk
  · rw [fc s 0 (by omega) (by omega), fc s 1 (by omega) (by omega), f1 7]; exact a11 s hs
theorem sumS_cg {f f' g g' : Nat → Int32} {x : Int32} : ∀ n, (∀ k, k < n → f k = f' k ∧ g k = g' k) → sumS f g x n = sumS f' g' x n
  | 0, _ => rfl
  | n + 1, h => by
    have ih := sumS_cg (x := x) n (fun k hk => h k (by omega))
    obtain ⟨h1, h2⟩ := h n (by omega)
    unfold sumS
    rw [ih, h2]
    by_cases q : f' n = x
    · rw [if_pos q, if_pos (h1.trans q)]
    · rw [if_neg q, if_neg (fun w => q (h1.symm.trans w))]
