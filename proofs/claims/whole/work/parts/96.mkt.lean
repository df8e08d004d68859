/-! ===== THE MARKET, pure ===== -/
theorem cntP_ge {p : Nat → Bool} {a m : Nat} : ∀ n, a + m ≤ n → (∀ x, a ≤ x → x < a + m → p x = true) → m ≤ cntP p n
  | 0, h, _ => by omega
  | n + 1, h, hp => by
    rw [cntP_s]
    by_cases e : a + m ≤ n
    · have := cntP_ge n e hp; omega
    · by_cases hm : m = 0
      · omega
      · have h1 := cntP_ge (p := p) (a := a) (m := m - 1) n (by omega) (fun x h1 h2 => hp x h1 (by omega))
        rw [if_pos (hp n (by omega) (by omega))]
        omega
theorem cntP_3 {p q r : Nat → Bool} : ∀ n, (∀ x, x < n → (p x = true ∧ q x = false ∧ r x = false) ∨ (p x = false ∧ q x = true ∧ r x = false) ∨ (p x = false ∧ q x = false ∧ r x = true)) → cntP p n + cntP q n + cntP r n = n
  | 0, _ => rfl
  | n + 1, h => by
    have ih := cntP_3 n (fun x hx => h x (by omega))
    rw [cntP_s, cntP_s, cntP_s]
    rcases h n (by omega) with ⟨a, b, c⟩ | ⟨a, b, c⟩ | ⟨a, b, c⟩ <;> rw [a, b, c] <;> simp <;> omega
/-- no bus drives two routes of one school -/
theorem mx_floor {d : pD} {cs : Nat → pC} {al : Nat → Nat} {ns : Nat} {f : Nat → Nat → Bool} {key : Nat → Nat} (hal : ∀ s, al s < 1024) (hf : ∀ a b, a < (RR d cs al ns).length → b < (RR d cs al ns).length → f a b = true → key (rt0 (RR d cs al ns) a).1 < key (rt0 (RR d cs al ns) b).1) {s : Nat} (hs : s < ns) : (RLs d (cs s) (al s)).length + mxF f (RR d cs al ns).length (RR d cs al ns).length 0 ≤ (RR d cs al ns).length := by
  have hu := mx_up (f := f) (n := (RR d cs al ns).length) (fun x => decide (key s ≤ key (rt0 (RR d cs al ns) x).1)) (fun b => decide (key s < key (rt0 (RR d cs al ns) b).1)) (RR d cs al ns).length 0 (Nat.le_refl _) (fun z h1 h2 h3 b hb hzb _ => by
    have h4 := hf z b h2 hb hzb
    have h5 := of_decide_eq_true h3
    exact decide_eq_true (by omega))
  have hrs := RR_s (d := d) (cs := cs) (al := al) s
  have hrm := RR_mono (d := d) (cs := cs) (al := al) (show s + 1 ≤ ns by omega)
  have hge := cntP_ge (p := fun x => decide (key (rt0 (RR d cs al ns) x).1 = key s)) (a := (RR d cs al s).length) (m := (RLs d (cs s) (al s)).length) (RR d cs al ns).length (by omega) (fun x h1 h2 => by
    obtain ⟨S, hS⟩ : ∃ S, (RLs d (cs s) (al s))[x - (RR d cs al s).length]? = some S := ⟨_, List.getElem?_eq_getElem (by omega)⟩
    have hg := RR_get (k := ns) hs hS
    rw [show (RR d cs al s).length + (x - (RR d cs al s).length) = x by omega] at hg
    rw [rt0_of hg]
    exact decide_eq_true rfl)
  have h3 := cntP_3 (p := fun x => decide (key s < key (rt0 (RR d cs al ns) x).1)) (q := fun x => decide (key (rt0 (RR d cs al ns) x).1 < key s)) (r := fun x => decide (key (rt0 (RR d cs al ns) x).1 = key s)) (RR d cs al ns).length (fun x _ => by
    rcases Nat.lt_trichotomy (key s) (key (rt0 (RR d cs al ns) x).1) with q | q | q
    · exact Or.inl ⟨decide_eq_true q, decide_eq_false (by omega), decide_eq_false (by omega)⟩
    · exact Or.inr (Or.inr ⟨decide_eq_false (by omega), decide_eq_false (by omega), decide_eq_true (by omega)⟩)
    · exact Or.inr (Or.inl ⟨decide_eq_false (by omega), decide_eq_true q, decide_eq_false (by omega)⟩))
  have e1 : cntP (fun b => decide (key s < key (rt0 (RR d cs al ns) b).1) && !(0 : Nat).testBit b) (RR d cs al ns).length = cntP (fun x => decide (key s < key (rt0 (RR d cs al ns) x).1)) (RR d cs al ns).length := cntP_congr _ (fun x _ => by rw [Nat.zero_testBit]; simp)
  have e2 : cntP (fun x => decide ((RR d cs al ns).length - (RR d cs al ns).length ≤ x) && !decide (key s ≤ key (rt0 (RR d cs al ns) x).1)) (RR d cs al ns).length = cntP (fun x => decide (key (rt0 (RR d cs al ns) x).1 < key s)) (RR d cs al ns).length := cntP_congr _ (fun x _ => by
    rw [decide_eq_true (show (RR d cs al ns).length - (RR d cs al ns).length ≤ x by omega), Bool.true_and]
    by_cases q : key s ≤ key (rt0 (RR d cs al ns) x).1
    · rw [decide_eq_true q, decide_eq_false (by omega)]; rfl
    · rw [decide_eq_false q, decide_eq_true (by omega)]; rfl)
  rw [e1, e2] at hu
  omega
theorem mxL_floor {d : pD} {cs : Nat → pC} {al : Nat → Nat} {n M : Nat} : ∀ k, (∀ s, s < k → (RLs d (cs s) (al s)).length + M ≤ n) → M ≤ n → mxL d cs al k + M ≤ n
  | 0, _, h => by show 0 + M ≤ n; omega
  | k + 1, h, hM => by
    have := mxL_floor k (fun s hs => h s (by omega)) hM
    have := h k (by omega)
    show max _ _ + M ≤ n
    omega
/-- the class's table of trades: what costs no less than the fewest buses that can be is passed over -/
def cS (al : Nat → Bool) (co : Nat → Int32) (nb : Nat → Nat) (fl : Nat) : Nat → tU
  | 0 => (fun _ => 1000000, fun _ => none)
  | c + 1 => if al c && decide (co c < (cS al co nb fl c).1 fl) && decide (co c < (cS al co nb fl c).1 (nb c)) then (fup (cS al co nb fl c).1 (nb c) (co c), fup (cS al co nb fl c).2 (nb c) (some c)) else cS al co nb fl c
theorem cS_s (al : Nat → Bool) (co : Nat → Int32) (nb : Nat → Nat) (fl c : Nat) : cS al co nb fl (c + 1) = if al c && decide (co c < (cS al co nb fl c).1 fl) && decide (co c < (cS al co nb fl c).1 (nb c)) then (fup (cS al co nb fl c).1 (nb c) (co c), fup (cS al co nb fl c).2 (nb c) (some c)) else cS al co nb fl c := rfl
/-- one row of both tables says the same -/
def eqR (x y : tU) (k : Nat) : Prop := (x.2 k = none ∧ y.2 k = none ∧ x.1 k = 1000000 ∧ y.1 k = 2000000000) ∨ (x.2 k = y.2 k ∧ x.1 k = y.1 k ∧ x.2 k ≠ none ∧ (x.1 k).toInt < 1000000)
def RelT (x y : tU) (fl : Nat) : Prop := eqR x y fl ∧ (∀ k, k < fl → x.2 k = none ∧ eqR x y k) ∧ ∀ k, fl < k → eqR x y k ∨ (x.2 fl ≠ none ∧ (x.1 fl).toInt ≤ (x.1 k).toInt ∧ (x.1 fl).toInt ≤ (y.1 k).toInt)
theorem i32_2M : (2000000000 : Int32).toInt = 2000000000 := rfl
theorem eqR_fup {x y : tU} {k c : Nat} {v : Int32} (hv : v.toInt < 1000000) : eqR (fup x.1 k v, fup x.2 k (some c)) (fup y.1 k v, fup y.2 k (some c)) k := Or.inr ⟨by show fup x.2 k (some c) k = fup y.2 k (some c) k; rw [fup_eq, fup_eq], by show fup x.1 k v k = fup y.1 k v k; rw [fup_eq, fup_eq], by show fup x.2 k (some c) k ≠ none; rw [fup_eq]; simp, by show (fup x.1 k v k).toInt < _; rw [fup_eq]; exact hv⟩
theorem eqR_ne {x y x' y' : tU} {k : Nat} (h : eqR x y k) (hx1 : x'.1 k = x.1 k) (hx2 : x'.2 k = x.2 k) (hy1 : y'.1 k = y.1 k) (hy2 : y'.2 k = y.2 k) : eqR x' y' k := by
  unfold eqR
  rw [hx1, hx2, hy1, hy2]; exact h
theorem eqR_lt {x y : tU} {k : Nat} {v : Int32} (h : eqR x y k) (hv : v.toInt < 1000000) : v < x.1 k ↔ v < y.1 k := by
  rw [Int32.lt_iff_toInt_lt, Int32.lt_iff_toInt_lt]
  rcases h with ⟨-, -, h1, h2⟩ | ⟨-, h1, -, -⟩
  · rw [h1, h2, i32_M, i32_2M]; constructor <;> intro _ <;> omega
  · rw [h1]
theorem RelT_s {al : Nat → Bool} {co : Nat → Int32} {nb : Nat → Nat} {fl : Nat} (hnb : ∀ c, al c = true → fl ≤ nb c) (hco : ∀ c, al c = true → (co c).toInt < 1000000) : ∀ c, RelT (cS al co nb fl c) (tS al co nb c) fl
  | 0 => ⟨Or.inl ⟨rfl, rfl, rfl, rfl⟩, fun k _ => ⟨rfl, Or.inl ⟨rfl, rfl, rfl, rfl⟩⟩, fun k _ => Or.inl (Or.inl ⟨rfl, rfl, rfl, rfl⟩)⟩
  | c + 1 => by
    have ih := RelT_s hnb hco c
    rw [cS_s, tS_s]
    generalize cS al co nb fl c = x at *
    generalize tS al co nb c = y at *
    obtain ⟨h1, h2, h3⟩ := ih
    cases ha : al c with
    | false =>
      rw [Bool.false_and, Bool.false_and, Bool.false_and, if_neg (by decide), if_neg (by decide)]
      exact ⟨h1, h2, h3⟩
    | true =>
      have hv := hco c ha
      have hk := hnb c ha
      generalize co c = v at *
      generalize nb c = k at *
      rw [Bool.true_and, Bool.true_and]
      have hfl := eqR_lt h1 hv
      by_cases p : v < x.1 fl
      · rw [decide_eq_true p, Bool.true_and]
        -- both look at row k
        have both : v < x.1 k ↔ v < y.1 k := by
          rcases Nat.lt_or_ge fl k with q | q
          · rcases h3 k q with w | ⟨w1, w2, w3⟩
            · exact eqR_lt w hv
            · rw [Int32.lt_iff_toInt_lt] at p
              rw [Int32.lt_iff_toInt_lt, Int32.lt_iff_toInt_lt]
              constructor <;> intro _ <;> omega
          · rw [show k = fl by omega]; exact hfl
        by_cases u : v < x.1 k
        · have u2 := both.mp u
          rw [decide_eq_true u, decide_eq_true u2, if_pos rfl, if_pos rfl]
          by_cases ek : k = fl
          · subst ek
            refine ⟨eqR_fup hv, fun j hj => ⟨?_, ?_⟩, fun j hj => ?_⟩
            · show fup x.2 k (some c) j = none
              rw [fup_ne (by omega)]; exact (h2 j hj).1
            · exact eqR_ne (h2 j hj).2 (fup_ne (by omega)) (fup_ne (by omega)) (fup_ne (by omega)) (fup_ne (by omega))
            · rcases h3 j hj with w | ⟨w1, w2, w3⟩
              · exact Or.inl (eqR_ne w (fup_ne (by omega)) (fup_ne (by omega)) (fup_ne (by omega)) (fup_ne (by omega)))
              · refine Or.inr ⟨?_, ?_, ?_⟩
                · show fup x.2 k (some c) k ≠ none
                  rw [fup_eq]; simp
                · show (fup x.1 k v k).toInt ≤ (fup x.1 k v j).toInt
                  rw [fup_eq, fup_ne (by omega)]
                  rw [Int32.lt_iff_toInt_lt] at p; omega
                · show (fup x.1 k v k).toInt ≤ (fup y.1 k v j).toInt
                  rw [fup_eq, fup_ne (by omega)]
                  rw [Int32.lt_iff_toInt_lt] at p; omega
          · refine ⟨eqR_ne h1 (fup_ne (by omega)) (fup_ne (by omega)) (fup_ne (by omega)) (fup_ne (by omega)), fun j hj => ⟨?_, ?_⟩, fun j hj => ?_⟩
            · show fup x.2 k (some c) j = none
              rw [fup_ne (by omega)]; exact (h2 j hj).1
            · exact eqR_ne (h2 j hj).2 (fup_ne (by omega)) (fup_ne (by omega)) (fup_ne (by omega)) (fup_ne (by omega))
            · by_cases ej : j = k
              · subst ej; exact Or.inl (eqR_fup hv)
              · rcases h3 j hj with w | ⟨w1, w2, w3⟩
                · exact Or.inl (eqR_ne w (fup_ne ej) (fup_ne ej) (fup_ne ej) (fup_ne ej))
                · refine Or.inr ⟨?_, ?_, ?_⟩
                  · show fup x.2 k (some c) fl ≠ none
                    rw [fup_ne (by omega)]; exact w1
                  · show (fup x.1 k v fl).toInt ≤ (fup x.1 k v j).toInt
                    rw [fup_ne (by omega), fup_ne ej]; exact w2
                  · show (fup x.1 k v fl).toInt ≤ (fup y.1 k v j).toInt
                    rw [fup_ne (by omega), fup_ne ej]; exact w3
        · have u2 : ¬ v < y.1 k := fun w => u (both.mpr w)
          rw [decide_eq_false u, decide_eq_false u2, if_neg (by decide), if_neg (by decide)]
          exact ⟨h1, h2, h3⟩
      · rw [decide_eq_false p, Bool.false_and, if_neg (by decide)]
        have pf : ¬ v < y.1 fl := fun w => p (hfl.mpr w)
        by_cases u2 : v < y.1 k
        · rw [decide_eq_true u2, if_pos rfl]
          have ek : k ≠ fl := fun e => pf (e ▸ u2)
          have hkn : x.2 fl ≠ none ∧ (x.1 fl).toInt ≤ v.toInt := by
            rw [Int32.lt_iff_toInt_lt] at p
            rcases h1 with ⟨-, -, w, -⟩ | ⟨-, -, w, -⟩
            · rw [w, i32_M] at p; omega
            · exact ⟨w, by omega⟩
          refine ⟨eqR_ne h1 rfl rfl (fup_ne (by omega)) (fup_ne (by omega)), fun j hj => ⟨(h2 j hj).1, eqR_ne (h2 j hj).2 rfl rfl (fup_ne (by omega)) (fup_ne (by omega))⟩, fun j hj => ?_⟩
          by_cases ej : j = k
          · subst ej
            refine Or.inr ⟨hkn.1, ?_, ?_⟩
            · rcases h3 j hj with w | ⟨w1, w2, w3⟩
              · have := mt (eqR_lt w hv).mpr
                rw [Int32.lt_iff_toInt_lt] at u2
                rcases w with ⟨-, -, q1, q2⟩ | ⟨-, q1, -, -⟩
                · rw [q1, i32_M]; omega
                · rw [q1]; omega
              · exact w2
            · show (x.1 fl).toInt ≤ (fup y.1 j v j).toInt
              rw [fup_eq]; exact hkn.2
          · rcases h3 j hj with w | ⟨w1, w2, w3⟩
            · exact Or.inl (eqR_ne w rfl rfl (fup_ne ej) (fup_ne ej))
            · refine Or.inr ⟨w1, w2, ?_⟩
              show (x.1 fl).toInt ≤ (fup y.1 k v j).toInt
              rw [fup_ne ej]; exact w3
        · rw [decide_eq_false u2, if_neg (by decide)]
          exact ⟨h1, h2, h3⟩
/-- the lists of both tables are one -/
theorem RelT_list {x y : tU} {fl : Nat} (h : RelT x y fl) : ∀ k, (lsT x.1 1000000 k).2 = (lsT y.1 2000000000 k).2 ∧ (((lsT x.1 1000000 k).1 = 1000000 ∧ (lsT y.1 2000000000 k).1 = 2000000000) ∨ ((lsT x.1 1000000 k).1 = (lsT y.1 2000000000 k).1 ∧ ((lsT x.1 1000000 k).1).toInt < 1000000)) ∧ (fl < k → x.2 fl ≠ none → ((lsT x.1 1000000 k).1).toInt ≤ (x.1 fl).toInt) ∧ ∀ n, n ∈ (lsT x.1 1000000 k).2 → x.1 n = y.1 n ∧ x.2 n = y.2 n
  | 0 => ⟨rfl, Or.inl ⟨rfl, rfl⟩, fun q => absurd q (by omega), fun n hn => by simp [lsT] at hn⟩
  | k + 1 => by
    obtain ⟨i1, i2, i3, i4⟩ := RelT_list h k
    rw [lsT_s, lsT_s]
    generalize lsT x.1 1000000 k = a at *
    generalize lsT y.1 2000000000 k = b at *
    obtain ⟨a1, a2⟩ := a
    obtain ⟨b1, b2⟩ := b
    dsimp only at *
    subst i1
    have same : eqR x y k → (x.1 k < a1 ↔ y.1 k < b1) ∧ (x.1 k < a1 → x.1 k = y.1 k ∧ x.2 k = y.2 k ∧ (x.1 k).toInt < 1000000) := by
      intro w
      rw [Int32.lt_iff_toInt_lt, Int32.lt_iff_toInt_lt]
      rcases w with ⟨q1, q2, q3, q4⟩ | ⟨q1, q2, q3, q4⟩
      · rw [q3, q4, i32_M, i32_2M]
        rcases i2 with ⟨e1, e2⟩ | ⟨e1, e2⟩
        · rw [e1, e2, i32_M, i32_2M]; exact ⟨by omega, fun w => by omega⟩
        · rw [← e1]; exact ⟨by omega, fun w => by omega⟩
      · refine ⟨?_, fun _ => ⟨q2, q1, q4⟩⟩
        rcases i2 with ⟨e1, e2⟩ | ⟨e1, e2⟩
        · rw [e1, e2, ← q2, i32_M, i32_2M]; omega
        · rw [← e1, q2]
    have fin : (eqR x y k ∨ (fl < k ∧ x.2 fl ≠ none ∧ (x.1 fl).toInt ≤ (x.1 k).toInt ∧ (x.1 fl).toInt ≤ (y.1 k).toInt)) := by
      rcases Nat.lt_trichotomy k fl with q | q | q
      · exact Or.inl (h.2.1 k q).2
      · rw [q]; exact Or.inl h.1
      · rcases h.2.2 k q with w | w
        · exact Or.inl w
        · exact Or.inr ⟨q, w⟩
    rcases fin with w | ⟨w0, w1, w2, w3⟩
    · obtain ⟨s1, s2⟩ := same w
      by_cases u : x.1 k < a1
      · have u2 := s1.mp u
        obtain ⟨t1, t2, t3⟩ := s2 u
        rw [if_pos u, if_pos u2]
        refine ⟨rfl, Or.inr ⟨t1, t3⟩, fun q1 q2 => ?_, fun n hn => ?_⟩
        · by_cases e : fl = k
          · rw [e]; exact Int.le_refl _
          · have := i3 (by omega) q2
            rw [Int32.lt_iff_toInt_lt] at u
            show (x.1 k).toInt ≤ _
            omega
        · rcases List.mem_append.mp hn with q | q
          · exact i4 n q
          · rw [List.mem_singleton.mp q]; exact ⟨t1, t2⟩
      · have u2 : ¬ y.1 k < b1 := fun q => u (s1.mpr q)
        rw [if_neg u, if_neg u2]
        refine ⟨rfl, i2, fun q1 q2 => ?_, i4⟩
        by_cases e : fl = k
        · rw [Int32.lt_iff_toInt_lt, ← e] at u
          show a1.toInt ≤ _
          omega
        · exact i3 (by omega) q2
    · have hlow := i3 w0 w1
      have u : ¬ x.1 k < a1 := fun q => by rw [Int32.lt_iff_toInt_lt] at q; omega
      have hb1 : b1 = a1 := by
        rcases i2 with ⟨e1, e2⟩ | ⟨e1, e2⟩
        · have hk : (x.1 fl).toInt < 1000000 := by
            rcases h.1 with ⟨q1, -⟩ | ⟨-, -, -, q4⟩
            · exact absurd q1 w1
            · exact q4
          rw [e1, i32_M] at hlow; omega
        · exact e1.symm
      have u2 : ¬ y.1 k < b1 := fun q => by rw [hb1, Int32.lt_iff_toInt_lt] at q; omega
      rw [if_neg u, if_neg u2]
      exact ⟨rfl, i2, fun q1 q2 => i3 w0 q2, i4⟩
