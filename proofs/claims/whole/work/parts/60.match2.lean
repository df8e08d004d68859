/-! ===== the rows of exchanges find the most ===== -/
theorem cntP_congr {p q : Nat → Bool} : ∀ n, (∀ x, x < n → p x = q x) → cntP p n = cntP q n
  | 0, _ => rfl
  | n + 1, h => by
    unfold cntP
    rw [cntP_congr n (fun x hx => h x (by omega)), h n (by omega)]
theorem cntP_s (p : Nat → Bool) (k : Nat) : cntP p (k + 1) = cntP p k + if p k then 1 else 0 := rfl
theorem cntP_mono {p q : Nat → Bool} : ∀ n, (∀ x, x < n → p x = true → q x = true) → cntP p n ≤ cntP q n
  | 0, _ => Nat.le_refl _
  | n + 1, h => by
    have ih := cntP_mono n (fun x hx => h x (by omega))
    unfold cntP
    by_cases hp : p n = true
    · rw [if_pos hp, if_pos (h n (by omega) hp)]; omega
    · rw [if_neg hp]; omega
theorem cntP_one {p q : Nat → Bool} {r : Nat} (hp : p r = false) (hq : q r = true) : ∀ n, r < n → (∀ x, x < n → x ≠ r → q x = p x) → cntP q n = cntP p n + 1
  | 0, h, _ => absurd h (by omega)
  | n + 1, h, he => by
    by_cases e : r = n
    · subst e
      unfold cntP
      rw [cntP_congr r (fun x hx => he x (by omega) (by omega)), hq, hp]
      rfl
    · have ih := cntP_one hp hq n (by omega) (fun x hx => he x (by omega))
      unfold cntP
      rw [ih, he n (by omega) (Ne.symm e)]
      omega
/-- one route looks for a follower -/
def gn (f : Nat → Nat → Bool) (F : Nat → Bool) (n : Nat) (M : pM × pM) (root : Nat) : Bool × pM × pM := match bfQ f F M.1 n (n + 1) 0 (0, fun _ => 0, [root]) with
  | (_, none) => (false, M)
  | (s, some b) => (true, mv s.2.1 n M.1 M.2 (some b))
/-- the last e of n look one behind the other -/
def ms (f : Nat → Nat → Bool) (F : Nat → Bool) (n : Nat) : Nat → Nat × pM × pM → Nat × pM × pM
  | 0, x => x
  | e + 1, x => ms f F n e (x.1 + (if (gn f F n x.2 (n - (e + 1))).1 then 1 else 0), (gn f F n x.2 (n - (e + 1))).2)
def M0 : pM × pM := (fun _ => none, fun _ => none)
theorem mv_ok {f : Nat → Nat → Bool} {F : Nat → Bool} {n root : Nat} {q : List Nat} {bw : Nat → Nat} {L0 G0 : pM} {rch : Nat} (hS : SF f F n root q bw L0 G0 rch) (Rs : Nat → Bool) (hcl : ∀ b z, Rs b = true → L0 b = some z → ∀ c, c < n → f z c = true → F c = true → Rs c = true) : ∀ (m i : Nat) (L G : pM) (b : Nat), i ≤ m → PH q n bw G0 rch i L G b → F b = true → f (bw b) b = true → Rs b = false → (∀ c, Rs c = true → L c = L0 c) → (∀ c x, c ≠ b → L c = some x → c < n ∧ f x c = true ∧ F c = true ∧ (x = root ∨ G0 x ≠ none)) → (∀ x, G x = none ↔ G0 x = none) →
    Cst (mv bw m L G (some b)).1 (mv bw m L G (some b)).2 ∧ (∀ c, Rs c = true → (mv bw m L G (some b)).1 c = L0 c) ∧ (∀ c x, (mv bw m L G (some b)).1 c = some x → c < n ∧ f x c = true ∧ F c = true ∧ (x = root ∨ G0 x ≠ none)) ∧ ∀ x, (mv bw m L G (some b)).2 x = none ↔ (G0 x = none ∧ x ≠ root) := by
  intro m
  induction m with
  | zero =>
    intro i L G b hi h
    obtain ⟨j, hj, -⟩ := h.2.1
    omega
  | succ m ih =>
    intro i L G b hi h hF hf hR h6 h7 h8
    have hs := (PH_step hS h).2
    have e0 : mv bw (m + 1) L G (some b) = mv bw m (fup L b (some (bw b))) (fup G (bw b) (some b)) (G (bw b)) := rfl
    rw [e0]
    have h6' : ∀ c, Rs c = true → fup L b (some (bw b)) c = L0 c := fun c hc => by
      rw [fup_ne (fun e => by rw [e, hR] at hc; cases hc)]; exact h6 c hc
    rcases hs with ⟨er, hG⟩ | ⟨c, j, e1, e2, e3, e4, e5, e6, e7, e8, e9, e10⟩
    · rw [hG, mv_none]
      refine ⟨fun a c => ?_, h6', fun c x hc => ?_, fun x => ?_⟩
      · show fup L b (some (bw b)) c = some a ↔ fup G (bw b) (some b) a = some c
        by_cases ec : c = b
        · subst ec
          rw [fup_eq]
          by_cases ea : a = bw c
          · subst ea; rw [fup_eq]; exact ⟨fun _ => rfl, fun _ => rfl⟩
          · rw [fup_ne ea]
            exact ⟨fun q => absurd (Option.some.inj q).symm ea, fun q => absurd q (h.2.2.2.2.1 a)⟩
        · rw [fup_ne ec]
          by_cases ea : a = bw b
          · subst ea
            rw [fup_eq]
            constructor
            · intro q; have := (h.2.2.2.1 c ec _).mp q; rw [hG] at this; cases this
            · intro q; exact absurd (Option.some.inj q).symm ec
          · rw [fup_ne ea]; exact h.2.2.2.1 c ec a
      · by_cases ec : c = b
        · subst ec
          have hc : fup L c (some (bw c)) c = some x := hc
          rw [fup_eq] at hc
          cases hc
          exact ⟨h.1, hf, hF, Or.inl er⟩
        · have hc : fup L b (some (bw b)) c = some x := hc
          rw [fup_ne ec] at hc
          exact h7 c x ec hc
      · show fup G (bw b) (some b) x = none ↔ _
        by_cases ea : x = bw b
        · subst ea
          rw [fup_eq]
          exact ⟨fun q => (by cases q), fun q => absurd er q.2⟩
        · rw [fup_ne ea, h8 x]
          exact ⟨fun q => ⟨q, fun e => ea (e.trans er.symm)⟩, fun q => q.1⟩
    · rw [e2]
      refine ih j _ _ c (by omega) e10 e5 e6 ?_ h6' (fun c' x hc' hx => ?_) (fun x => ?_)
      · cases hrc : Rs c with
        | false => rfl
        | true =>
          have := hcl c _ hrc e7 b h.1 hf hF
          rw [hR] at this; cases this
      · by_cases ec : c' = b
        · subst ec
          rw [fup_eq] at hx
          cases hx
          exact ⟨h.1, hf, hF, Or.inr (by rw [e3]; exact fun q => by cases q)⟩
        · rw [fup_ne ec] at hx
          exact h7 c' x ec hx
      · by_cases ea : x = bw b
        · subst ea
          rw [fup_eq, e3]
          exact ⟨fun q => (by cases q), fun q => (by cases q)⟩
        · rw [fup_ne ea]; exact h8 x
/-- the routes from fi to a have looked -/
def MI (f : Nat → Nat → Bool) (F : Nat → Bool) (n fi a cnt : Nat) (M : pM × pM) : Prop :=
  Cst M.1 M.2 ∧ (∀ b x, M.1 b = some x → fi ≤ x ∧ x < a ∧ b < n ∧ f x b = true ∧ F b = true) ∧ (∃ Rs : Nat → Bool, (∀ b, Rs b = true → b < n ∧ F b = true ∧ ∃ x, M.1 b = some x) ∧ ∀ z, fi ≤ z → z < a → (M.2 z = none ∨ ∃ b, Rs b = true ∧ M.1 b = some z) → ∀ b, b < n → f z b = true → F b = true → Rs b = true) ∧ cnt = cntP (fun z => (M.2 z).isSome) n
theorem MI_BA {f : Nat → Nat → Bool} {F : Nat → Bool} {n fi a cnt : Nat} {M : pM × pM} (h : MI f F n fi a cnt M) (ha : a < n) : BA M.1 n a := by
  refine ⟨ha, fun b x hx => ?_, fun b b' x h1 h2 => ?_⟩
  · obtain ⟨q1, q2, q3, -⟩ := h.2.1 b x hx
    exact ⟨q3, by omega, by omega⟩
  · have a1 := (h.1 x b).mp h1
    have a2 := (h.1 x b').mp h2
    rw [a1] at a2
    exact Option.some.inj a2
theorem MI_gn {f : Nat → Nat → Bool} {F : Nat → Bool} {n fi a cnt : Nat} {M : pM × pM} (h : MI f F n fi a cnt M) (hfi : fi ≤ a) (ha : a < n) : MI f F n fi (a + 1) (cnt + if (gn f F n M a).1 then 1 else 0) (gn f F n M a).2 := by
  have hA := MI_BA h ha
  obtain ⟨r1, r2⟩ := bfQ_ok hA (f := f) (F := F) (n + 1) 0 (0, fun _ => 0, [a]) (by omega) (Nat.zero_le _) (BI_0 ha) (fun j x hj => absurd hj (by omega))
  obtain ⟨hC, h2, ⟨Rs, hR1, hR2⟩, hcnt⟩ := h
  have hGa : M.2 a = none := by
    cases hg : M.2 a with
    | none => rfl
    | some c => have := h2 c a ((hC a c).mpr hg); omega
  rcases hq : bfQ f F M.1 n (n + 1) 0 (0, fun _ => 0, [a]) with ⟨s, o⟩
  cases o with
  | none =>
    have e : gn f F n M a = (false, M) := by unfold gn; rw [hq]
    rw [e]
    obtain ⟨hB, hcl⟩ := r1 s hq
    refine ⟨hC, fun b x hx => ?_, ⟨fun b => Rs b || s.1.testBit b, fun b hb => ?_, fun z h3 h4 h5 b hb hf hF => ?_⟩, by simpa using hcnt⟩
    · obtain ⟨q1, q2, q3⟩ := h2 b x hx
      exact ⟨q1, by omega, q3⟩
    · rcases Bool.or_eq_true _ _ ▸ hb with q | q
      · exact hR1 b q
      · obtain ⟨q1, q2, q3, x, q4, -⟩ := hB.1 b q
        exact ⟨q1, q2, x, q4⟩
    · show (Rs b || s.1.testBit b) = true
      rw [Bool.or_eq_true]
      by_cases ez : z = a
      · subst ez
        exact Or.inr (hcl z (List.mem_of_getElem? hB.2.1) b hb hf hF)
      · rcases h5 with q | ⟨c, q1, q2⟩
        · exact Or.inl (hR2 z h3 (by omega) (Or.inl q) b hb hf hF)
        · rcases Bool.or_eq_true _ _ ▸ q1 with q | q
          · exact Or.inl (hR2 z h3 (by omega) (Or.inr ⟨c, q, q2⟩) b hb hf hF)
          · obtain ⟨-, -, -, x, q4, -, q6⟩ := hB.1 c q
            rw [q2] at q4
            cases q4
            exact Or.inr (hcl z q6 b hb hf hF)
  | some b =>
    have e : gn f F n M a = (true, mv s.2.1 n M.1 M.2 (some b)) := by unfold gn; rw [hq]
    rw [e]
    obtain ⟨g1, g2, g3, g4, g5, g6⟩ := SF_of hA hC (r2 s b hq)
    have hRb : Rs b = false := by
      cases hr : Rs b with
      | false => rfl
      | true => obtain ⟨-, -, x, hx⟩ := hR1 b hr; rw [g5] at hx; cases hx
    obtain ⟨k1, k2, k3, k4⟩ := mv_ok g1 Rs (fun b z h1 h3 c h4 h5 h6 => by
      obtain ⟨q1, q2, -⟩ := h2 b z h3
      exact hR2 z q1 q2 (Or.inr ⟨b, h1, h3⟩) c h4 h5 h6) n s.2.2.length M.1 M.2 b g2 g6 g3 g4 hRb (fun _ _ => rfl) (fun c x _ hx => by
      obtain ⟨q1, q2, q3, q4, q5⟩ := h2 c x hx
      exact ⟨q3, q4, q5, Or.inr (by rw [(hC x c).mp hx]; exact fun q => by cases q)⟩) (fun _ => Iff.rfl)
    refine ⟨k1, fun c x hx => ?_, ⟨Rs, fun c hc => ?_, fun z h3 h4 h5 c hc hf hF => ?_⟩, ?_⟩
    · obtain ⟨q1, q2, q3, q4⟩ := k3 c x hx
      rcases q4 with q4 | q4
      · subst q4; exact ⟨hfi, by omega, q1, q2, q3⟩
      · cases hg : M.2 x with
        | none => exact absurd hg q4
        | some c' =>
          obtain ⟨w1, w2, -⟩ := h2 c' x ((hC x c').mpr hg)
          exact ⟨w1, by omega, q1, q2, q3⟩
    · obtain ⟨q1, q2, x, hx⟩ := hR1 c hc
      exact ⟨q1, q2, x, (k2 c hc).trans hx⟩
    · rcases h5 with q | ⟨c', q1, q2⟩
      · have q' := (k4 z).mp q
        exact hR2 z h3 (by omega) (Or.inl q'.1) c hc hf hF
      · have q2' : M.1 c' = some z := (k2 c' q1).symm.trans q2
        obtain ⟨w1, w2, -⟩ := h2 c' z q2'
        exact hR2 z w1 w2 (Or.inr ⟨c', q1, q2'⟩) c hc hf hF
    · rw [if_pos rfl, hcnt]
      refine (cntP_one (r := a) (by rw [hGa]; rfl) ?_ n ha (fun x hx hne => ?_)).symm
      · cases hg : (mv s.2.1 n M.1 M.2 (some b)).2 a with
        | none => exact absurd rfl ((k4 a).mp hg).2
        | some y => first | rfl | (simp only [hg]; rfl)
      · cases hg : M.2 x with
        | none => rw [(k4 x).mpr ⟨hg, hne⟩]
        | some y =>
          cases hg2 : (mv s.2.1 n M.1 M.2 (some b)).2 x with
          | none => have := ((k4 x).mp hg2).1; rw [hg] at this; cases this
          | some y2 => rfl
theorem MI_0 {f : Nat → Nat → Bool} {F : Nat → Bool} {n fi : Nat} : MI f F n fi fi 0 M0 := by
  refine ⟨fun a b => ⟨fun q => (by cases q), fun q => (by cases q)⟩, fun b x hx => (by cases hx), ⟨fun _ => false, fun b hb => (by cases hb), fun z h1 h2 => absurd h1 (by omega)⟩, ?_⟩
  have : ∀ n, cntP (fun z => (M0.2 z).isSome) n = 0 := by
    intro n
    induction n with
    | zero => rfl
    | succ n ih => unfold cntP; rw [ih]; rfl
  exact (this n).symm
theorem MI_ms {f : Nat → Nat → Bool} {F : Nat → Bool} {n fi : Nat} : ∀ (e : Nat) (x : Nat × pM × pM), fi ≤ n - e → e ≤ n → MI f F n fi (n - e) x.1 x.2 → MI f F n fi n (ms f F n e x).1 (ms f F n e x).2
  | 0, x, _, _, h => h
  | e + 1, x, h1, h2, h => by
    have := MI_gn h h1 (by omega)
    rw [show n - (e + 1) + 1 = n - e by omega] at this
    exact MI_ms e _ (by omega) (by omega) this
theorem mx_up {f : Nat → Nat → Bool} {n : Nat} (Z Rs : Nat → Bool) : ∀ (e T : Nat), e ≤ n → (∀ z, n - e ≤ z → z < n → Z z = true → ∀ b, b < n → f z b = true → T.testBit b = false → Rs b = true) → mxF f n e T ≤ cntP (fun b => Rs b && !T.testBit b) n + cntP (fun x => decide (n - e ≤ x) && !Z x) n
  | 0, T, _, _ => Nat.zero_le _
  | e + 1, T, he, h => by
    have hle : cntP (fun x => decide (n - e ≤ x) && !Z x) n ≤ cntP (fun x => decide (n - (e + 1) ≤ x) && !Z x) n := cntP_mono n (fun x hx hp => by
      simp only [Bool.and_eq_true, decide_eq_true_eq] at *
      exact ⟨by omega, hp.2⟩)
    rw [mxF_s]
    refine mxB_le ?_ n (fun b hb hp => ?_)
    · have ih := mx_up Z Rs e T (by omega) (fun z h1 h2 => h z (by omega) h2)
      omega
    · simp only [Bool.and_eq_true, Bool.not_eq_true'] at hp
      have ih := mx_up Z Rs e (T ||| 2 ^ b) (by omega) (fun z h1 h2 h3 c h4 h5 h6 => h z (by omega) h2 h3 c h4 h5 (Bool.eq_false_iff.mpr (fun q => by
        rw [or_tb.mpr (Or.inl q)] at h6; cases h6)))
      by_cases hz : Z (n - (e + 1)) = true
      · have hrb := h _ (Nat.le_refl _) (by omega) hz b hb hp.1 hp.2
        have h1 := cntP_one (p := fun c => Rs c && !(T ||| 2 ^ b).testBit c) (q := fun c => Rs c && !T.testBit c) (r := b) (by rw [or_tb.mpr (Or.inr rfl)]; simp) (by rw [hrb, hp.2]; rfl) n hb (fun x hx hne => by
          have : (T ||| 2 ^ b).testBit x = T.testBit x := by
            rw [Nat.testBit_or, Nat.testBit_two_pow, decide_eq_false (Ne.symm hne), Bool.or_false]
          rw [this])
        show 1 + mxF f n e (T ||| 2 ^ b) ≤ _
        omega
      · have h1 : cntP (fun c => Rs c && !(T ||| 2 ^ b).testBit c) n ≤ cntP (fun c => Rs c && !T.testBit c) n := cntP_mono n (fun x hx hp2 => by
          simp only [Bool.and_eq_true, Bool.not_eq_true'] at *
          refine ⟨hp2.1, Bool.eq_false_iff.mpr (fun q => ?_)⟩
          rw [or_tb.mpr (Or.inl q)] at hp2
          exact absurd hp2.2 (by simp))
        have h2 := cntP_one (p := fun x => decide (n - e ≤ x) && !Z x) (q := fun x => decide (n - (e + 1) ≤ x) && !Z x) (r := n - (e + 1)) (by rw [decide_eq_false (by omega)]; rfl) (by rw [decide_eq_true (by omega), Bool.eq_false_iff.mpr hz]; rfl) n (by omega) (fun x hx hne => by
          have : decide (n - (e + 1) ≤ x) = decide (n - e ≤ x) := by
            apply decide_eq_decide.mpr; omega
          rw [this])
        show 1 + mxF f n e (T ||| 2 ^ b) ≤ _
        omega
theorem mx_low {f : Nat → Nat → Bool} {n : Nat} (G : pM) (hinj : ∀ z z' b, G z = some b → G z' = some b → z = z') : ∀ (e T : Nat), e ≤ n → (∀ z b, n - e ≤ z → z < n → G z = some b → b < n ∧ f z b = true ∧ T.testBit b = false) → cntP (fun z => decide (n - e ≤ z) && (G z).isSome) n ≤ mxF f n e T
  | 0, T, _, _ => by
    rw [cntP_congr (q := fun _ => false) n (fun x hx => by rw [decide_eq_false (by omega)]; rfl)]
    have : ∀ n, cntP (fun _ => false) n = 0 := by
      intro n
      induction n with
      | zero => rfl
      | succ n ih => unfold cntP; rw [ih]; rfl
    rw [this]; exact Nat.zero_le _
  | e + 1, T, he, h => by
    rw [mxF_s]
    cases hg : G (n - (e + 1)) with
    | none =>
      have ih := mx_low G hinj e T (by omega) (fun z b h1 h2 h3 => h z b (by omega) h2 h3)
      refine Nat.le_trans ?_ (Nat.le_trans ih (mxB_ge0 n))
      refine cntP_mono n (fun x hx hp => ?_)
      simp only [Bool.and_eq_true, decide_eq_true_eq] at *
      refine ⟨?_, hp.2⟩
      by_cases ex : x = n - (e + 1)
      · rw [ex, hg] at hp; exact absurd hp.2 (by simp)
      · omega
    | some b =>
      obtain ⟨q1, q2, q3⟩ := h _ b (Nat.le_refl _) (by omega) hg
      have ih := mx_low (f := f) (n := n) G hinj e (T ||| 2 ^ b) (Nat.le_of_succ_le he) (fun z c (h1 : n - e ≤ z) h2 h3 => by
        obtain ⟨w1, w2, w3⟩ := h z c (by omega) h2 h3
        refine ⟨w1, w2, Bool.eq_false_iff.mpr (fun q => ?_)⟩
        rcases or_tb.mp q with q | q
        · rw [w3] at q; cases q
        · subst q
          have := hinj _ _ _ h3 hg
          omega)
      have h2 := cntP_one (p := fun x => decide (n - e ≤ x) && (G x).isSome) (q := fun x => decide (n - (e + 1) ≤ x) && (G x).isSome) (r := n - (e + 1)) (by rw [decide_eq_false (by omega)]; rfl) (by rw [decide_eq_true (by omega), hg]; rfl) n (by omega) (fun x hx hne => by
        have : decide (n - (e + 1) ≤ x) = decide (n - e ≤ x) := by
          apply decide_eq_decide.mpr; omega
        rw [this])
      have h3 := mxB_ge (p := fun b => f (n - (e + 1)) b && !T.testBit b) (w := fun b => 1 + mxF f n e (T ||| 2 ^ b)) (v0 := mxF f n e T) (b := b) (by rw [q2, q3]; rfl) n q1
      rw [h2]
      refine Nat.le_trans ?_ h3
      show _ ≤ 1 + mxF f n e (T ||| 2 ^ b)
      omega
theorem cnt_inj {n : Nat} {L G : pM} {Rs : Nat → Bool} (hC : Cst L G) (hR : ∀ b, Rs b = true → ∃ x, L b = some x ∧ x < n) : ∀ k, cntP Rs k ≤ cntP (fun z => match G z with | some b => Rs b && decide (b < k) | none => false) n
  | 0 => Nat.zero_le _
  | k + 1 => by
    have ih := cnt_inj hC hR k
    by_cases hk : Rs k = true
    · obtain ⟨x, hx, hxn⟩ := hR k hk
      have hg := (hC x k).mp hx
      have h2 := cntP_one (p := fun z => match G z with | some b => Rs b && decide (b < k) | none => false) (q := fun z => match G z with | some b => Rs b && decide (b < k + 1) | none => false) (r := x) (by simp [hg]) (by simp [hg, hk]) n hxn (fun z hz hne => by
        cases hgz : G z with
        | none => simp [hgz]
        | some b =>
          simp only [hgz]
          have : b ≠ k := fun e => hne (by
            subst e
            have a1 := (hC z b).mpr hgz
            rw [hx] at a1
            exact (Option.some.inj a1).symm)
          congr 1
          apply decide_eq_decide.mpr; omega)
      rw [h2, cntP_s, if_pos hk]
      omega
    · rw [cntP_s, if_neg hk]
      refine Nat.le_trans ih (cntP_mono n (fun z hz hp => ?_))
      cases hgz : G z with
      | none => simp [hgz] at hp
      | some b =>
        simp only [hgz, Bool.and_eq_true, decide_eq_true_eq] at *
        exact ⟨hp.1, by omega⟩
theorem cntP_add {p q r : Nat → Bool} : ∀ n, (∀ x, x < n → r x = (p x || q x) ∧ (p x && q x) = false) → cntP r n = cntP p n + cntP q n
  | 0, _ => rfl
  | n + 1, h => by
    have ih := cntP_add n (fun x hx => h x (by omega))
    obtain ⟨h1, h2⟩ := h n (by omega)
    unfold cntP
    rw [ih, h1]
    cases hp : p n <;> cases hq : q n <;> simp_all <;> omega
/-- THE MOST: by rows of exchanges as by sets -/
theorem ms_mx {f : Nat → Nat → Bool} {n e T : Nat} (he : e ≤ n) : (ms f (fun b => !T.testBit b) n e (0, M0)).1 = mxF f n e T := by
  have h := MI_ms (f := f) (F := fun b => !T.testBit b) (n := n) (fi := n - e) e (0, M0) (Nat.le_refl _) he MI_0
  obtain ⟨hC, h2, ⟨Rs, hR1, hR2⟩, hcnt⟩ := h
  revert hcnt hR2 hR1 h2 hC
  generalize ms f (fun b => !T.testBit b) n e (0, M0) = x
  obtain ⟨c, L, G⟩ := x
  intro hC h2 hcnt hR1 hR2
  dsimp only at *
  have hmat : ∀ z, (G z).isSome = (decide (n - e ≤ z) && (G z).isSome) := fun z => by
    cases hg : G z with
    | none => simp
    | some b =>
      have := (h2 b z ((hC z b).mpr hg)).1
      rw [decide_eq_true this]; rfl
  have hlow : c ≤ mxF f n e T := by
    rw [hcnt, cntP_congr n (fun z _ => hmat z)]
    refine mx_low G (fun z z' b h3 h4 => ?_) e T he (fun z b h3 h4 h5 => ?_)
    · have a1 := (hC z b).mpr h3
      have a2 := (hC z' b).mpr h4
      rw [a1] at a2
      exact Option.some.inj a2
    · obtain ⟨-, -, q1, q2, q3⟩ := h2 b z ((hC z b).mpr h5)
      exact ⟨q1, q2, by simpa using q3⟩
  have hup : mxF f n e T ≤ c := by
    have u := mx_up (f := f) (n := n) (fun z => match G z with | some b => Rs b | none => true) Rs e T he (fun z h3 h4 h5 b h6 h7 h8 => by
      refine hR2 z h3 h4 ?_ b h6 h7 (by simpa using h8)
      cases hg : G z with
      | none => exact Or.inl rfl
      | some b2 =>
        simp only [hg] at h5
        exact Or.inr ⟨b2, h5, (hC z b2).mpr hg⟩)
    have i1 := cnt_inj (n := n) (Rs := Rs) hC (fun b hb => by
      obtain ⟨q1, q2, x, hx⟩ := hR1 b hb
      exact ⟨x, hx, (h2 b x hx).2.1⟩) n
    have i2 : cntP (fun b => Rs b && !T.testBit b) n ≤ cntP Rs n := cntP_mono n (fun x hx hp => by
      rw [Bool.and_eq_true] at hp; exact hp.1)
    have i3 := cntP_add (r := fun z => (G z).isSome) (p := fun z => match G z with | some b => Rs b && decide (b < n) | none => false) (q := fun x => decide (n - e ≤ x) && !(match G x with | some b => Rs b | none => true)) n (fun z hz => by
      cases hg : G z with
      | none => simp
      | some b =>
        obtain ⟨q0, -, q1, -⟩ := h2 b z ((hC z b).mpr hg)
        simp only [decide_eq_true q0, decide_eq_true q1]
        cases Rs b <;> simp)
    omega
  show c = _
  omega
