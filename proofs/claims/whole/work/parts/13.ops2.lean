section AE2
variable {z : Nat × (Nat → Int32)} {mem' : aM} {y : aY} {R : Room} {Q : Option Value → Nat → aM → Prop} {pc : Nat} {ls : List (Option Value)} {st : List Value} {n : Nat} {mem : aM} {k1 k2 : Nat}
theorem aE_min {idx : Nat} {a b : Int32} (hd : decode y.2.2.1 pc = .ok (.invokestatic idx, 3)) (hw : Cond.methodLink y.1 idx Lib.Math.min.name ∈ lw_g ∧ Cond.static Lib.Math.min.name ∈ lw_g ∧ Cond.initialized "java/lang/Math" ∈ lw_g ∧ Cond.code Lib.Math.min.name Lib.Math.min.code 2 (some .int) ∈ lw_g) (hok : 1 ≤ R.frames ∧ 21 ≤ R.locals) (hk : k1 ≤ R.cells ∧ k2 ≤ R.slots) (hcat : (st.map fun v => v.category).sum ≤ 8) (k : aE z y R Q (pc + 3) ls (.int (if b < a then b else a) :: st) n mem k1 k2) : aE z y R Q pc ls (.int b :: .int a :: st) n mem k1 k2 := by
  intro g hz p l e s m args below meth c H locs A hF hS hR hL
  have hts := hF.2.2.2.2.2.1
  exact va_mmin hF.1 hF.2.1 (hF.2.2.2.1.trans hL.1.symm) hF.2.2.2.2.1 (hts _ hw.1) (hts _ hw.2.1) (hts _ hw.2.2.1) (hts _ hw.2.2.2) hok.1 (by rw [a_cats]; omega) hk.1 hk.2 hd (k g hz p l e s m args below meth c H locs A hF hS hR hL)
theorem aE_max {idx : Nat} {a b : Int32} (hd : decode y.2.2.1 pc = .ok (.invokestatic idx, 3)) (hw : Cond.methodLink y.1 idx Lib.Math.max.name ∈ lw_g ∧ Cond.static Lib.Math.max.name ∈ lw_g ∧ Cond.initialized "java/lang/Math" ∈ lw_g ∧ Cond.code Lib.Math.max.name Lib.Math.max.code 2 (some .int) ∈ lw_g) (hok : 1 ≤ R.frames ∧ 21 ≤ R.locals) (hk : k1 ≤ R.cells ∧ k2 ≤ R.slots) (hcat : (st.map fun v => v.category).sum ≤ 8) (k : aE z y R Q (pc + 3) ls (.int (if a < b then b else a) :: st) n mem k1 k2) : aE z y R Q pc ls (.int b :: .int a :: st) n mem k1 k2 := by
  intro g hz p l e s m args below meth c H locs A hF hS hR hL
  have hts := hF.2.2.2.2.2.1
  exact va_mmax hF.1 hF.2.1 (hF.2.2.2.1.trans hL.1.symm) hF.2.2.2.2.1 (hts _ hw.1) (hts _ hw.2.1) (hts _ hw.2.2.1) (hts _ hw.2.2.2) hok.1 (by rw [a_cats]; omega) hk.1 hk.2 hd (k g hz p l e s m args below meth c H locs A hF hS hR hL)
theorem aE_abs {idx : Nat} {a : Int32} (hd : decode y.2.2.1 pc = .ok (.invokestatic idx, 3)) (hw : Cond.methodLink y.1 idx Lib.Math.abs.name ∈ lw_g ∧ Cond.static Lib.Math.abs.name ∈ lw_g ∧ Cond.initialized "java/lang/Math" ∈ lw_g ∧ Cond.code Lib.Math.abs.name Lib.Math.abs.code 1 (some .int) ∈ lw_g) (hok : 1 ≤ R.frames ∧ 21 ≤ R.locals) (hk : k1 ≤ R.cells ∧ k2 ≤ R.slots) (hcat : (st.map fun v => v.category).sum ≤ 8) (k : aE z y R Q (pc + 3) ls (.int (if 0 ≤ a then a else 0 - a) :: st) n mem k1 k2) : aE z y R Q pc ls (.int a :: st) n mem k1 k2 := by
  intro g hz p l e s m args below meth c H locs A hF hS hR hL
  have hts := hF.2.2.2.2.2.1
  exact va_mabs hF.1 hF.2.1 (hF.2.2.2.1.trans hL.1.symm) hF.2.2.2.2.1 (hts _ hw.1) (hts _ hw.2.1) (hts _ hw.2.2.1) (hts _ hw.2.2.2) hok.1 (by rw [a_cats]; omega) hk.1 hk.2 hd (k g hz p l e s m args below meth c H locs A hF hS hR hL)
theorem aRuns.wk {x : aY} {as : List Value} {Q' : Option Value → Nat → aM → Prop} (h : aRuns x R as n mem Q) (hq : ∀ r n m, Q r n m → Q' r n m) : aRuns x R as n mem Q' := by
  intro l g p e ha hc hk s m args below hf hap hP hT
  obtain ⟨j, o, h1, h2, h3, ⟨⟨r, n', m', e1, e2, e3⟩, e4⟩, h5⟩ := h l g p e ha hc hk s m args below hf hap hP hT
  exact ⟨j, o, h1, h2, h3, ⟨⟨r, n', m', e1, hq _ _ _ e2, e3⟩, e4⟩, h5⟩
end AE2
