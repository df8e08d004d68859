theorem rideL_s2 {d : pD} {cs : Nat → pC} {al : Nat → Nat} {t s ns : Nat} (hal : ∀ s, al s < 1024) (hot : ∀ s', s' < ns → s' ≠ s → (al s').testBit t = false) (hs : s < ns) : rideL d cs t (RR d cs al ns) = rideS d (cs s) t (RLs d (cs s) (al s)) := by
  have e1 : ∀ k, k ≤ ns → RR d cs al k = RR d cs (fun s => if s < ns then al s else 0) k := by
    intro k
    induction k with
    | zero => intro _; rfl
    | succ k ih =>
      intro hk
      show RR d cs al k ++ _ = RR d cs (fun s => if s < ns then al s else 0) k ++ _
      have ek : (fun s => if s < ns then al s else 0) k = al k := if_pos (show k < ns by omega)
      rw [ih (by omega), ek]
  have h2 := rideL_sc (d := d) (cs := cs) (al := fun s => if s < ns then al s else 0) (t := t) (s := s) (fun x => by
    show (if x < ns then al x else 0) < 1024
    split
    · exact hal x
    · omega) (fun s' hne => by
    show (if s' < ns then al s' else 0).testBit t = false
    split
    · rename_i h; exact hot s' h hne
    · simp) hs
  rw [e1 ns (Nat.le_refl _), h2]
  show rideS d (cs s) t (RLs d (cs s) (if s < ns then al s else 0)) = _
  rw [if_pos hs]
theorem al_ot {f : Nat → Int32} {n t ns : Nat} {sc : Nat → Nat} (hns : ns ≤ 4) (hsc : sc t < ns ∧ f t = nI (sc t)) : ∀ s', s' < ns → s' ≠ sc t → (setOf f (nI s') n).testBit t = false := fun s' hs' hne => by
  rw [setOf_tb]
  refine Bool.eq_false_iff.mpr fun q => ?_
  rw [Bool.and_eq_true, decide_eq_true_eq, decide_eq_true_eq] at q
  rw [hsc.2] at q
  exact hne ((nI_eq (by omega) (by omega)).mp q.2).symm
theorem faS_3 (pu ah v ri : Int32) : v + pu * 20 * (if 0 < ah then ah else 0) = faS 3 pu ri ah v := by
  show _ = if 0 < ah then v + 20 * ah * pu else v
  by_cases h : 0 < ah
  · rw [if_pos h, if_pos h]
    congr 1
    rw [Int32.mul_comm pu, Int32.mul_assoc, Int32.mul_comm pu, ← Int32.mul_assoc]
  · rw [if_neg h, if_neg h, Int32.mul_zero, Int32.add_zero]
