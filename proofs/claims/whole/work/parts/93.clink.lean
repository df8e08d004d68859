def bcV (x : Int32) : Int32 :=
  let u := fun (y : Int32) (k : Int32) => (y.toUInt32 >>> (k.toUInt32 &&& Int32.toUInt32 31)).toInt32
  let x1 := x - (u x 1 &&& 1431655765)
  let x2 := (x1 &&& 858993459) + (u x1 2 &&& 858993459)
  let x3 := (x2 + u x2 4) &&& 252645135
  let x4 := x3 + u x3 8
  let x5 := x4 + u x4 16
  x5 &&& 63
theorem bc_all : ∀ T, T < 1024 → bcV (nI T) = nI (cdB T 10) := by decide +kernel
section CLINK
variable {z : Nat × (Nat → Int32)} {n : Nat} {mem : aM} {I : Nat → Nat → Int32} {sp : Nat → Nat} {pl : Bool} {Q : Option Value → Nat → aM → Prop} {R : Room}variable {ns nstr nc : Nat} {d : pD} {cs : Nat → pC} {fr to : Nat → Nat} {al : Nat → Nat} {sl : Int32}

theorem may_gap (hA : AlOK d cs al ns) (hd : d01 d) (hc : ∀ s, s < ns → (cs s).2.toInt ≤ 90) (hsl : 0 ≤ sl.toInt ∧ sl.toInt ≤ 30) {tr : Nat → Int32} (hbe : ∀ s, s < ns → 0 ≤ (tr s).toInt ∧ (tr s).toInt ≤ 6) {a b sa Sa sb Sb : Nat} (ra : (RR d cs al ns)[a]? = some (sa, Sa)) (rb : (RR d cs al ns)[b]? = some (sb, Sb)) : decide (gapF d cs sl (RR d cs al ns) a b ≤ 20 * (tr sb - tr sa)) = mayF d cs tr sl (RR d cs al ns) a b := by
  have ma := RR_mem hA.1 ns sa Sa (List.mem_of_getElem? ra)
  have mb := RR_mem hA.1 ns sb Sb (List.mem_of_getElem? rb)
  have ea := rt0_of ra
  have eb := rt0_of rb
  have hl : (lS d (cs sb) Sb).toInt ≤ 90 := by have := rS_le mb.2.2.2.2.1; have := hc sb mb.1; omega
  have hcf := cf_gap (p := (sb, Sb)) (s := sa) (tr := tr) hd (hbe sa ma.1) (hbe sb mb.1) hsl hl
  unfold mayF gapF
  rw [ea, eb]
  show decide (wy1 d cs sa (sb, Sb) + sl + lS d (cs sb) Sb ≤ 20 * (tr sb - tr sa)) = (decide (b ≠ a) && cf1 d cs tr sl sa (sb, Sb))
  by_cases e : b = a
  · subst e
    rw [ra] at rb
    cases rb
    rw [show decide (b ≠ b) = false from decide_eq_false (fun q => q rfl), Bool.false_and]
    refine decide_eq_false (fun q => ?_)
    have hw : 0 ≤ (wy1 d cs sa (sa, Sa)).toInt ∧ (wy1 d cs sa (sa, Sa)).toInt ≤ 1000000 := hd _ _
    have hp := lS_pos (c := cs sa) hd (S := Sa)
    rw [Int32.sub_self, Int32.mul_zero, Int32.le_iff_toInt_le, i_add (by rw [i_add (by omega) (by omega)]; omega) (by rw [i_add (by omega) (by omega)]; omega), i_add (by omega) (by omega), i32_0] at q
    omega
  · rw [decide_eq_true e, Bool.true_and, hcf]
/-- bells rise along followers -/
theorem may_key (hA : AlOK d cs al ns) (hd : d01 d) (hc : ∀ s, s < ns → (cs s).2.toInt ≤ 90) (hsl : 0 ≤ sl.toInt ∧ sl.toInt ≤ 30) {tr : Nat → Int32} (hbe : ∀ s, s < ns → 0 ≤ (tr s).toInt ∧ (tr s).toInt ≤ 6) {a b : Nat} (ha : a < (RR d cs al ns).length) (hb : b < (RR d cs al ns).length) (h : mayF d cs tr sl (RR d cs al ns) a b = true) : (tr (rt0 (RR d cs al ns) a).1).toInt < (tr (rt0 (RR d cs al ns) b).1).toInt := by
  obtain ⟨sa, Sa, ea⟩ : ∃ x y, rt0 (RR d cs al ns) a = (x, y) := ⟨_, _, rfl⟩
  obtain ⟨sb, Sb, eb⟩ : ∃ x y, rt0 (RR d cs al ns) b = (x, y) := ⟨_, _, rfl⟩
  have ra := rt0_ex ha
  have rb := rt0_ex hb
  rw [ea] at ra
  rw [eb] at rb
  have ma := RR_mem hA.1 ns sa Sa (List.mem_of_getElem? ra)
  have mb := RR_mem hA.1 ns sb Sb (List.mem_of_getElem? rb)
  have hl : (lS d (cs sb) Sb).toInt ≤ 90 := by have := rS_le mb.2.2.2.2.1; have := hc sb mb.1; omega
  have hcf := may_gap hA hd hc hsl hbe ra rb
  rw [h] at hcf
  have q := of_decide_eq_true hcf
  unfold gapF at q
  rw [ea, eb] at q
  have hw : 0 ≤ (wy1 d cs sa (sb, Sb)).toInt ∧ (wy1 d cs sa (sb, Sb)).toInt ≤ 1000000 := hd _ _
  have hp := lS_pos (c := cs sb) hd (S := Sb)
  have h1 := hbe sa ma.1
  have h2 := hbe sb mb.1
  have e1 : (tr sb - tr sa).toInt = (tr sb).toInt - (tr sa).toInt := by
    rw [Int32.toInt_sub]; apply Int.bmod_eq_of_le <;> omega
  have e2 : (20 * (tr sb - tr sa)).toInt = 20 * ((tr sb).toInt - (tr sa).toInt) := by
    rw [Int32.toInt_mul, e1, show (20 : Int32).toInt = 20 from rfl]; apply Int.bmod_eq_of_le <;> omega
  have q2 : wy1 d cs sa (sb, Sb) + sl + lS d (cs sb) Sb ≤ 20 * (tr sb - tr sa) := q
  rw [Int32.le_iff_toInt_le, i_add (by rw [i_add (by omega) (by omega)]; omega) (by rw [i_add (by omega) (by omega)]; omega), i_add (by omega) (by omega), e2] at q2
  rw [ea, eb]
  show (tr sa).toInt < (tr sb).toInt
  omega
theorem may_dp (hA : AlOK d cs al ns) (hd : d01 d) (hc : ∀ s, s < ns → (cs s).2.toInt ≤ 90) (hsl : 0 ≤ sl.toInt ∧ sl.toInt ≤ 30) {tr : Nat → Int32} (hbe : ∀ s, s < ns → 0 ≤ (tr s).toInt ∧ (tr s).toInt ≤ 6) : ∃ dp, dpOK (nxG (mayF d cs tr sl (RR d cs al ns)) (RR d cs al ns).length) (RR d cs al ns).length dp ∧ ∀ r, r < (RR d cs al ns).length → dp r < (RR d cs al ns).length := by
  refine ⟨dpK (fun r => (tr (rt0 (RR d cs al ns) r).1).toInt.toNat) (RR d cs al ns).length, dpK_ok (fun a b ha hn => ?_), fun r hr => dpK_lt hr⟩
  obtain ⟨h1, h2, h3⟩ := nxG_some hn
  refine ⟨h1, ?_⟩
  have hk := may_key hA hd hc hsl hbe ha h1 h2
  have ra := rt0_ex ha
  have ma := RR_mem hA.1 ns (rt0 (RR d cs al ns) a).1 (rt0 (RR d cs al ns) a).2 (List.mem_of_getElem? ra)
  have := hbe _ ma.1
  show (tr (rt0 (RR d cs al ns) a).1).toInt.toNat < (tr (rt0 (RR d cs al ns) b).1).toInt.toNat
  omega
theorem l_fill2 (hA : AlOK d cs al ns) (hns : ns ≤ 4) (hd : d01 d) (hc : ∀ s, s < ns → (cs s).2.toInt ≤ 90) (hsl : 0 ≤ sl.toInt ∧ sl.toInt ≤ 30) (hah : allH d cs al ns = true) (ba : Nat) (hba : ba = 26 ∨ ba = 89) (I0 : Nat → Nat → Int32) (hF : FlC I0 ns d cs al sl) (hbe : ∀ s, s < ns → 0 ≤ (I0 ba s).toInt ∧ (I0 ba s).toInt ≤ 6) (I : Nat → Nat → Int32) (hfr : (∀ q i, ¬ (q = 69 ∧ i = 0) → q ≠ 70 → I q i = I0 q i)) (a : Nat) (ha : a < (RR d cs al ns).length) (k0 : ∀ (l4 : Option Value), aE z mX1_fillMatcher (rK 1) Q 59 [some (.ref 54), some (.ref ba), some (.int (nI a)), some (.int (nI (setB ((mayF d cs (fun s => I0 ba s) sl (RR d cs al ns)) a) (RR d cs al ns).length))), l4] [] (nn pl) (MM I sp pl) 0 0) : ∀ (n b : Nat), b + n = (RR d cs al ns).length → aE z mX1_fillMatcher (rK 1) Q 26 [some (.ref 54), some (.ref ba), some (.int (nI a)), some (.int (nI (setB ((mayF d cs (fun s => I0 ba s) sl (RR d cs al ns)) a) b))), some (.int (nI b))] [] (nn pl) (MM I sp pl) 0 0 := by
  have hsh : a_sh ba = (100, 4) := by rcases hba with rfl | rfl <;> rfl
  have hlt : ba < nn pl := by rcases hba with rfl | rfl <;> exact lt_nn (by decide)
  have h10 := hA.2.1
  have hFI : FlC I ns d cs al sl := FlC_fr hA hF (fun q i h => hfr q i (by omega) (by omega))
  have hbI : ∀ s, I ba s = I0 ba s := fun s => hfr ba s (by rcases hba with rfl | rfl <;> omega) (by rcases hba with rfl | rfl <;> omega)
  intro n
  induction n with
  | zero =>
    intro b hb
    have hb : b = (RR d cs al ns).length := by omega
    subst hb
    refine aE_iload dX1_fillMatcher_26 rfl ?_
    refine aE_aload_n dX1_fillMatcher_28 rfl rfl ?_
    refine aE_geti dX1_fillMatcher_29 fw_X1_37 (lt_nn (by decide)) rfl (by decide) rfl ?_
    refine aE_icmp_ge (tgt := 59) dX1_fillMatcher_32 (by decide) (fun h32 => ?_) (fun h32 => absurd (by rw [hFI.2.1]; exact Int32.le_refl _) h32)
    exact k0 _
  | succ n ih =>
    intro b hb
    have ih2 := ih (b + 1) (by omega)
    obtain ⟨sa, Sa, ra⟩ : ∃ s S, (RR d cs al ns)[a]? = some (s, S) := ⟨_, _, List.getElem?_eq_getElem ha⟩
    obtain ⟨sb, Sb, rb⟩ : ∃ s S, (RR d cs al ns)[b]? = some (s, S) := ⟨_, _, List.getElem?_eq_getElem (show b < (RR d cs al ns).length by omega)⟩
    have hm := may_gap hA hd hc hsl hbe ra rb
    refine aE_iload dX1_fillMatcher_26 rfl ?_
    refine aE_aload_n dX1_fillMatcher_28 rfl rfl ?_
    refine aE_geti dX1_fillMatcher_29 fw_X1_37 (lt_nn (by decide)) rfl (by decide) rfl ?_
    refine aE_icmp_ge (tgt := 59) dX1_fillMatcher_32 (by decide) (fun h32 => absurd h32 (by rw [hFI.2.1]; exact nI_ge (by omega) (by omega))) (fun h32 => ?_)
    refine aE_aload_n dX1_fillMatcher_35 rfl rfl ?_
    refine aE_aload_n dX1_fillMatcher_36 rfl rfl ?_
    refine aE_iload_n dX1_fillMatcher_37 rfl rfl ?_
    refine aE_iload dX1_fillMatcher_38 rfl ?_
    refine aE_cVi dX1_fillMatcher_40 lk_X1_139 mv_X1_canFollow (c_canFollow ba hba hA hns hFI.2.2.2.1 a b sa Sa sb Sb ra rb sl (hFI.2.2.2.2 hah a b ha (by omega))) rfl (lt_nn (by decide)) rfl rfl ⟨by decide, by decide⟩ (Nat.le_of_ble_eq_true rfl) ⟨rfl, rfl⟩ ⟨by decide, by decide⟩ ?_
    refine aE_top (x' := if (mayF d cs (fun s => I0 ba s) sl (RR d cs al ns)) a b then 1 else 0) (by rw [hbI, hbI, ← hm]) ?_
    refine aE_if_eq (tgt := 53) dX1_fillMatcher_43 (by decide) (fun h43 => ?_) (fun h43 => ?_)
    · skip
      have hmf : ¬ (mayF d cs (fun s => I0 ba s) sl (RR d cs al ns)) a b = true := fun q => by rw [q] at h43; exact absurd h43 (by decide)
      rw [show setB ((mayF d cs (fun s => I0 ba s) sl (RR d cs al ns)) a) (b + 1) = setB ((mayF d cs (fun s => I0 ba s) sl (RR d cs al ns)) a) b from if_neg hmf] at ih2
      refine aE_iinc dX1_fillMatcher_53 rfl (a_inc _) (by decide) rfl (aE_loc (ls' := [_, _, _, _, _]) rfl ?_)
      refine aE_goto (tgt := 26) dX1_fillMatcher_56 (by decide) ?_
      exact ih2
    · skip
      have hmf : (mayF d cs (fun s => I0 ba s) sl (RR d cs al ns)) a b = true := Classical.byContradiction fun q => h43 (by rw [if_neg q])
      refine aE_iload_n dX1_fillMatcher_46 rfl rfl ?_
      refine aE_iconst (v := 1) dX1_fillMatcher_47 rfl ?_
      refine aE_iload dX1_fillMatcher_48 rfl ?_
      refine aE_ishl dX1_fillMatcher_50 ?_
      refine aE_top (nb_1shl (by omega)) ?_
      refine aE_ior dX1_fillMatcher_51 ?_
      refine aE_top (setB_o1 hmf) ?_
      refine aE_istore_n dX1_fillMatcher_52 rfl (by decide) rfl (aE_loc (ls' := [_, _, _, _, _]) rfl ?_)
      refine aE_iinc dX1_fillMatcher_53 rfl (a_inc _) (by decide) rfl (aE_loc (ls' := [_, _, _, _, _]) rfl ?_)
      refine aE_goto (tgt := 26) dX1_fillMatcher_56 (by decide) ?_
      exact ih2
theorem l_fill1 (hA : AlOK d cs al ns) (hns : ns ≤ 4) (hd : d01 d) (hc : ∀ s, s < ns → (cs s).2.toInt ≤ 90) (hsl : 0 ≤ sl.toInt ∧ sl.toInt ≤ 30) (hah : allH d cs al ns = true) (ba : Nat) (hba : ba = 26 ∨ ba = 89) (I0 : Nat → Nat → Int32) (hF : FlC I0 ns d cs al sl) (hbe : ∀ s, s < ns → 0 ≤ (I0 ba s).toInt ∧ (I0 ba s).toInt ≤ 6) (hQ : ∀ J, (∀ q i, ¬ (q = 69 ∧ i = 0) → q ≠ 70 → J q i = I0 q i) → J 69 0 = nI (RR d cs al ns).length → (∀ a, a < (RR d cs al ns).length → J 70 a = nI (setB ((mayF d cs (fun s => I0 ba s) sl (RR d cs al ns)) a) (RR d cs al ns).length)) → Q none (nn pl) (MM J sp pl)) : ∀ (n a : Nat), a + n = (RR d cs al ns).length → ∀ (I : Nat → Nat → Int32) (l3 l4 : Option Value), (∀ q i, ¬ (q = 69 ∧ i = 0) → q ≠ 70 → I q i = I0 q i) → I 69 0 = nI (RR d cs al ns).length → (∀ a', a' < a → I 70 a' = nI (setB ((mayF d cs (fun s => I0 ba s) sl (RR d cs al ns)) a') (RR d cs al ns).length)) → aE z mX1_fillMatcher (rK 1) Q 13 [some (.ref 54), some (.ref ba), some (.int (nI a)), l3, l4] [] (nn pl) (MM I sp pl) 0 0 := by
  have hsh : a_sh ba = (100, 4) := by rcases hba with rfl | rfl <;> rfl
  have hlt : ba < nn pl := by rcases hba with rfl | rfl <;> exact lt_nn (by decide)
  have h10 := hA.2.1
  intro n
  induction n with
  | zero =>
    intro a ha I l3 l4 hfr hc1 hrow
    have ha : a = (RR d cs al ns).length := by omega
    subst ha
    refine aE_iload_n dX1_fillMatcher_13 rfl rfl ?_
    refine aE_aload_n dX1_fillMatcher_14 rfl rfl ?_
    refine aE_geti dX1_fillMatcher_15 fw_X1_37 (lt_nn (by decide)) rfl (by decide) rfl ?_
    refine aE_icmp_ge (tgt := 75) dX1_fillMatcher_18 (by decide) (fun h18 => ?_) (fun h18 => absurd (by rw [hfr 54 1 (by omega) (by omega), hF.2.1]; exact Int32.le_refl _) h18)
    refine aE_vret dX1_fillMatcher_75 rfl ⟨by decide, by decide⟩ ?_
    exact hQ I hfr hc1 hrow
  | succ n ih =>
    intro a ha I l3 l4 hfr hc1 hrow
    refine aE_iload_n dX1_fillMatcher_13 rfl rfl ?_
    refine aE_aload_n dX1_fillMatcher_14 rfl rfl ?_
    refine aE_geti dX1_fillMatcher_15 fw_X1_37 (lt_nn (by decide)) rfl (by decide) rfl ?_
    refine aE_icmp_ge (tgt := 75) dX1_fillMatcher_18 (by decide) (fun h18 => absurd h18 (by rw [hfr 54 1 (by omega) (by omega), hF.2.1]; exact nI_ge (by omega) (by omega))) (fun h18 => ?_)
    refine aE_iconst (v := 0) dX1_fillMatcher_21 rfl ?_
    refine aE_istore_n dX1_fillMatcher_22 rfl (by decide) rfl (aE_loc (ls' := [_, _, _, _, _]) rfl ?_)
    refine aE_iconst (v := 0) dX1_fillMatcher_23 rfl ?_
    refine aE_istore dX1_fillMatcher_24 (by decide) rfl (aE_loc (ls' := [_, _, _, _, _]) rfl ?_)
    refine l_fill2 hA hns hd hc hsl hah ba hba I0 hF hbe I hfr a (by omega) (fun l4 => ?_) (RR d cs al ns).length 0 (by omega)
    have ih2 := fun l3 l4 => ih (a + 1) (by omega) (iu I 70 a (nI (setB ((mayF d cs (fun s => I0 ba s) sl (RR d cs al ns)) a) (RR d cs al ns).length))) l3 l4 (fun q i h1 h2 => (iu_ne (by omega)).trans (hfr q i h1 h2)) ((iu_ne (by omega)).trans hc1) (fun a' ha' => by
      by_cases e : a' = a
      · subst e; exact iu_eq
      · exact (iu_ne (by omega)).trans (hrow a' (by omega)))
    refine aE_aload_n dX1_fillMatcher_59 rfl rfl ?_
    refine aE_getf (v := .ref 69) dX1_fillMatcher_60 fw_X1_29 (lt_nn (by decide)) rfl rfl ?_
    refine aE_getf (v := .ref 70) dX1_fillMatcher_63 fw_X1_132 (lt_nn (by decide)) rfl rfl ?_
    refine aE_iload_n dX1_fillMatcher_66 rfl rfl ?_
    refine aE_iload_n dX1_fillMatcher_67 rfl rfl ?_
    refine aE_istM dX1_fillMatcher_68 (lt_nn (by decide)) rfl (by decide) rfl (by omega) ?_
    refine aE_iinc dX1_fillMatcher_69 rfl (a_inc _) (by decide) rfl (aE_loc (ls' := [_, _, _, _, _]) rfl ?_)
    refine aE_goto (tgt := 13) dX1_fillMatcher_72 (by decide) ?_
    exact ih2 _ _
theorem c_fillMatcher (hA : AlOK d cs al ns) (hns : ns ≤ 4) (hd : d01 d) (hc : ∀ s, s < ns → (cs s).2.toInt ≤ 90) (hsl : 0 ≤ sl.toInt ∧ sl.toInt ≤ 30) (hah : allH d cs al ns = true) (ba : Nat) (hba : ba = 26 ∨ ba = 89) (hF : FlC I ns d cs al sl) (hbe : ∀ s, s < ns → 0 ≤ (I ba s).toInt ∧ (I ba s).toInt ≤ 6) (hQ : ∀ J, (∀ q i, ¬ (q = 69 ∧ i = 0) → q ≠ 70 → J q i = I q i) → J 69 0 = nI (RR d cs al ns).length → (∀ a, a < (RR d cs al ns).length → J 70 a = nI (setB ((mayF d cs (fun s => I ba s) sl (RR d cs al ns)) a) (RR d cs al ns).length)) → Q none (nn pl) (MM J sp pl)) : aRuns mX1_fillMatcher (rK 1) [.ref 54, .ref ba] (nn pl) (MM I sp pl) Q := by
  have hsh : a_sh ba = (100, 4) := by rcases hba with rfl | rfl <;> rfl
  have hlt : ba < nn pl := by rcases hba with rfl | rfl <;> exact lt_nn (by decide)
  have h10 := hA.2.1
  refine aRuns_of pn_X1_fillMatcher (Nat.le_of_ble_eq_true rfl) (fun z => aE_loc (ls' := [_, _, _, _, _]) rfl ?_)
  refine aE_aload_n dX1_fillMatcher_0 rfl rfl ?_
  refine aE_getf (v := .ref 69) dX1_fillMatcher_1 fw_X1_29 (lt_nn (by decide)) rfl rfl ?_
  refine aE_aload_n dX1_fillMatcher_4 rfl rfl ?_
  refine aE_geti dX1_fillMatcher_5 fw_X1_37 (lt_nn (by decide)) rfl (by decide) rfl ?_
  refine aE_top hF.2.1 ?_
  refine aE_puti dX1_fillMatcher_8 fp_X1_138 (Or.inl rfl) (lt_nn (by decide)) rfl (fun _ => ⟨rfl, rfl⟩) (by decide) rfl ?_
  refine aE_iconst (v := 0) dX1_fillMatcher_11 rfl ?_
  refine aE_istore_n dX1_fillMatcher_12 rfl (by decide) rfl (aE_loc (ls' := [_, _, _, _, _]) rfl ?_)
  exact l_fill1 hA hns hd hc hsl hah ba hba I hF hbe hQ (RR d cs al ns).length 0 (by omega) _ _ _ (fun q i h1 h2 => iu_ne (by omega)) iu_eq (fun a' h => absurd h (by omega))
theorem c_fewestBuses (hA : AlOK d cs al ns) (hns : ns ≤ 4) (hd : d01 d) (hc : ∀ s, s < ns → (cs s).2.toInt ≤ 90) (hsl : 0 ≤ sl.toInt ∧ sl.toInt ≤ 30) (hah : allH d cs al ns = true) (ba : Nat) (hba : ba = 26 ∨ ba = 89) (hF : FlC I ns d cs al sl) (hbe : ∀ s, s < ns → 0 ≤ (I ba s).toInt ∧ (I ba s).toInt ≤ 6) (hQ : ∀ J, (∀ q i, ¬ (69 ≤ q ∧ q ≤ 74) → J q i = I q i) → qi Q (nI ((RR d cs al ns).length - mxF (mayF d cs (fun s => I ba s) sl (RR d cs al ns)) (RR d cs al ns).length (RR d cs al ns).length 0)) J sp pl) : aRuns mX1_fewestBuses (rK 3) [.ref 54, .ref ba] (nn pl) (MM I sp pl) Q := by
  have hsh : a_sh ba = (100, 4) := by rcases hba with rfl | rfl <;> rfl
  have hlt : ba < nn pl := by rcases hba with rfl | rfl <;> exact lt_nn (by decide)
  have h10 := hA.2.1
  refine aRuns_of pn_X1_fewestBuses (Nat.le_of_ble_eq_true rfl) (fun z => aE_loc (ls' := [_, _]) rfl ?_)
  refine aE_aload_n dX1_fewestBuses_0 rfl rfl ?_
  refine aE_aload_n dX1_fewestBuses_1 rfl rfl ?_
  refine aE_cVq dX1_fewestBuses_2 lk_X1_125 mv_X1_fillMatcher (c_fillMatcher (Q := (fun (r : Option Value) (n' : Nat) (m' : aM) => r = none ∧ n' = nn pl ∧ ∃ J, m' = MM J sp pl ∧ (∀ q i, ¬ (q = 69 ∧ i = 0) → q ≠ 70 → J q i = I q i) ∧ J 69 0 = nI (RR d cs al ns).length ∧ (∀ a, a < (RR d cs al ns).length → J 70 a = nI (setB ((mayF d cs (fun s => I ba s) sl (RR d cs al ns)) a) (RR d cs al ns).length)))) hA hns hd hc hsl hah ba hba hF hbe (fun J a b c => ⟨rfl, rfl, J, rfl, a, b, c⟩)) rfl (lt_nn (by decide)) rfl rfl ⟨by decide, by decide⟩ (Nat.le_of_ble_eq_true rfl) ⟨rfl, rfl⟩ ⟨by decide, by decide⟩ ?_
  rintro r n' m' ⟨rfl, rfl, J, rfl, j1, j2, j3⟩
  have hJc : J 54 1 = nI (RR d cs al ns).length := (j1 54 1 (by omega) (by omega)).trans hF.2.1
  refine aE_aload_n dX1_fewestBuses_5 rfl rfl ?_
  refine aE_geti dX1_fewestBuses_6 fw_X1_37 (lt_nn (by decide)) rfl (by decide) rfl ?_
  refine aE_top hJc ?_
  refine aE_aload_n dX1_fewestBuses_9 rfl rfl ?_
  refine aE_getf (v := .ref 69) dX1_fewestBuses_10 fw_X1_29 (lt_nn (by decide)) rfl rfl ?_
  refine aE_iconst (v := 0) dX1_fewestBuses_13 rfl ?_
  refine aE_iconst (v := 1) dX1_fewestBuses_14 rfl ?_
  refine aE_aload_n dX1_fewestBuses_15 rfl rfl ?_
  refine aE_geti dX1_fewestBuses_16 fw_X1_37 (lt_nn (by decide)) rfl (by decide) rfl ?_
  refine aE_top hJc ?_
  refine aE_ishl dX1_fewestBuses_19 ?_
  refine aE_top (nb_1shl (by omega)) ?_
  refine aE_iconst (v := 1) dX1_fewestBuses_20 rfl ?_
  refine aE_isub dX1_fewestBuses_21 ?_
  refine aE_top (x' := nI (setB (fun b => !(0 : Nat).testBit b) (RR d cs al ns).length)) (by rw [setB_full]; have := Nat.two_pow_pos (RR d cs al ns).length; obtain ⟨u, hu⟩ : ∃ u, 2 ^ (RR d cs al ns).length = u + 1 := ⟨2 ^ (RR d cs al ns).length - 1, by omega⟩; rw [hu, nI_pred]; rfl) ?_
  refine aE_cVq dX1_fewestBuses_22 lk_X1_129 mv_X3_most (c_most (Q := (fun (r : Option Value) (n' : Nat) (m' : aM) => n' = nn pl ∧ ∃ K, m' = MM K sp pl ∧ r = some (.int (nI (mxF (mayF d cs (fun s => I ba s) sl (RR d cs al ns)) (RR d cs al ns).length ((RR d cs al ns).length - 0) 0))) ∧ FrK J K)) (mayF d cs (fun s => I ba s) sl (RR d cs al ns)) (RR d cs al ns).length 0 0 h10 (Nat.zero_le _) j2 j3 (fun K hK => ⟨rfl, K, rfl, rfl, hK⟩)) rfl (lt_nn (by decide)) rfl rfl ⟨by decide, by decide⟩ (Nat.le_of_ble_eq_true rfl) ⟨rfl, rfl⟩ ⟨by decide, by decide⟩ ?_
  rintro r n' m' ⟨rfl, K, rfl, rfl, k1⟩
  refine aE_isub dX1_fewestBuses_25 ?_
  refine aE_iret dX1_fewestBuses_26 rfl ⟨by decide, by decide⟩ ?_
  have hle := mxF_le (mayF d cs (fun s => I ba s) sl (RR d cs al ns)) (RR d cs al ns).length (RR d cs al ns).length 0
  rw [Nat.sub_zero]
  have he : nI (RR d cs al ns).length - nI (mxF (mayF d cs (fun s => I ba s) sl (RR d cs al ns)) (RR d cs al ns).length (RR d cs al ns).length 0) = nI ((RR d cs al ns).length - mxF (mayF d cs (fun s => I ba s) sl (RR d cs al ns)) (RR d cs al ns).length (RR d cs al ns).length 0) := by
    rw [show nI (RR d cs al ns).length = nI ((RR d cs al ns).length - mxF (mayF d cs (fun s => I ba s) sl (RR d cs al ns)) (RR d cs al ns).length (RR d cs al ns).length 0) + nI (mxF (mayF d cs (fun s => I ba s) sl (RR d cs al ns)) (RR d cs al ns).length (RR d cs al ns).length 0) by rw [nI_add, Nat.sub_add_cancel hle], Int32.add_sub_cancel]
  rw [he]
  exact hQ K (fun q i h => (k1 q i (by omega)).trans (j1 q i (by omega) (by omega)))
theorem l_link2 (f : Nat → Nat → Bool) (n : Nat) (h10 : n ≤ 10) (ba : Nat) (hba : ba = 26 ∨ ba = 89) (I0 : Nat → Nat → Int32) (hn : I0 54 1 = nI n) (hn2 : I0 69 0 = nI n) (hmay : ∀ a, a < n → I0 70 a = nI (setB (f a) n)) (a : Nat) (ha : a < n) (Ia : Nat → Nat → Int32) (k0 : ∀ (J : Nat → Nat → Int32) (l5 l6 : Option Value), (∀ q i, q ≠ 56 → ¬ (71 ≤ q ∧ q ≤ 74) → J q i = I0 q i) → (∀ i, i ≠ a → J 56 i = Ia 56 i) → J 56 a = rv (nxG f n a) → aE z mX1_link (rK 3) Q 136 [some (.ref 54), some (.ref ba), some (.int (nI (setB (fun c => !(tkG f n (a + 1)).testBit c) n))), some (.int (nI (mxF f n (n - (a + 1)) (tkG f n (a + 1))))), some (.int (nI a)), l5, l6] [] (nn pl) (MM J sp pl) 0 0) : ∀ (e b : Nat), b + e = n → nxG f n a = fstB (pG f n a (tkG f n a)) n e → ∀ (I : Nat → Nat → Int32) (l6 : Option Value), (∀ q i, q ≠ 56 → ¬ (71 ≤ q ∧ q ≤ 74) → I q i = I0 q i) → (∀ i, i ≠ a → I 56 i = Ia 56 i) → I 56 a = -1 → aE z mX1_link (rK 3) Q 47 [some (.ref 54), some (.ref ba), some (.int (nI (setB (fun c => !(tkG f n a).testBit c) n))), some (.int (nI (mxF f n (n - a) (tkG f n a)))), some (.int (nI a)), some (.int (nI b)), l6] [] (nn pl) (MM I sp pl) 0 0 := by
  have hsh : a_sh ba = (100, 4) := by rcases hba with rfl | rfl <;> rfl
  have hlt : ba < nn pl := by rcases hba with rfl | rfl <;> exact lt_nn (by decide)
  have hp := pow10' h10
  have htk : tkG f n (a + 1) = match nxG f n a with | none => tkG f n a | some b => tkG f n a ||| 2 ^ b := rfl
  intro e
  induction e with
  | zero =>
    intro b hb hnx I l6 hfr h56 h56a
    have hno : nxG f n a = none := hnx
    have hm := mxF_no ha hno
    rw [hno] at htk
    have htk : tkG f n (a + 1) = tkG f n a := htk
    rw [htk, hno, ← hm] at k0
    refine aE_iload dX1_link_47 rfl ?_
    refine aE_aload_n dX1_link_49 rfl rfl ?_
    refine aE_geti dX1_link_50 fw_X1_37 (lt_nn (by decide)) rfl (by decide) rfl ?_
    refine aE_icmp_ge (tgt := 136) dX1_link_53 (by decide) (fun h53 => ?_) (fun h53 => absurd (by rw [hfr 54 1 (by omega) (by omega), hn, show b = n by omega]; exact Int32.le_refl _) h53)
    exact k0 I _ _ hfr h56 h56a
  | succ e ih =>
    intro b hb hnx I l6 hfr h56 h56a
    have hbn : b < n := by omega
    have hpb := Nat.pow_lt_pow_right (a := 2) (by decide) hbn
    have hpos := Nat.two_pow_pos b
    rw [show fstB (pG f n a (tkG f n a)) n (e + 1) = if pG f n a (tkG f n a) (n - (e + 1)) then some (n - (e + 1)) else fstB (pG f n a (tkG f n a)) n e from rfl, show n - (e + 1) = b by omega] at hnx
    have hmb : (setB (f a) n).testBit b = f a b := by rw [setB_tb]; simp [hbn]
    have hFb : (setB (fun c => !(tkG f n a).testBit c) n).testBit b = !(tkG f n a).testBit b := by rw [setB_tb]; simp [hbn]
    have hz : (setB (f a) n &&& setB (fun c => !(tkG f n a).testBit c) n) &&& 2 ^ b = if (f a b && !(tkG f n a).testBit b) then 2 ^ b else 0 := by rw [and_pw, Nat.testBit_and, hmb, hFb]
    have nx : pG f n a (tkG f n a) b ≠ true → ∀ J l6, (∀ q i, q ≠ 56 → ¬ (71 ≤ q ∧ q ≤ 74) → J q i = I0 q i) → (∀ i, i ≠ a → J 56 i = Ia 56 i) → J 56 a = -1 → aE z mX1_link (rK 3) Q 130 [some (.ref 54), some (.ref ba), some (.int (nI (setB (fun c => !(tkG f n a).testBit c) n))), some (.int (nI (mxF f n (n - a) (tkG f n a)))), some (.int (nI a)), some (.int (nI b)), l6] [] (nn pl) (MM J sp pl) 0 0 := by
      intro hng J l6 j1 j2 j3
      rw [if_neg hng] at hnx
      have ih2 := ih (b + 1) (by omega) hnx J
      refine aE_iinc dX1_link_130 rfl (a_inc _) (by decide) rfl (aE_loc (ls' := [_, _, _, _, _, _, _]) rfl ?_)
      refine aE_goto (tgt := 47) dX1_link_133 (by decide) ?_
      exact ih2 _ j1 j2 j3
    have H1 : (0 : Int32) ≤ -1 → False := by decide
    by_cases hq : (f a b && !(tkG f n a).testBit b) = true
    · rw [if_pos hq] at hz
      have hq1 : f a b = true := by rw [Bool.and_eq_true] at hq; exact hq.1
      have hq2 : (tkG f n a).testBit b = false := by rw [Bool.and_eq_true, Bool.not_eq_true'] at hq; exact hq.2
      have hge := mxF_ge (f := f) ha hbn hq1 hq2
      have hle := mxF_le f n (n - a) (tkG f n a)
      have hpg : pG f n a (tkG f n a) b = decide (mxF f n (n - a) (tkG f n a) ≤ 1 + mxF f n (n - (a + 1)) (tkG f n a ||| 2 ^ b)) := by
        show ((f a b && !(tkG f n a).testBit b) && decide _) = _
        rw [hq, Bool.true_and]
      have hdue : nI (mxF f n (n - a) (tkG f n a)) - 1 = nI (mxF f n (n - a) (tkG f n a) - 1) := by
        obtain ⟨u, hu⟩ : ∃ u, mxF f n (n - a) (tkG f n a) = u + 1 := ⟨mxF f n (n - a) (tkG f n a) - 1, by omega⟩
        rw [hu, nI_pred]; rfl
      refine aE_iload dX1_link_47 rfl ?_
      refine aE_aload_n dX1_link_49 rfl rfl ?_
      refine aE_geti dX1_link_50 fw_X1_37 (lt_nn (by decide)) rfl (by decide) rfl ?_
      refine aE_icmp_ge (tgt := 136) dX1_link_53 (by decide) (fun h53 => absurd h53 (by rw [hfr 54 1 (by omega) (by omega), hn]; exact nI_ge (by omega) (by omega))) (fun h53 => ?_)
      refine aE_aload_n dX1_link_56 rfl rfl ?_
      refine aE_getf (v := .ref 56) dX1_link_57 fw_X1_15 (lt_nn (by decide)) rfl rfl ?_
      refine aE_iload dX1_link_60 rfl ?_
      refine aE_ildM dX1_link_62 (lt_nn (by decide)) rfl (by decide) rfl (show a < 10 by omega) ?_
      refine aE_top h56a ?_
      refine aE_if_ge (tgt := 136) dX1_link_63 (by decide) (fun h63 => absurd h63 (by decide)) (fun h63 => ?_)
      refine aE_iload_n dX1_link_66 rfl rfl ?_
      refine aE_iconst (v := 1) dX1_link_67 rfl ?_
      refine aE_iload dX1_link_68 rfl ?_
      refine aE_ishl dX1_link_70 ?_
      refine aE_top (nb_1shl (by omega)) ?_
      refine aE_iconst (v := -1) dX1_link_71 rfl ?_
      refine aE_ixor dX1_link_72 ?_
      refine aE_iand dX1_link_73 ?_
      refine aE_top ((nb_andn _ _).trans (congrArg nI (setB_rm _ _ _))) ?_
      refine aE_istore dX1_link_74 (by decide) rfl (aE_loc (ls' := [_, _, _, _, _, _, _]) rfl ?_)
      refine aE_aload_n dX1_link_76 rfl rfl ?_
      refine aE_getf (v := .ref 69) dX1_link_77 fw_X1_29 (lt_nn (by decide)) rfl rfl ?_
      refine aE_getf (v := .ref 70) dX1_link_80 fw_X1_132 (lt_nn (by decide)) rfl rfl ?_
      refine aE_iload dX1_link_83 rfl ?_
      refine aE_ildM dX1_link_85 (lt_nn (by decide)) rfl (by decide) rfl (by omega) ?_
      refine aE_top ((hfr 70 a (by omega) (by omega)).trans (hmay a ha)) ?_
      refine aE_iload_n dX1_link_86 rfl rfl ?_
      refine aE_iand dX1_link_87 ?_
      refine aE_top (nb_and _ _) ?_
      refine aE_iconst (v := 1) dX1_link_88 rfl ?_
      refine aE_iload dX1_link_89 rfl ?_
      refine aE_ishl dX1_link_91 ?_
      refine aE_top (nb_1shl (by omega)) ?_
      refine aE_iand dX1_link_92 ?_
      refine aE_top ((nb_and _ _).trans (congrArg nI hz)) ?_
      refine aE_if_eq (tgt := 130) dX1_link_93 (by decide) (fun h93 => absurd h93 (fun w => absurd ((nI_eq (b := 0) (by omega) (by omega)).mp w) (by omega))) (fun h93 => ?_)
      refine aE_aload_n dX1_link_96 rfl rfl ?_
      refine aE_getf (v := .ref 69) dX1_link_97 fw_X1_29 (lt_nn (by decide)) rfl rfl ?_
      refine aE_iload dX1_link_100 rfl ?_
      refine aE_iconst (v := 1) dX1_link_102 rfl ?_
      refine aE_iadd dX1_link_103 ?_
      refine aE_top (nI_1 _) ?_
      refine aE_iload dX1_link_104 rfl ?_
      refine aE_cVq dX1_link_106 lk_X1_129 mv_X3_most (c_most (Q := (fun (r : Option Value) (n' : Nat) (m' : aM) => n' = nn pl ∧ ∃ K, m' = MM K sp pl ∧ r = some (.int (nI (mxF f n (n - (a + 1)) (tkG f n a ||| 2 ^ b)))) ∧ FrK I K)) f n (a + 1) (tkG f n a ||| 2 ^ b) h10 (by omega) ((hfr 69 0 (by omega) (by omega)).trans hn2) (fun x hx => (hfr 70 x (by omega) (by omega)).trans (hmay x hx)) (fun K hK => ⟨rfl, K, rfl, rfl, hK⟩)) rfl (lt_nn (by decide)) rfl rfl ⟨by decide, by decide⟩ (Nat.le_of_ble_eq_true rfl) ⟨rfl, rfl⟩ ⟨by decide, by decide⟩ ?_
      rintro r n' m' ⟨rfl, K, rfl, rfl, k1⟩
      have kf : ∀ q i, q ≠ 56 → ¬ (71 ≤ q ∧ q ≤ 74) → K q i = I0 q i := fun q i h1 h2 => (k1 q i h2).trans (hfr q i h1 h2)
      have k56 : ∀ i, i ≠ a → K 56 i = Ia 56 i := fun i hi => (k1 56 i (by omega)).trans (h56 i hi)
      have k56a : K 56 a = -1 := (k1 56 a (by omega)).trans h56a
      refine aE_iload_n dX1_link_109 rfl rfl ?_
      refine aE_iconst (v := 1) dX1_link_110 rfl ?_
      refine aE_isub dX1_link_111 ?_
      refine aE_top hdue ?_
      refine aE_icmp_ne (tgt := 130) dX1_link_112 (by decide) (fun h112 => ?_) (fun h112 => ?_)
      · skip
        refine nx (fun w => ?_) K _ kf k56 k56a
        rw [hpg] at w
        exact h112 (congrArg nI (by have := of_decide_eq_true w; omega))
      · skip
        have hmm : mxF f n (n - (a + 1)) (tkG f n a ||| 2 ^ b) = mxF f n (n - a) (tkG f n a) - 1 := (nI_eq (by omega) (by omega)).mp (by first | exact h112 | exact Classical.not_not.mp h112)
        have hpt : pG f n a (tkG f n a) b = true := by rw [hpg]; exact decide_eq_true (by omega)
        rw [if_pos hpt] at hnx
        rw [hnx] at htk
        have htk : tkG f n (a + 1) = tkG f n a ||| 2 ^ b := htk
        rw [htk, hnx, hmm] at k0
        refine aE_aload_n dX1_link_115 rfl rfl ?_
        refine aE_getf (v := .ref 56) dX1_link_116 fw_X1_15 (lt_nn (by decide)) rfl rfl ?_
        refine aE_iload dX1_link_119 rfl ?_
        refine aE_iload dX1_link_121 rfl ?_
        refine aE_istM dX1_link_123 (lt_nn (by decide)) rfl (by decide) rfl (show a < 10 by omega) ?_
        refine aE_iload dX1_link_124 rfl ?_
        refine aE_istore_n dX1_link_126 rfl (by decide) rfl (aE_loc (ls' := [_, _, _, _, _, _, _]) rfl ?_)
        refine aE_iinc dX1_link_127 rfl (a_dec _) (by decide) rfl (aE_loc (ls' := [_, _, _, _, _, _, _]) rfl ?_)
        rw [hdue]
        have fin := k0 (iu K 56 a (nI b))
        refine aE_iinc dX1_link_130 rfl (a_inc _) (by decide) rfl (aE_loc (ls' := [_, _, _, _, _, _, _]) rfl ?_)
        refine aE_goto (tgt := 47) dX1_link_133 (by decide) ?_
        by_cases hl : b + 1 < n
        · skip
          refine aE_iload dX1_link_47 rfl ?_
          refine aE_aload_n dX1_link_49 rfl rfl ?_
          refine aE_geti dX1_link_50 fw_X1_37 (lt_nn (by decide)) rfl (by decide) rfl ?_
          refine aE_icmp_ge (tgt := 136) dX1_link_53 (by decide) (fun h53 => absurd h53 (by rw [iu_ne (by omega), kf 54 1 (by omega) (by omega), hn]; exact nI_ge (by omega) (by omega))) (fun h53 => ?_)
          refine aE_aload_n dX1_link_56 rfl rfl ?_
          refine aE_getf (v := .ref 56) dX1_link_57 fw_X1_15 (lt_nn (by decide)) rfl rfl ?_
          refine aE_iload dX1_link_60 rfl ?_
          refine aE_ildM dX1_link_62 (lt_nn (by decide)) rfl (by decide) rfl (show a < 10 by omega) ?_
          refine aE_top iu_eq ?_
          refine aE_if_ge (tgt := 136) dX1_link_63 (by decide) (fun h63 => ?_) (fun h63 => absurd (nI_pos' (by omega)) h63)
          exact fin _ _ (fun q i h1 h2 => (iu_ne (by omega)).trans (kf q i h1 h2)) (fun i hi => (iu_ne (by omega)).trans (k56 i hi)) iu_eq
        · skip
          refine aE_iload dX1_link_47 rfl ?_
          refine aE_aload_n dX1_link_49 rfl rfl ?_
          refine aE_geti dX1_link_50 fw_X1_37 (lt_nn (by decide)) rfl (by decide) rfl ?_
          refine aE_icmp_ge (tgt := 136) dX1_link_53 (by decide) (fun h53 => ?_) (fun h53 => absurd (by rw [iu_ne (by omega), kf 54 1 (by omega) (by omega), hn, show b + 1 = n by omega]; exact Int32.le_refl _) h53)
          exact fin _ _ (fun q i h1 h2 => (iu_ne (by omega)).trans (kf q i h1 h2)) (fun i hi => (iu_ne (by omega)).trans (k56 i hi)) iu_eq
    · rw [if_neg hq] at hz
      have hng : pG f n a (tkG f n a) b ≠ true := fun w => hq (by
        have w2 : ((f a b && !(tkG f n a).testBit b) && decide _) = true := w
        rw [Bool.and_eq_true] at w2; exact w2.1)
      refine aE_iload dX1_link_47 rfl ?_
      refine aE_aload_n dX1_link_49 rfl rfl ?_
      refine aE_geti dX1_link_50 fw_X1_37 (lt_nn (by decide)) rfl (by decide) rfl ?_
      refine aE_icmp_ge (tgt := 136) dX1_link_53 (by decide) (fun h53 => absurd h53 (by rw [hfr 54 1 (by omega) (by omega), hn]; exact nI_ge (by omega) (by omega))) (fun h53 => ?_)
      refine aE_aload_n dX1_link_56 rfl rfl ?_
      refine aE_getf (v := .ref 56) dX1_link_57 fw_X1_15 (lt_nn (by decide)) rfl rfl ?_
      refine aE_iload dX1_link_60 rfl ?_
      refine aE_ildM dX1_link_62 (lt_nn (by decide)) rfl (by decide) rfl (show a < 10 by omega) ?_
      refine aE_top h56a ?_
      refine aE_if_ge (tgt := 136) dX1_link_63 (by decide) (fun h63 => absurd h63 (by decide)) (fun h63 => ?_)
      refine aE_iload_n dX1_link_66 rfl rfl ?_
      refine aE_iconst (v := 1) dX1_link_67 rfl ?_
      refine aE_iload dX1_link_68 rfl ?_
      refine aE_ishl dX1_link_70 ?_
      refine aE_top (nb_1shl (by omega)) ?_
      refine aE_iconst (v := -1) dX1_link_71 rfl ?_
      refine aE_ixor dX1_link_72 ?_
      refine aE_iand dX1_link_73 ?_
      refine aE_top ((nb_andn _ _).trans (congrArg nI (setB_rm _ _ _))) ?_
      refine aE_istore dX1_link_74 (by decide) rfl (aE_loc (ls' := [_, _, _, _, _, _, _]) rfl ?_)
      refine aE_aload_n dX1_link_76 rfl rfl ?_
      refine aE_getf (v := .ref 69) dX1_link_77 fw_X1_29 (lt_nn (by decide)) rfl rfl ?_
      refine aE_getf (v := .ref 70) dX1_link_80 fw_X1_132 (lt_nn (by decide)) rfl rfl ?_
      refine aE_iload dX1_link_83 rfl ?_
      refine aE_ildM dX1_link_85 (lt_nn (by decide)) rfl (by decide) rfl (by omega) ?_
      refine aE_top ((hfr 70 a (by omega) (by omega)).trans (hmay a ha)) ?_
      refine aE_iload_n dX1_link_86 rfl rfl ?_
      refine aE_iand dX1_link_87 ?_
      refine aE_top (nb_and _ _) ?_
      refine aE_iconst (v := 1) dX1_link_88 rfl ?_
      refine aE_iload dX1_link_89 rfl ?_
      refine aE_ishl dX1_link_91 ?_
      refine aE_top (nb_1shl (by omega)) ?_
      refine aE_iand dX1_link_92 ?_
      refine aE_top ((nb_and _ _).trans (congrArg nI hz)) ?_
      refine aE_if_eq (tgt := 130) dX1_link_93 (by decide) (fun h93 => ?_) (fun h93 => absurd (rfl) h93)
      exact nx hng I _ hfr h56 h56a
theorem l_link1 (f : Nat → Nat → Bool) (n : Nat) (h10 : n ≤ 10) (ba : Nat) (hba : ba = 26 ∨ ba = 89) (I0 : Nat → Nat → Int32) (hn : I0 54 1 = nI n) (hn2 : I0 69 0 = nI n) (hmay : ∀ a, a < n → I0 70 a = nI (setB (f a) n)) (hQ : ∀ J, (∀ q i, q ≠ 56 → ¬ (71 ≤ q ∧ q ≤ 74) → ¬ (q = 54 ∧ i = 8) → J q i = I0 q i) → (∀ a, a < n → J 56 a = rv (nxG f n a)) → J 54 8 = nI (tkG f n n) → Q none (nn pl) (MM J sp pl)) : ∀ (e a : Nat), a + e = n → ∀ (I : Nat → Nat → Int32) (l5 l6 : Option Value), (∀ q i, q ≠ 56 → ¬ (71 ≤ q ∧ q ≤ 74) → I q i = I0 q i) → (∀ a', a' < a → I 56 a' = rv (nxG f n a')) → aE z mX1_link (rK 3) Q 27 [some (.ref 54), some (.ref ba), some (.int (nI (setB (fun c => !(tkG f n a).testBit c) n))), some (.int (nI (mxF f n (n - a) (tkG f n a)))), some (.int (nI a)), l5, l6] [] (nn pl) (MM I sp pl) 0 0 := by
  have hsh : a_sh ba = (100, 4) := by rcases hba with rfl | rfl <;> rfl
  have hlt : ba < nn pl := by rcases hba with rfl | rfl <;> exact lt_nn (by decide)
  have hp := pow10' h10
  intro e
  induction e with
  | zero =>
    intro a ha I l5 l6 hfr hrow
    have ha : a = n := by omega
    subst ha
    have hled := setB_led (tkG_lt f a a)
    refine aE_iload dX1_link_27 rfl ?_
    refine aE_aload_n dX1_link_29 rfl rfl ?_
    refine aE_geti dX1_link_30 fw_X1_37 (lt_nn (by decide)) rfl (by decide) rfl ?_
    refine aE_icmp_ge (tgt := 142) dX1_link_33 (by decide) (fun h33 => ?_) (fun h33 => absurd (by rw [hfr 54 1 (by omega) (by omega), hn]; exact Int32.le_refl _) h33)
    refine aE_aload_n dX1_link_142 rfl rfl ?_
    refine aE_iconst (v := 1) dX1_link_143 rfl ?_
    refine aE_aload_n dX1_link_144 rfl rfl ?_
    refine aE_geti dX1_link_145 fw_X1_37 (lt_nn (by decide)) rfl (by decide) rfl ?_
    refine aE_top ((hfr 54 1 (by omega) (by omega)).trans hn) ?_
    refine aE_ishl dX1_link_148 ?_
    refine aE_top (nb_1shl (by omega)) ?_
    refine aE_iconst (v := 1) dX1_link_149 rfl ?_
    refine aE_isub dX1_link_150 ?_
    refine aE_top (x' := nI (2 ^ a - 1)) (by have := Nat.two_pow_pos a; obtain ⟨u, hu⟩ : ∃ u, 2 ^ a = u + 1 := ⟨2 ^ a - 1, by omega⟩; rw [hu, nI_pred]; rfl) ?_
    refine aE_iload_n dX1_link_151 rfl rfl ?_
    refine aE_iconst (v := -1) dX1_link_152 rfl ?_
    refine aE_ixor dX1_link_153 ?_
    refine aE_iand dX1_link_154 ?_
    refine aE_top ((nb_andn _ _).trans (congrArg nI hled)) ?_
    refine aE_puti dX1_link_155 fp_X1_135 (Or.inl rfl) (lt_nn (by decide)) rfl (fun _ => ⟨rfl, rfl⟩) (by decide) rfl ?_
    refine aE_vret dX1_link_158 rfl ⟨by decide, by decide⟩ ?_
    exact hQ _ (fun q i h1 h2 h3 => (iu_ne (by omega)).trans (hfr q i h1 h2)) (fun a' ha' => (iu_ne (by omega)).trans (hrow a' ha')) iu_eq
  | succ e ih =>
    intro a ha I l5 l6 hfr hrow
    refine aE_iload dX1_link_27 rfl ?_
    refine aE_aload_n dX1_link_29 rfl rfl ?_
    refine aE_geti dX1_link_30 fw_X1_37 (lt_nn (by decide)) rfl (by decide) rfl ?_
    refine aE_icmp_ge (tgt := 142) dX1_link_33 (by decide) (fun h33 => absurd h33 (by rw [hfr 54 1 (by omega) (by omega), hn]; exact nI_ge (by omega) (by omega))) (fun h33 => ?_)
    refine aE_aload_n dX1_link_36 rfl rfl ?_
    refine aE_getf (v := .ref 56) dX1_link_37 fw_X1_15 (lt_nn (by decide)) rfl rfl ?_
    refine aE_iload dX1_link_40 rfl ?_
    refine aE_iconst (v := -1) dX1_link_42 rfl ?_
    refine aE_istM dX1_link_43 (lt_nn (by decide)) rfl (by decide) rfl (show a < 10 by omega) ?_
    refine aE_iconst (v := 0) dX1_link_44 rfl ?_
    refine aE_istore dX1_link_45 (by decide) rfl (aE_loc (ls' := [_, _, _, _, _, _, _]) rfl ?_)
    refine l_link2 f n h10 ba hba I0 hn hn2 hmay a (by omega) I (fun J l5 l6 j1 j2 j3 => ?_) n 0 (by omega) rfl _ _ (fun q i h1 h2 => (iu_ne (by omega)).trans (hfr q i h1 h2)) (fun i hi => iu_ne (by omega)) iu_eq
    have ih2 := fun l5 l6 => ih (a + 1) (by omega) J l5 l6 j1 (fun a' ha' => by
      by_cases e : a' = a
      · subst e; exact j3
      · exact (j2 a' e).trans (hrow a' (by omega)))
    refine aE_iinc dX1_link_136 rfl (a_inc _) (by decide) rfl (aE_loc (ls' := [_, _, _, _, _, _, _]) rfl ?_)
    refine aE_goto (tgt := 27) dX1_link_139 (by decide) ?_
    exact ih2 _ _
theorem c_link (hA : AlOK d cs al ns) (hns : ns ≤ 4) (hd : d01 d) (hc : ∀ s, s < ns → (cs s).2.toInt ≤ 90) (hsl : 0 ≤ sl.toInt ∧ sl.toInt ≤ 30) (hah : allH d cs al ns = true) (ba : Nat) (hba : ba = 26 ∨ ba = 89) (hF : FlC I ns d cs al sl) (hbe : ∀ s, s < ns → 0 ≤ (I ba s).toInt ∧ (I ba s).toInt ≤ 6) (hQ : ∀ J, (∀ q i, q ≠ 56 → ¬ (69 ≤ q ∧ q ≤ 74) → ¬ (q = 54 ∧ i = 8) → J q i = I q i) → (∀ a, a < (RR d cs al ns).length → J 56 a = rv (nxG (mayF d cs (fun s => I ba s) sl (RR d cs al ns)) (RR d cs al ns).length a)) → J 54 8 = nI (tkG (mayF d cs (fun s => I ba s) sl (RR d cs al ns)) (RR d cs al ns).length (RR d cs al ns).length) → Q none (nn pl) (MM J sp pl)) : aRuns mX1_link (rK 3) [.ref 54, .ref ba] (nn pl) (MM I sp pl) Q := by
  have hsh : a_sh ba = (100, 4) := by rcases hba with rfl | rfl <;> rfl
  have hlt : ba < nn pl := by rcases hba with rfl | rfl <;> exact lt_nn (by decide)
  have h10 := hA.2.1
  refine aRuns_of pn_X1_link (Nat.le_of_ble_eq_true rfl) (fun z => aE_loc (ls' := [_, _, _, _, _, _, _]) rfl ?_)
  refine aE_aload_n dX1_link_0 rfl rfl ?_
  refine aE_aload_n dX1_link_1 rfl rfl ?_
  refine aE_cVq dX1_link_2 lk_X1_125 mv_X1_fillMatcher (c_fillMatcher (Q := (fun (r : Option Value) (n' : Nat) (m' : aM) => r = none ∧ n' = nn pl ∧ ∃ J, m' = MM J sp pl ∧ (∀ q i, ¬ (q = 69 ∧ i = 0) → q ≠ 70 → J q i = I q i) ∧ J 69 0 = nI (RR d cs al ns).length ∧ (∀ a, a < (RR d cs al ns).length → J 70 a = nI (setB ((mayF d cs (fun s => I ba s) sl (RR d cs al ns)) a) (RR d cs al ns).length)))) hA hns hd hc hsl hah ba hba hF hbe (fun J a b c => ⟨rfl, rfl, J, rfl, a, b, c⟩)) rfl (lt_nn (by decide)) rfl rfl ⟨by decide, by decide⟩ (Nat.le_of_ble_eq_true rfl) ⟨rfl, rfl⟩ ⟨by decide, by decide⟩ ?_
  rintro r n' m' ⟨rfl, rfl, J, rfl, j1, j2, j3⟩
  have hJc : J 54 1 = nI (RR d cs al ns).length := (j1 54 1 (by omega) (by omega)).trans hF.2.1
  refine aE_iconst (v := 1) dX1_link_5 rfl ?_
  refine aE_aload_n dX1_link_6 rfl rfl ?_
  refine aE_geti dX1_link_7 fw_X1_37 (lt_nn (by decide)) rfl (by decide) rfl ?_
  refine aE_top hJc ?_
  refine aE_ishl dX1_link_10 ?_
  refine aE_top (nb_1shl (by omega)) ?_
  refine aE_iconst (v := 1) dX1_link_11 rfl ?_
  refine aE_isub dX1_link_12 ?_
  refine aE_top (x' := nI (setB (fun b => !(0 : Nat).testBit b) (RR d cs al ns).length)) (by rw [setB_full]; have := Nat.two_pow_pos (RR d cs al ns).length; obtain ⟨u, hu⟩ : ∃ u, 2 ^ (RR d cs al ns).length = u + 1 := ⟨2 ^ (RR d cs al ns).length - 1, by omega⟩; rw [hu, nI_pred]; rfl) ?_
  refine aE_istore_n dX1_link_13 rfl (by decide) rfl (aE_loc (ls' := [_, _, _, _, _, _, _]) rfl ?_)
  refine aE_aload_n dX1_link_14 rfl rfl ?_
  refine aE_getf (v := .ref 69) dX1_link_15 fw_X1_29 (lt_nn (by decide)) rfl rfl ?_
  refine aE_iconst (v := 0) dX1_link_18 rfl ?_
  refine aE_iload_n dX1_link_19 rfl rfl ?_
  refine aE_cVq dX1_link_20 lk_X1_129 mv_X3_most (c_most (Q := (fun (r : Option Value) (n' : Nat) (m' : aM) => n' = nn pl ∧ ∃ K, m' = MM K sp pl ∧ r = some (.int (nI (mxF (mayF d cs (fun s => I ba s) sl (RR d cs al ns)) (RR d cs al ns).length ((RR d cs al ns).length - 0) 0))) ∧ FrK J K)) (mayF d cs (fun s => I ba s) sl (RR d cs al ns)) (RR d cs al ns).length 0 0 h10 (Nat.zero_le _) j2 j3 (fun K hK => ⟨rfl, K, rfl, rfl, hK⟩)) rfl (lt_nn (by decide)) rfl rfl ⟨by decide, by decide⟩ (Nat.le_of_ble_eq_true rfl) ⟨rfl, rfl⟩ ⟨by decide, by decide⟩ ?_
  rintro r n' m' ⟨rfl, K, rfl, rfl, k1⟩
  refine aE_istore_n dX1_link_23 rfl (by decide) rfl (aE_loc (ls' := [_, _, _, _, _, _, _]) rfl ?_)
  refine aE_iconst (v := 0) dX1_link_24 rfl ?_
  refine aE_istore dX1_link_25 (by decide) rfl (aE_loc (ls' := [_, _, _, _, _, _, _]) rfl ?_)
  exact l_link1 (mayF d cs (fun s => I ba s) sl (RR d cs al ns)) (RR d cs al ns).length h10 ba hba K ((k1 54 1 (by omega)).trans hJc) ((k1 69 0 (by omega)).trans j2) (fun a ha => (k1 70 a (by omega)).trans (j3 a ha)) (fun X x1 x2 x3 => hQ X (fun q i h1 h2 h3 => (x1 q i h1 (by omega) h3).trans ((k1 q i (by omega)).trans (j1 q i (by omega) (by omega)))) x2 x3) (RR d cs al ns).length 0 (by omega) K _ _ (fun _ _ _ _ => rfl) (fun a' h => absurd h (by omega))
end CLINK
