theorem mdD_fr' {I0 I : Nat → Nat → Int32} {d : pD} (h : mdD I0 d) (hq : ∀ q i, q < 132 → (q = 101 → i < 44 ∧ i ≠ 6 ∧ i ≠ 29 ∧ i ≠ 30) → I q i = I0 q i) : mdD I d :=
  ⟨mdH_fr h.1 (fun q i hh => hq q i (by omega) (by omega)), fun k hk => (hq 112 k (by omega) (by omega)).trans (h.2.1 k hk), (hq 101 7 (by omega) (by omega)).trans h.2.2⟩
theorem MS_fr {I J : Nat → Nat → Int32} {ns : Nat} {d : pD} {cs : Nat → pC} {al : Nat → Nat} (h : MS I ns d cs al) (hq : ∀ q i, q < 132 → (q = 101 → i < 44 ∧ i ≠ 6 ∧ i ≠ 29 ∧ i ≠ 30) → J q i = I q i) : MS J ns d cs al :=
  ⟨(hq 101 2 (by omega) (by omega)).trans h.1, h.2.1, mdD_fr' h.2.2.1 hq, fun s hs => ⟨(h.2.2.2.1 s hs).1, (hq 107 s (by omega) (by omega)).trans (h.2.2.2.1 s hs).2.1, by rw [hq 106 s (by omega) (by omega), hq 101 8 (by omega) (by omega)]; exact (h.2.2.2.1 s hs).2.2⟩, PlM_fr h.2.2.1.1.2.1 h.2.2.2.2.1 (fun q i hh => hq q i (by omega) (by omega)), h.2.2.2.2.2⟩
theorem ataI_MS {I : Nat → Nat → Int32} {ns : Nat} {d : pD} {cs : Nat → pC} {al : Nat → Nat} (h : MS I ns d cs al) : MS (ataI I 4) ns d cs al := MS_fr h (fun q i h1 _ => ataI_ne (by omega) 4)
/-- the bits b below n with p b -/
def setB (p : Nat → Bool) : Nat → Nat
  | 0 => 0
  | k + 1 => if p k then setB p k ||| 2 ^ k else setB p k
theorem setB_tb (p : Nat → Bool) : ∀ n i, (setB p n).testBit i = (decide (i < n) && p i)
  | 0, i => by simp [setB]
  | n + 1, i => by
    unfold setB
    split
    · rename_i h
      rw [Nat.testBit_or, setB_tb p n i, Nat.testBit_two_pow]
      by_cases hi : i = n
      · subst hi; simp [h]
      · by_cases h2 : i < n
        · simp [h2, Nat.lt_succ_of_lt h2, Ne.symm hi]
        · simp [h2, show ¬ i < n + 1 by omega, Ne.symm hi]
    · rename_i h
      rw [setB_tb p n i]
      by_cases hi : i = n
      · subst hi; simp [h]
      · by_cases h2 : i < n
        · simp [h2, Nat.lt_succ_of_lt h2]
        · simp [h2, show ¬ i < n + 1 by omega]
theorem setB_lt (p : Nat → Bool) : ∀ n, setB p n < 2 ^ n
  | 0 => by simp [setB]
  | n + 1 => by
    unfold setB
    have h := setB_lt p n
    have h2 : 2 ^ n < 2 ^ (n + 1) := Nat.pow_lt_pow_right (by decide) (by omega)
    split
    · exact Nat.or_lt_two_pow (by omega) h2
    · omega
theorem setB_o0 {p : Nat → Bool} {k : Nat} (h : ¬ p k = true) : nI (setB p k) ||| 0 = nI (setB p (k + 1)) := by
  have := nb_or (setB p k) 0
  rw [Nat.or_zero] at this
  rw [show setB p (k + 1) = setB p k from if_neg h]
  exact this
theorem setB_o1 {p : Nat → Bool} {k : Nat} (h : p k = true) : nI (setB p k) ||| nI (2 ^ k) = nI (setB p (k + 1)) := by
  rw [nb_or, show setB p (k + 1) = setB p k ||| 2 ^ k from if_pos h]
/-- the first stop of a route -/
def fs1 (d : pD) (c : pC) (S : Nat) : Nat := (nxt d c S none).getD 0
abbrev wy1 (d : pD) (cs : Nat → pC) (s : Nat) (p : Nat × Nat) : Int32 := d.2.2.1 (cs s).1 (d.2.1 (fs1 d (cs p.1) p.2))
abbrev st1 (d : pD) (cs : Nat → pC) (tr : Nat → Int32) (p : Nat × Nat) : Int32 := 60 + 20 * tr p.1 - lS d (cs p.1) p.2
/-- the route p can follow a route of school s -/
def cf1 (d : pD) (cs : Nat → pC) (tr : Nat → Int32) (sl : Int32) (s : Nat) (p : Nat × Nat) : Bool := decide (wy1 d cs s p < 1000000) && decide (60 + 20 * tr s + wy1 d cs s p + sl ≤ st1 d cs tr p)
abbrev rt0 (L : List (Nat × Nat)) (r : Nat) : Nat × Nat := L.getD r (0, 0)
theorem rt0_of {L : List (Nat × Nat)} {r : Nat} {p : Nat × Nat} (h : L[r]? = some p) : rt0 L r = p := by
  rw [rt0, List.getD_eq_getElem?_getD, h]; rfl
theorem rt0_ex {L : List (Nat × Nat)} {r : Nat} (h : r < L.length) : L[r]? = some (rt0 L r) := by
  rw [rt0, List.getD_eq_getElem?_getD, List.getElem?_eq_getElem h]; rfl
/-- b can follow a, another one -/
def mayF (d : pD) (cs : Nat → pC) (tr : Nat → Int32) (sl : Int32) (L : List (Nat × Nat)) (a b : Nat) : Bool := decide (b ≠ a) && cf1 d cs tr sl (rt0 L a).1 (rt0 L b)
/-- the first k rows of may are found -/
def mayI (I : Nat → Nat → Int32) (f : Nat → Nat → Bool) (n k : Nat) : Nat → Nat → Int32 := fun q i => if q = 133 ∧ i < k then nI (setB (f i) n) else I q i
theorem mayI_o {I : Nat → Nat → Int32} {f : Nat → Nat → Bool} {n k q i : Nat} (h : q ≠ 133) : mayI I f n k q i = I q i := by
  unfold mayI; rw [if_neg (fun w => h w.1)]
theorem mayI_at {I : Nat → Nat → Int32} {f : Nat → Nat → Bool} {n k i : Nat} (h : i < k) : mayI I f n k 133 i = nI (setB (f i) n) := by
  unfold mayI; rw [if_pos ⟨rfl, h⟩]
theorem mayI_0 {I : Nat → Nat → Int32} {f : Nat → Nat → Bool} {n : Nat} : mayI I f n 0 = I := by
  funext q i; unfold mayI; rw [if_neg (by omega)]
theorem mayI_s {I : Nat → Nat → Int32} {f : Nat → Nat → Bool} {n k : Nat} : iu (mayI I f n k) 133 k (nI (setB (f k) n)) = mayI I f n (k + 1) := by
  funext q i
  unfold iu mayI
  by_cases h : q = 133 ∧ i = k
  · rw [if_pos h, if_pos (by omega), h.2]
  · rw [if_neg h]
    by_cases h2 : q = 133 ∧ i < k
    · rw [if_pos h2, if_pos (show q = 133 ∧ i < k + 1 by omega)]
    · rw [if_neg h2, if_neg (by omega)]
theorem iu_iu {I : Nat → Nat → Int32} {a j : Nat} {x y : Int32} : iu (iu I a j x) a j y = iu I a j y := by
  funext q i
  unfold iu
  by_cases h : q = a ∧ i = j
  · rw [if_pos h, if_pos h]
  · rw [if_neg h, if_neg h, if_neg h]
theorem m1_of {k : Int32} (h : ¬ k < -1) (h0 : k < 0) : k = -1 := by
  rw [Int32.lt_iff_toInt_lt] at h h0
  apply Int32.toInt_inj.mp
  have a : (-1 : Int32).toInt = -1 := rfl
  have b : (0 : Int32).toInt = 0 := rfl
  omega
section MRT
variable {z : Nat × (Nat → Int32)} {n : Nat} {mem : aM} {I : Nat → Nat → Int32} {sp : Nat → Nat} {pl : Bool} {Q : Option Value → Nat → aM → Prop} {R : Room}
theorem m_rings (b : Int32) : aRuns mX12_rings (rK 0) [.int b] n mem (a_ri (60 + 20 * b) n mem) := by
  refine aRuns_of pn_X12_rings (Nat.le_of_ble_eq_true rfl) (fun z => aE_loc (ls' := [_]) rfl ?_)
  refine aE_bipush (v := 60) dX12_rings_0 (by decide) ?_
  refine aE_bipush (v := 20) dX12_rings_2 (by decide) ?_
  refine aE_iload_n dX12_rings_4 rfl rfl ?_
  refine aE_imul dX12_rings_5 ?_
  refine aE_iadd dX12_rings_6 ?_
  refine aE_iret dX12_rings_7 rfl ⟨by decide, by decide⟩ ?_
  exact ⟨rfl, rfl, rfl⟩
theorem m_startOf (ns : Nat) (d : pD) (cs : Nat → pC) (al : Nat → Nat) (tr : Nat → Int32) (htr : ∀ s, s < 4 → I 132 s = tr s) (r s S : Nat) (hM : MS I ns d cs al) (hr : (RR d cs al ns)[r]? = some (s, S)) : aRuns mX12_startOf (rK 1) [.ref 101, .int (nI r)] (nn pl) (MM I sp pl) (a_ri (st1 d cs tr (s, S)) (nn pl) (MM I sp pl)) := by
  refine aRuns_of pn_X12_startOf (Nat.le_of_ble_eq_true rfl) (fun z => aE_loc (ls' := [_, _]) rfl ?_)
  obtain ⟨k1, k2, k3, k4, k5, k6, k7, k8, k9⟩ := MS_rt hM hr
  have h4 := hM.2.1
  refine aE_aload_n dX12_startOf_0 rfl rfl ?_
  refine aE_getf (v := .ref 132) dX12_startOf_1 fw_X12_108 (lt_nn (by decide)) rfl rfl ?_
  refine aE_aload_n dX12_startOf_4 rfl rfl ?_
  refine aE_getf (v := .ref 128) dX12_startOf_5 fw_X12_96 (lt_nn (by decide)) rfl rfl ?_
  refine aE_iload_n dX12_startOf_8 rfl rfl ?_
  refine aE_ildM dX12_startOf_9 (lt_nn (by decide)) rfl (by decide) rfl k6 ?_
  refine aE_top k8 ?_
  refine aE_ildM dX12_startOf_10 (lt_nn (by decide)) rfl (by decide) rfl (by omega) ?_
  refine aE_top (htr s (by omega)) ?_
  refine aE_cSi dX12_startOf_11 lk_X12_256 ms_X12_rings (m_rings _) rfl rfl ⟨by decide, by decide⟩ (Nat.le_of_ble_eq_true rfl) ⟨rfl, rfl⟩ ⟨by decide, by decide⟩ ?_
  refine aE_aload_n dX12_startOf_14 rfl rfl ?_
  refine aE_getf (v := .ref 129) dX12_startOf_15 fw_X12_99 (lt_nn (by decide)) rfl rfl ?_
  refine aE_iload_n dX12_startOf_18 rfl rfl ?_
  refine aE_ildM dX12_startOf_19 (lt_nn (by decide)) rfl (by decide) rfl k6 ?_
  refine aE_top k9 ?_
  refine aE_isub dX12_startOf_20 ?_
  refine aE_iret dX12_startOf_21 rfl ⟨by decide, by decide⟩ ?_
  exact ⟨rfl, rfl, rfl⟩
theorem m_canFollow (ns : Nat) (d : pD) (cs : Nat → pC) (al : Nat → Nat) (tr : Nat → Int32) (htr : ∀ s, s < 4 → I 132 s = tr s) (sl : Int32) (hsl : I 101 9 = sl) (a b s S s' S' : Nat) (hM : MS I ns d cs al) (ha : (RR d cs al ns)[a]? = some (s, S)) (hb : (RR d cs al ns)[b]? = some (s', S')) : aRuns mX12_canFollow (rK 3) [.ref 101, .int (nI a), .int (nI b)] (nn pl) (MM I sp pl) (a_ri (if cf1 d cs tr sl s (s', S') then 1 else 0) (nn pl) (MM I sp pl)) := by
  refine aRuns_of pn_X12_canFollow (Nat.le_of_ble_eq_true rfl) (fun z => aE_loc (ls' := [_, _, _, _]) rfl ?_)
  obtain ⟨k1, k2, k3, k4, k5, k6, k7, k8, k9⟩ := MS_rt hM ha
  obtain ⟨j1, j2, j3, j4, j5, j6, j7, j8, j9⟩ := MS_rt hM hb
  have h4 := hM.2.1
  obtain ⟨g, hg, hgb, hgn⟩ := nxt_ex (d := d) (c := cs s') (S := S') (bh := none) j3 (fun i hi => MS_bit hM j4 hi)
  have hfs : fs1 d (cs s') S' = g := by unfold fs1; rw [hg]; rfl
  have hsa := hM.2.2.1.1.2.2.1 g hgn
  have h10 := hM.2.2.1.1.2.1
  have hcs := hM.2.2.2.1 s k1
  have c1 := hcs.1
  have c2 := hsa.1
  have hw : wy1 d cs s (s', S') = d.2.2.1 (cs s).1 (d.2.1 g) := by unfold wy1; rw [hfs]
  unfold cf1
  rw [hw]
  refine aE_aload_n dX12_canFollow_0 rfl rfl ?_
  refine aE_getf (v := .ref 121) dX12_canFollow_1 fw_X12_75 (lt_nn (by decide)) rfl rfl ?_
  refine aE_bipush (v := 8) dX12_canFollow_4 (by decide) ?_
  refine aE_aload_n dX12_canFollow_6 rfl rfl ?_
  refine aE_getf (v := .ref 107) dX12_canFollow_7 fw_X12_33 (lt_nn (by decide)) rfl rfl ?_
  refine aE_aload_n dX12_canFollow_10 rfl rfl ?_
  refine aE_getf (v := .ref 128) dX12_canFollow_11 fw_X12_96 (lt_nn (by decide)) rfl rfl ?_
  refine aE_iload_n dX12_canFollow_14 rfl rfl ?_
  refine aE_ildM dX12_canFollow_15 (lt_nn (by decide)) rfl (by decide) rfl k6 ?_
  refine aE_top k8 ?_
  refine aE_ildM dX12_canFollow_16 (lt_nn (by decide)) rfl (by decide) rfl (by omega) ?_
  refine aE_top hcs.2.1 ?_
  refine aE_imul dX12_canFollow_17 ?_
  refine aE_top (x' := nI (8 * (cs s).1)) (by rw [show (8 : Int32) = nI 8 from rfl, pk_mul]) ?_
  refine aE_aload_n dX12_canFollow_18 rfl rfl ?_
  refine aE_getf (v := .ref 111) dX12_canFollow_19 fw_X12_45 (lt_nn (by decide)) rfl rfl ?_
  refine aE_aload_n dX12_canFollow_22 rfl rfl ?_
  refine aE_iload_n dX12_canFollow_23 rfl rfl ?_
  refine aE_iconst (v := 0) dX12_canFollow_24 rfl ?_
  refine aE_cVi dX12_canFollow_25 lk_X12_250 mv_X12_stopOf (m_stopOf d (cs s') S' b 0 hM.2.2.1.1 j2 (fun R hR g h1 h2 => MS_tab hM j1 (bsub_tr hR j4) h1 h2) j6 j7 (by omega)) rfl (lt_nn (by decide)) rfl rfl ⟨by decide, by decide⟩ (Nat.le_of_ble_eq_true rfl) ⟨rfl, rfl⟩ ⟨by decide, by decide⟩ ?_
  refine aE_top (x' := nI g) (by show rv (nxt d (cs s') S' none) = nI g; rw [hg]; rfl) ?_
  refine aE_ildM dX12_canFollow_28 (lt_nn (by decide)) rfl (by decide) rfl (by omega) ?_
  refine aE_top hsa.2 ?_
  refine aE_iadd dX12_canFollow_29 ?_
  refine aE_top (nI_add _ _) ?_
  refine aE_ildM dX12_canFollow_30 (lt_nn (by decide)) rfl (by decide) rfl (by omega) ?_
  refine aE_top (hM.2.2.1.1.2.2.2 _ _ c1 c2) ?_
  refine aE_istore_n dX12_canFollow_31 rfl (by decide) rfl (aE_loc (ls' := [_, _, _, _]) rfl ?_)
  refine aE_iload_n dX12_canFollow_32 rfl rfl ?_
  refine aE_ldc dX12_canFollow_33 ct_X12_192 ?_
  refine aE_icmp_ge (tgt := 71) dX12_canFollow_35 (by decide) (fun h35 => ?_) (fun h35 => ?_)
  · skip
    refine aE_iconst (v := 0) dX12_canFollow_71 rfl ?_
    first
      | refine aE_top (x' := _) (by rw [decide_eq_false (Int32.not_lt.mpr h35)]; rfl) ?_
      | skip
    refine aE_zret dX12_canFollow_72 rfl (by first | exact Or.inl rfl | exact Or.inr rfl | exact wi_or _ _ _ | assumption) ⟨by decide, by decide⟩ ?_
    first
      | exact a_rio (by rw [decide_eq_false (Int32.not_lt.mpr h35)]; rfl) rfl
      | exact a_rio (by rw [decide_eq_false (Int32.not_le.mpr h64)]; simp) rfl
      | exact a_rio (by rw [decide_eq_true (Int32.not_le.mp h35), decide_eq_true (Int32.not_lt.mp h64)]; rfl) rfl
  · skip
    refine aE_aload_n dX12_canFollow_38 rfl rfl ?_
    refine aE_getf (v := .ref 132) dX12_canFollow_39 fw_X12_108 (lt_nn (by decide)) rfl rfl ?_
    refine aE_aload_n dX12_canFollow_42 rfl rfl ?_
    refine aE_getf (v := .ref 128) dX12_canFollow_43 fw_X12_96 (lt_nn (by decide)) rfl rfl ?_
    refine aE_iload_n dX12_canFollow_46 rfl rfl ?_
    refine aE_ildM dX12_canFollow_47 (lt_nn (by decide)) rfl (by decide) rfl k6 ?_
    refine aE_top k8 ?_
    refine aE_ildM dX12_canFollow_48 (lt_nn (by decide)) rfl (by decide) rfl (by omega) ?_
    refine aE_top (htr s (by omega)) ?_
    refine aE_cSi dX12_canFollow_49 lk_X12_256 ms_X12_rings (m_rings _) rfl rfl ⟨by decide, by decide⟩ (Nat.le_of_ble_eq_true rfl) ⟨rfl, rfl⟩ ⟨by decide, by decide⟩ ?_
    refine aE_iload_n dX12_canFollow_52 rfl rfl ?_
    refine aE_iadd dX12_canFollow_53 ?_
    refine aE_aload_n dX12_canFollow_54 rfl rfl ?_
    refine aE_geti dX12_canFollow_55 fw_X12_224 (lt_nn (by decide)) rfl (by decide) rfl ?_
    refine aE_top hsl ?_
    refine aE_iadd dX12_canFollow_58 ?_
    refine aE_aload_n dX12_canFollow_59 rfl rfl ?_
    refine aE_iload_n dX12_canFollow_60 rfl rfl ?_
    refine aE_cVi dX12_canFollow_61 lk_X12_259 mv_X12_startOf (m_startOf ns d cs al tr htr b s' S' hM hb) rfl (lt_nn (by decide)) rfl rfl ⟨by decide, by decide⟩ (Nat.le_of_ble_eq_true rfl) ⟨rfl, rfl⟩ ⟨by decide, by decide⟩ ?_
    refine aE_icmp_gt (tgt := 71) dX12_canFollow_64 (by decide) (fun h64 => ?_) (fun h64 => ?_)
    · skip
      refine aE_iconst (v := 0) dX12_canFollow_71 rfl ?_
      first
        | refine aE_top (x' := _) (by rw [decide_eq_false (Int32.not_lt.mpr h35)]; rfl) ?_
        | skip
      refine aE_zret dX12_canFollow_72 rfl (by first | exact Or.inl rfl | exact Or.inr rfl | exact wi_or _ _ _ | assumption) ⟨by decide, by decide⟩ ?_
      first
        | exact a_rio (by rw [decide_eq_false (Int32.not_lt.mpr h35)]; rfl) rfl
        | exact a_rio (by rw [decide_eq_false (Int32.not_le.mpr h64)]; simp) rfl
        | exact a_rio (by rw [decide_eq_true (Int32.not_le.mp h35), decide_eq_true (Int32.not_lt.mp h64)]; rfl) rfl
    · skip
      refine aE_iconst (v := 1) dX12_canFollow_67 rfl ?_
      refine aE_goto (tgt := 72) dX12_canFollow_68 (by decide) ?_
      first
        | refine aE_top (x' := _) (by rw [decide_eq_false (Int32.not_lt.mpr h35)]; rfl) ?_
        | skip
      refine aE_zret dX12_canFollow_72 rfl (by first | exact Or.inl rfl | exact Or.inr rfl | exact wi_or _ _ _ | assumption) ⟨by decide, by decide⟩ ?_
      first
        | exact a_rio (by rw [decide_eq_false (Int32.not_lt.mpr h35)]; rfl) rfl
        | exact a_rio (by rw [decide_eq_false (Int32.not_le.mpr h64)]; simp) rfl
        | exact a_rio (by rw [decide_eq_true (Int32.not_le.mp h35), decide_eq_true (Int32.not_lt.mp h64)]; rfl) rfl
theorem l_may2 (ns : Nat) (d : pD) (cs : Nat → pC) (al : Nat → Nat) (tr : Nat → Int32) (htr : ∀ s, s < 4 → I 132 s = tr s) (sl : Int32) (hsl : I 101 9 = sl) (a s S : Nat) (hM : MS I ns d cs al) (ha : (RR d cs al ns)[a]? = some (s, S)) (k0 : aE z mX12_findMay (rK 4) Q 63 [some (.ref 101), some (.int (nI a)), some (.int (nI (RR d cs al ns).length))] [] (nn pl) (MM (iu I 133 a (nI (setB ((mayF d cs tr sl (RR d cs al ns)) a) (RR d cs al ns).length))) sp pl) 0 0) : ∀ (e b : Nat), b + e = (RR d cs al ns).length → aE z mX12_findMay (rK 4) Q 19 [some (.ref 101), some (.int (nI a)), some (.int (nI b))] [] (nn pl) (MM (iu I 133 a (nI (setB ((mayF d cs tr sl (RR d cs al ns)) a) b))) sp pl) 0 0 := by
  have hR10 := hM.2.2.2.2.2.2.1
  have hal := (MS_rt hM ha).2.2.2.2.1
  have hR : I 101 42 = nI (RR d cs al ns).length := hM.2.2.2.2.1.2.2.1.1
  intro e
  induction e with
  | zero =>
    intro b hb
    have hb : b = (RR d cs al ns).length := by omega
    subst hb
    refine aE_iload_n dX12_findMay_19 rfl rfl ?_
    refine aE_aload_n dX12_findMay_20 rfl rfl ?_
    refine aE_geti dX12_findMay_21 fw_X12_230 (lt_nn (by decide)) rfl (by decide) rfl ?_
    refine aE_icmp_ge (tgt := 63) dX12_findMay_24 (by decide) (fun h24 => ?_) (fun h24 => absurd (by rw [iu_ne (by omega), hR]; exact Int32.le_refl _) h24)
    exact k0
  | succ e ih =>
    intro b hb
    have hbl : b < (RR d cs al ns).length := by omega
    obtain ⟨s', S', hp⟩ : ∃ s' S', rt0 (RR d cs al ns) b = (s', S') := ⟨_, _, rfl⟩
    have hbS := rt0_ex hbl
    rw [hp] at hbS
    have ih2 := ih (b + 1) (by omega)
    have hM2 : MS (iu I 133 a (nI (setB ((mayF d cs tr sl (RR d cs al ns)) a) b))) ns d cs al := MS_fr hM (fun q i h1 h2 => iu_ne (by omega))
    have hF : (mayF d cs tr sl (RR d cs al ns)) a b = (decide (b ≠ a) && cf1 d cs tr sl s (s', S')) := by
      unfold mayF; rw [rt0_of ha, hp]
    refine aE_iload_n dX12_findMay_19 rfl rfl ?_
    refine aE_aload_n dX12_findMay_20 rfl rfl ?_
    refine aE_geti dX12_findMay_21 fw_X12_230 (lt_nn (by decide)) rfl (by decide) rfl ?_
    refine aE_icmp_ge (tgt := 63) dX12_findMay_24 (by decide) (fun h24 => absurd h24 (by rw [iu_ne (by omega), hR]; exact nI_ge (by omega) (by omega))) (fun h24 => ?_)
    refine aE_aload_n dX12_findMay_27 rfl rfl ?_
    refine aE_getf (v := .ref 133) dX12_findMay_28 fw_X12_111 (lt_nn (by decide)) rfl rfl ?_
    refine aE_iload_n dX12_findMay_31 rfl rfl ?_
    refine aE_dup2 dX12_findMay_32 rfl rfl ?_
    refine aE_ildM dX12_findMay_33 (lt_nn (by decide)) rfl (by decide) rfl (by omega) ?_
    refine aE_top iu_eq ?_
    refine aE_iload_n dX12_findMay_34 rfl rfl ?_
    refine aE_iload_n dX12_findMay_35 rfl rfl ?_
    refine aE_icmp_eq (tgt := 54) dX12_findMay_36 (by decide) (fun h36 => ?_) (fun h36 => ?_)
    · skip
      refine aE_iconst (v := 0) dX12_findMay_54 rfl ?_
      refine aE_ior dX12_findMay_55 ?_
      refine aE_top (x' := nI (setB ((mayF d cs tr sl (RR d cs al ns)) a) (b + 1))) (by
        first
          | (have hc : cf1 d cs tr sl s (s', S') = true := Classical.byContradiction (fun q => h45 (by rw [if_neg q]))
             have hx : (mayF d cs tr sl (RR d cs al ns)) a b = true := by rw [hF, hc, show decide (b ≠ a) = true from decide_eq_true (show b ≠ a from fun q => h36 (by rw [q]))]; rfl
             exact setB_o1 hx)
          | (have hx : ¬ (mayF d cs tr sl (RR d cs al ns)) a b = true := by rw [hF, (nI_eq (by omega) (by omega)).mp h36]; simp
             exact setB_o0 hx)
          | (have hx : ¬ (mayF d cs tr sl (RR d cs al ns)) a b = true := by rw [hF]; intro q; rw [Bool.and_eq_true] at q; rw [if_pos q.2] at h45; exact absurd h45 (by decide)
             exact setB_o0 hx)) ?_
      refine aE_istM dX12_findMay_56 (lt_nn (by decide)) rfl (by decide) rfl (by omega) ?_
      refine aE_I iu_iu ?_
      refine aE_iinc dX12_findMay_57 rfl (a_inc _) (by decide) rfl (aE_loc (ls' := [_, _, _]) rfl ?_)
      refine aE_goto (tgt := 19) dX12_findMay_60 (by decide) ?_
      exact ih2
    · skip
      refine aE_aload_n dX12_findMay_39 rfl rfl ?_
      refine aE_iload_n dX12_findMay_40 rfl rfl ?_
      refine aE_iload_n dX12_findMay_41 rfl rfl ?_
      refine aE_cVi dX12_findMay_42 lk_X12_265 mv_X12_canFollow (m_canFollow ns d cs al tr (fun s hs => (iu_ne (by omega)).trans (htr s hs)) sl ((iu_ne (by omega)).trans hsl) a b s S s' S' hM2 ha hbS) rfl (lt_nn (by decide)) rfl rfl ⟨by decide, by decide⟩ (Nat.le_of_ble_eq_true rfl) ⟨rfl, rfl⟩ ⟨by decide, by decide⟩ ?_
      refine aE_if_eq (tgt := 54) dX12_findMay_45 (by decide) (fun h45 => ?_) (fun h45 => ?_)
      · skip
        refine aE_iconst (v := 0) dX12_findMay_54 rfl ?_
        refine aE_ior dX12_findMay_55 ?_
        refine aE_top (x' := nI (setB ((mayF d cs tr sl (RR d cs al ns)) a) (b + 1))) (by
          first
            | (have hc : cf1 d cs tr sl s (s', S') = true := Classical.byContradiction (fun q => h45 (by rw [if_neg q]))
               have hx : (mayF d cs tr sl (RR d cs al ns)) a b = true := by rw [hF, hc, show decide (b ≠ a) = true from decide_eq_true (show b ≠ a from fun q => h36 (by rw [q]))]; rfl
               exact setB_o1 hx)
            | (have hx : ¬ (mayF d cs tr sl (RR d cs al ns)) a b = true := by rw [hF, (nI_eq (by omega) (by omega)).mp h36]; simp
               exact setB_o0 hx)
            | (have hx : ¬ (mayF d cs tr sl (RR d cs al ns)) a b = true := by rw [hF]; intro q; rw [Bool.and_eq_true] at q; rw [if_pos q.2] at h45; exact absurd h45 (by decide)
               exact setB_o0 hx)) ?_
        refine aE_istM dX12_findMay_56 (lt_nn (by decide)) rfl (by decide) rfl (by omega) ?_
        refine aE_I iu_iu ?_
        refine aE_iinc dX12_findMay_57 rfl (a_inc _) (by decide) rfl (aE_loc (ls' := [_, _, _]) rfl ?_)
        refine aE_goto (tgt := 19) dX12_findMay_60 (by decide) ?_
        exact ih2
      · skip
        refine aE_iconst (v := 1) dX12_findMay_48 rfl ?_
        refine aE_iload_n dX12_findMay_49 rfl rfl ?_
        refine aE_ishl dX12_findMay_50 ?_
        refine aE_top (nb_1shl (by omega)) ?_
        refine aE_goto (tgt := 55) dX12_findMay_51 (by decide) ?_
        refine aE_ior dX12_findMay_55 ?_
        refine aE_top (x' := nI (setB ((mayF d cs tr sl (RR d cs al ns)) a) (b + 1))) (by
          first
            | (have hc : cf1 d cs tr sl s (s', S') = true := Classical.byContradiction (fun q => h45 (by rw [if_neg q]))
               have hx : (mayF d cs tr sl (RR d cs al ns)) a b = true := by rw [hF, hc, show decide (b ≠ a) = true from decide_eq_true (show b ≠ a from fun q => h36 (by rw [q]))]; rfl
               exact setB_o1 hx)
            | (have hx : ¬ (mayF d cs tr sl (RR d cs al ns)) a b = true := by rw [hF, (nI_eq (by omega) (by omega)).mp h36]; simp
               exact setB_o0 hx)
            | (have hx : ¬ (mayF d cs tr sl (RR d cs al ns)) a b = true := by rw [hF]; intro q; rw [Bool.and_eq_true] at q; rw [if_pos q.2] at h45; exact absurd h45 (by decide)
               exact setB_o0 hx)) ?_
        refine aE_istM dX12_findMay_56 (lt_nn (by decide)) rfl (by decide) rfl (by omega) ?_
        refine aE_I iu_iu ?_
        refine aE_iinc dX12_findMay_57 rfl (a_inc _) (by decide) rfl (aE_loc (ls' := [_, _, _]) rfl ?_)
        refine aE_goto (tgt := 19) dX12_findMay_60 (by decide) ?_
        exact ih2
theorem l_may1 (ns : Nat) (d : pD) (cs : Nat → pC) (al : Nat → Nat) (tr : Nat → Int32) (htr : ∀ s, s < 4 → I 132 s = tr s) (sl : Int32) (hsl : I 101 9 = sl) (hM : MS I ns d cs al) (hQ : Q none (nn pl) (MM (mayI I (mayF d cs tr sl (RR d cs al ns)) (RR d cs al ns).length (RR d cs al ns).length) sp pl)) : ∀ (e a : Nat), a + e = (RR d cs al ns).length → ∀ l2, aE z mX12_findMay (rK 4) Q 2 [some (.ref 101), some (.int (nI a)), l2] [] (nn pl) (MM (mayI I (mayF d cs tr sl (RR d cs al ns)) (RR d cs al ns).length a) sp pl) 0 0 := by
  have hR10 := hM.2.2.2.2.2.2.1
  have hR : I 101 42 = nI (RR d cs al ns).length := hM.2.2.2.2.1.2.2.1.1
  intro e
  induction e with
  | zero =>
    intro a ha l2
    have ha : a = (RR d cs al ns).length := by omega
    subst ha
    refine aE_iload_n dX12_findMay_2 rfl rfl ?_
    refine aE_aload_n dX12_findMay_3 rfl rfl ?_
    refine aE_geti dX12_findMay_4 fw_X12_230 (lt_nn (by decide)) rfl (by decide) rfl ?_
    refine aE_icmp_ge (tgt := 69) dX12_findMay_7 (by decide) (fun h7 => ?_) (fun h7 => absurd (by rw [mayI_o (by decide), hR]; exact Int32.le_refl _) h7)
    refine aE_vret dX12_findMay_69 rfl ⟨by decide, by decide⟩ ?_
    exact hQ
  | succ e ih =>
    intro a ha l2
    have hal : a < (RR d cs al ns).length := by omega
    obtain ⟨s, S, hp⟩ : ∃ s S, rt0 (RR d cs al ns) a = (s, S) := ⟨_, _, rfl⟩
    have haS := rt0_ex hal
    rw [hp] at haS
    have hM2 : MS (mayI I (mayF d cs tr sl (RR d cs al ns)) (RR d cs al ns).length a) ns d cs al := MS_fr hM (fun q i h1 h2 => mayI_o (by omega))
    refine aE_iload_n dX12_findMay_2 rfl rfl ?_
    refine aE_aload_n dX12_findMay_3 rfl rfl ?_
    refine aE_geti dX12_findMay_4 fw_X12_230 (lt_nn (by decide)) rfl (by decide) rfl ?_
    refine aE_icmp_ge (tgt := 69) dX12_findMay_7 (by decide) (fun h7 => absurd h7 (by rw [mayI_o (by decide), hR]; exact nI_ge (by omega) (by omega))) (fun h7 => ?_)
    refine aE_aload_n dX12_findMay_10 rfl rfl ?_
    refine aE_getf (v := .ref 133) dX12_findMay_11 fw_X12_111 (lt_nn (by decide)) rfl rfl ?_
    refine aE_iload_n dX12_findMay_14 rfl rfl ?_
    refine aE_iconst (v := 0) dX12_findMay_15 rfl ?_
    refine aE_istM dX12_findMay_16 (lt_nn (by decide)) rfl (by decide) rfl (by omega) ?_
    refine aE_iconst (v := 0) dX12_findMay_17 rfl ?_
    refine aE_istore_n dX12_findMay_18 rfl (by decide) rfl (aE_loc (ls' := [_, _, _]) rfl ?_)
    refine l_may2 ns d cs al tr (fun s hs => (mayI_o (by decide)).trans (htr s hs)) sl ((mayI_o (by decide)).trans hsl) a s S hM2 haS ?_ (RR d cs al ns).length 0 (by omega)
    refine aE_I mayI_s ?_
    refine aE_iinc dX12_findMay_63 rfl (a_inc _) (by decide) rfl (aE_loc (ls' := [_, _, _]) rfl ?_)
    refine aE_goto (tgt := 2) dX12_findMay_66 (by decide) ?_
    exact ih (a + 1) (by omega) _
theorem m_findMay (ns : Nat) (d : pD) (cs : Nat → pC) (al : Nat → Nat) (tr : Nat → Int32) (htr : ∀ s, s < 4 → I 132 s = tr s) (sl : Int32) (hsl : I 101 9 = sl) (hM : MS I ns d cs al) : aRuns mX12_findMay (rK 4) [.ref 101] (nn pl) (MM I sp pl) (a_rv (nn pl) (MM (mayI I (mayF d cs tr sl (RR d cs al ns)) (RR d cs al ns).length (RR d cs al ns).length) sp pl)) := by
  refine aRuns_of pn_X12_findMay (Nat.le_of_ble_eq_true rfl) (fun z => aE_loc (ls' := [_, _, _]) rfl ?_)
  refine aE_iconst (v := 0) dX12_findMay_0 rfl ?_
  refine aE_istore_n dX12_findMay_1 rfl (by decide) rfl (aE_loc (ls' := [_, _, _]) rfl ?_)
  refine aE_I (I' := mayI I (mayF d cs tr sl (RR d cs al ns)) (RR d cs al ns).length 0) mayI_0.symm ?_
  exact l_may1 ns d cs al tr htr sl hsl hM ⟨rfl, rfl, rfl⟩ (RR d cs al ns).length 0 (by omega) _
end MRT
