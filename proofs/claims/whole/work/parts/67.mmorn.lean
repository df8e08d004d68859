/-- what the model's morning reads: L the routes, D the distances of the day -/
def MO (J : Nat → Nat → Int32) (ns : Nat) (d : pD) (cs : Nat → pC) (L : List (Nat × Nat)) (D : tT) (tr : Nat → Int32) (nx : Nat → Option Nat) (pu : Nat → Int32) : Prop :=
  J 101 42 = nI L.length ∧ J 101 3 = nI d.1 ∧ (∀ (r s S : Nat), L[r]? = some (s, S) → s < ns ∧ S < 1024 ∧ S ≠ 0 ∧ (∀ i, S.testBit i = true → i < d.1) ∧ J 127 r = nI S ∧ J 128 r = nI s ∧ J 129 r = lS d (cs s) S) ∧ (∀ k, k < d.1 → d.2.1 k < 8 ∧ J 111 k = nI (d.2.1 k)) ∧ (∀ s, s < ns → (cs s).1 < 8 ∧ J 107 s = nI (cs s).1) ∧ (∀ a b, a < 8 → b < 8 → J 121 (8 * a + b) = D a b) ∧ (∀ s, s < 4 → J 132 s = tr s) ∧ (∀ a, a < L.length → J 135 a = rv (nx a)) ∧ (∀ (r s S : Nat), L[r]? = some (s, S) → ∀ k, k < 11 → J 145 (11 * r + k) = rv (oS d (cs s) S k).2) ∧ (∀ i, J 112 i = pu i) ∧ L.length ≤ 10 ∧ d.1 ≤ 10 ∧ ns ≤ 4
theorem MO_fr {J K : Nat → Nat → Int32} {ns : Nat} {d : pD} {cs : Nat → pC} {L : List (Nat × Nat)} {D : tT} {tr : Nat → Int32} {nx : Nat → Option Nat} {pu : Nat → Int32} (h : MO J ns d cs L D tr nx pu) (hq : ∀ q i, q ≠ 144 → K q i = J q i) : MO K ns d cs L D tr nx pu := by
  obtain ⟨h1, h2, h3, h4, h5, h6, h7, h8, h9, h10, h11⟩ := h
  refine ⟨(hq 101 42 (by decide)).trans h1, (hq 101 3 (by decide)).trans h2, fun r s S hr => ?_, fun k hk => ⟨(h4 k hk).1, (hq 111 k (by decide)).trans (h4 k hk).2⟩, fun s hs => ⟨(h5 s hs).1, (hq 107 s (by decide)).trans (h5 s hs).2⟩, fun a b ha hb => (hq 121 _ (by decide)).trans (h6 a b ha hb), fun s hs => (hq 132 s (by decide)).trans (h7 s hs), fun a ha => (hq 135 a (by decide)).trans (h8 a ha), fun r s S hr k hk => (hq 145 _ (by decide)).trans (h9 r s S hr k hk), fun i => (hq 112 i (by decide)).trans (h10 i), h11⟩
  rw [hq 127 r (by decide), hq 128 r (by decide), hq 129 r (by decide)]
  exact h3 r s S hr
/-- the numbers of a morning -/
def mpM (d : pD) (cs : Nat → pC) (L : List (Nat × Nat)) (D : tT) (tr : Nat → Int32) (pu : Nat → Int32) (route late : Int32) : mP := (fun r => st1 d cs tr (rt0 L r), fun a r => D (cs (rt0 L a).1).1 (d.2.1 (fs1 d (cs (rt0 L r).1) (rt0 L r).2)), fun r => swA D d (cs (rt0 L r).1) (rt0 L r).2 10, fun r => if nI r = route then late else 0, fun r => 60 + 20 * tr (rt0 L r).1, fun r => sumB (rt0 L r).2 pu d.1)
section MMO
variable {z : Nat × (Nat → Int32)} {n : Nat} {mem : aM} {I : Nat → Nat → Int32} {sp : Nat → Nat} {pl : Bool} {Q : Option Value → Nat → aM → Prop} {R : Room}
theorem m_startOf2 (r s : Nat) (v t : Int32) (hr : r < 10) (hs : s < 4) (h1 : I 128 r = nI s) (h2 : I 129 r = v) (h3 : I 132 s = t) : aRuns mX12_startOf (rK 1) [.ref 101, .int (nI r)] (nn pl) (MM I sp pl) (a_ri (60 + 20 * t - v) (nn pl) (MM I sp pl)) := by
  refine aRuns_of pn_X12_startOf (Nat.le_of_ble_eq_true rfl) (fun z => aE_loc (ls' := [_, _]) rfl ?_)
  refine aE_aload_n dX12_startOf_0 rfl rfl ?_
  refine aE_getf (v := .ref 132) dX12_startOf_1 fw_X12_108 (lt_nn (by decide)) rfl rfl ?_
  refine aE_aload_n dX12_startOf_4 rfl rfl ?_
  refine aE_getf (v := .ref 128) dX12_startOf_5 fw_X12_96 (lt_nn (by decide)) rfl rfl ?_
  refine aE_iload_n dX12_startOf_8 rfl rfl ?_
  refine aE_ildM dX12_startOf_9 (lt_nn (by decide)) rfl (by decide) rfl hr ?_
  refine aE_top h1 ?_
  refine aE_ildM dX12_startOf_10 (lt_nn (by decide)) rfl (by decide) rfl hs ?_
  refine aE_top h3 ?_
  refine aE_cSi dX12_startOf_11 lk_X12_256 ms_X12_rings (m_rings _) rfl rfl ⟨by decide, by decide⟩ (Nat.le_of_ble_eq_true rfl) ⟨rfl, rfl⟩ ⟨by decide, by decide⟩ ?_
  refine aE_aload_n dX12_startOf_14 rfl rfl ?_
  refine aE_getf (v := .ref 129) dX12_startOf_15 fw_X12_99 (lt_nn (by decide)) rfl rfl ?_
  refine aE_iload_n dX12_startOf_18 rfl rfl ?_
  refine aE_ildM dX12_startOf_19 (lt_nn (by decide)) rfl (by decide) rfl hr ?_
  refine aE_top h2 ?_
  refine aE_isub dX12_startOf_20 ?_
  refine aE_iret dX12_startOf_21 rfl ⟨by decide, by decide⟩ ?_
  exact ⟨rfl, rfl, rfl⟩
theorem l_snow (ns : Nat) (d : pD) (cs : Nat → pC) (L : List (Nat × Nat)) (D : tT) (tr : Nat → Int32) (nx : Nat → Option Nat) (pu : Nat → Int32) (r s S : Nat) (hO : MO I ns d cs L D tr nx pu) (hr : L[r]? = some (s, S)) (l4 l5 : Option Value) (hQ : qi Q (swA D d (cs s) S 10) I sp pl) : ∀ (e k : Nat), k + e = 10 → ∀ l4 l5, aE z mX12_withSnow (rK 0) Q 4 [some (.ref 101), some (.int (nI r)), some (.int (swA D d (cs s) S k)), some (.int (nI k)), l4, l5] [] (nn pl) (MM I sp pl) 0 0 := by
  obtain ⟨h1, h2, h3, h4, h5, h6, h7, h8, h9, h10, hl10, hd10, hs4⟩ := hO
  obtain ⟨k1, k2, k3, k4, k5, k6, k7⟩ := h3 r s S hr
  have hrl := (List.getElem?_eq_some_iff.mp hr).1
  have row := h9 r s S hr
  have stop : ∀ k, k ≤ 10 → (oS d (cs s) S k).2 = none → ∀ l4 l5, aE z mX12_withSnow (rK 0) Q 4 [some (.ref 101), some (.int (nI r)), some (.int (swA D d (cs s) S k)), some (.int (nI k)), l4, l5] [] (nn pl) (MM I sp pl) 0 0 := by
    intro k hk hn l4 l5
    have hsw : swA D d (cs s) S 10 = swA D d (cs s) S k := by
      have := swA_end (D := D) hn (10 - k)
      rw [show k + (10 - k) = 10 by omega] at this
      exact this
    rw [hsw] at hQ
    refine aE_aload_n dX12_withSnow_4 rfl rfl ?_
    refine aE_getf (v := .ref 145) dX12_withSnow_5 fw_X12_147 (lt_nn (by decide)) rfl rfl ?_
    refine aE_bipush (v := 11) dX12_withSnow_8 (by decide) ?_
    refine aE_iload_n dX12_withSnow_10 rfl rfl ?_
    refine aE_imul dX12_withSnow_11 ?_
    refine aE_top (x' := nI (11 * r)) (by rw [show (11 : Int32) = nI 11 from rfl, pk_mul]) ?_
    refine aE_iload_n dX12_withSnow_12 rfl rfl ?_
    refine aE_iadd dX12_withSnow_13 ?_
    refine aE_top (nI_add _ _) ?_
    refine aE_ildM dX12_withSnow_14 (lt_nn (by decide)) rfl (by decide) rfl (by omega) ?_
    refine aE_top ((row k (by omega)).trans (by rw [hn])) ?_
    refine aE_if_lt (tgt := 99) dX12_withSnow_15 (by decide) (fun h15 => ?_) (fun h15 => absurd (by decide) h15)
    refine aE_iload_n dX12_withSnow_99 rfl rfl ?_
    refine aE_iret dX12_withSnow_100 rfl ⟨by decide, by decide⟩ ?_
    exact hQ
  intro e
  induction e with
  | zero =>
    intro k hk l4 l5
    have hk : k = 10 := by omega
    subst hk
    refine stop 10 (Nat.le_refl _) ?_ l4 l5
    cases hn : (oS d (cs s) S 10).2 with
    | none => rfl
    | some g => have := (oS_lt hd10 hn).2.1; omega
  | succ e ih =>
    intro k hk l4 l5
    cases hn : (oS d (cs s) S k).2 with
    | none => exact stop k (by omega) hn l4 l5
    | some g =>
      have hg := (oS_lt hd10 hn).2.2
      obtain ⟨sg1, sg2⟩ := h4 g hg
      obtain ⟨cg1, cg2⟩ := h5 s k1
      have ih2 := ih (k + 1) (by omega)
      rw [swA_s, hn] at ih2
      dsimp only at ih2
      cases hn2 : (oS d (cs s) S (k + 1)).2 with
      | none =>
        rw [hn2] at ih2
        refine aE_aload_n dX12_withSnow_4 rfl rfl ?_
        refine aE_getf (v := .ref 145) dX12_withSnow_5 fw_X12_147 (lt_nn (by decide)) rfl rfl ?_
        refine aE_bipush (v := 11) dX12_withSnow_8 (by decide) ?_
        refine aE_iload_n dX12_withSnow_10 rfl rfl ?_
        refine aE_imul dX12_withSnow_11 ?_
        refine aE_top (x' := nI (11 * r)) (by rw [show (11 : Int32) = nI 11 from rfl, pk_mul]) ?_
        refine aE_iload_n dX12_withSnow_12 rfl rfl ?_
        refine aE_iadd dX12_withSnow_13 ?_
        refine aE_top (nI_add _ _) ?_
        refine aE_ildM dX12_withSnow_14 (lt_nn (by decide)) rfl (by decide) rfl (by omega) ?_
        refine aE_top (x' := nI g) ((row k (by omega)).trans (by rw [hn]; rfl)) ?_
        refine aE_if_lt (tgt := 99) dX12_withSnow_15 (by decide) (fun h15 => absurd h15 (nI_pos (by omega))) (fun h15 => ?_)
        refine aE_aload_n dX12_withSnow_18 rfl rfl ?_
        refine aE_getf (v := .ref 145) dX12_withSnow_19 fw_X12_147 (lt_nn (by decide)) rfl rfl ?_
        refine aE_bipush (v := 11) dX12_withSnow_22 (by decide) ?_
        refine aE_iload_n dX12_withSnow_24 rfl rfl ?_
        refine aE_imul dX12_withSnow_25 ?_
        refine aE_top (x' := nI (11 * r)) (by rw [show (11 : Int32) = nI 11 from rfl, pk_mul]) ?_
        refine aE_iload_n dX12_withSnow_26 rfl rfl ?_
        refine aE_iadd dX12_withSnow_27 ?_
        refine aE_top (nI_add _ _) ?_
        refine aE_ildM dX12_withSnow_28 (lt_nn (by decide)) rfl (by decide) rfl (by omega) ?_
        refine aE_top (x' := nI g) ((row k (by omega)).trans (by rw [hn]; rfl)) ?_
        refine aE_istore dX12_withSnow_29 (by decide) rfl (aE_loc (ls' := [_, _, _, _, _, _]) rfl ?_)
        refine aE_aload_n dX12_withSnow_31 rfl rfl ?_
        refine aE_getf (v := .ref 145) dX12_withSnow_32 fw_X12_147 (lt_nn (by decide)) rfl rfl ?_
        refine aE_bipush (v := 11) dX12_withSnow_35 (by decide) ?_
        refine aE_iload_n dX12_withSnow_37 rfl rfl ?_
        refine aE_imul dX12_withSnow_38 ?_
        refine aE_top (x' := nI (11 * r)) (by rw [show (11 : Int32) = nI 11 from rfl, pk_mul]) ?_
        refine aE_iload_n dX12_withSnow_39 rfl rfl ?_
        refine aE_iadd dX12_withSnow_40 ?_
        refine aE_top (nI_add _ _) ?_
        refine aE_iconst (v := 1) dX12_withSnow_41 rfl ?_
        refine aE_iadd dX12_withSnow_42 ?_
        refine aE_top (nI_1 _) ?_
        refine aE_ildM dX12_withSnow_43 (lt_nn (by decide)) rfl (by decide) rfl (by omega) ?_
        refine aE_top (x' := (-1)) ((row (k + 1) (by omega)).trans (by rw [hn2]; rfl)) ?_
        refine aE_istore dX12_withSnow_44 (by decide) rfl (aE_loc (ls' := [_, _, _, _, _, _]) rfl ?_)
        refine aE_iload_n dX12_withSnow_46 rfl rfl ?_
        refine aE_iconst (v := 1) dX12_withSnow_47 rfl ?_
        refine aE_aload_n dX12_withSnow_48 rfl rfl ?_
        refine aE_getf (v := .ref 121) dX12_withSnow_49 fw_X12_75 (lt_nn (by decide)) rfl rfl ?_
        refine aE_bipush (v := 8) dX12_withSnow_52 (by decide) ?_
        refine aE_aload_n dX12_withSnow_54 rfl rfl ?_
        refine aE_getf (v := .ref 111) dX12_withSnow_55 fw_X12_45 (lt_nn (by decide)) rfl rfl ?_
        refine aE_iload dX12_withSnow_58 rfl ?_
        refine aE_ildM dX12_withSnow_60 (lt_nn (by decide)) rfl (by decide) rfl (by omega) ?_
        refine aE_top sg2 ?_
        refine aE_imul dX12_withSnow_61 ?_
        refine aE_top (x' := nI (8 * d.2.1 g)) (by rw [show (8 : Int32) = nI 8 from rfl, pk_mul]) ?_
        refine aE_iload dX12_withSnow_62 rfl ?_
        refine aE_if_ge (tgt := 81) dX12_withSnow_64 (by decide) (fun h64 => absurd h64 (by decide)) (fun h64 => ?_)
        refine aE_aload_n dX12_withSnow_67 rfl rfl ?_
        refine aE_getf (v := .ref 107) dX12_withSnow_68 fw_X12_33 (lt_nn (by decide)) rfl rfl ?_
        refine aE_aload_n dX12_withSnow_71 rfl rfl ?_
        refine aE_getf (v := .ref 128) dX12_withSnow_72 fw_X12_96 (lt_nn (by decide)) rfl rfl ?_
        refine aE_iload_n dX12_withSnow_75 rfl rfl ?_
        refine aE_ildM dX12_withSnow_76 (lt_nn (by decide)) rfl (by decide) rfl (by omega) ?_
        refine aE_top k6 ?_
        refine aE_ildM dX12_withSnow_77 (lt_nn (by decide)) rfl (by decide) rfl (by omega) ?_
        refine aE_top cg2 ?_
        refine aE_goto (tgt := 88) dX12_withSnow_78 (by decide) ?_
        refine aE_iadd dX12_withSnow_88 ?_
        refine aE_top (nI_add _ _) ?_
        refine aE_ildM dX12_withSnow_89 (lt_nn (by decide)) rfl (by decide) rfl (by omega) ?_
        refine aE_top (h6 _ _ (by omega) (by omega)) ?_
        refine aE_iadd dX12_withSnow_90 ?_
        refine aE_iadd dX12_withSnow_91 ?_
        refine aE_istore_n dX12_withSnow_92 rfl (by decide) rfl (aE_loc (ls' := [_, _, _, _, _, _]) rfl ?_)
        refine aE_iinc dX12_withSnow_93 rfl (a_inc _) (by decide) rfl (aE_loc (ls' := [_, _, _, _, _, _]) rfl ?_)
        refine aE_goto (tgt := 4) dX12_withSnow_96 (by decide) ?_
        exact ih2 _ _
      | some g' =>
        rw [hn2] at ih2
        have hg' := (oS_lt hd10 hn2).2.2
        obtain ⟨sh1, sh2⟩ := h4 g' hg'
        refine aE_aload_n dX12_withSnow_4 rfl rfl ?_
        refine aE_getf (v := .ref 145) dX12_withSnow_5 fw_X12_147 (lt_nn (by decide)) rfl rfl ?_
        refine aE_bipush (v := 11) dX12_withSnow_8 (by decide) ?_
        refine aE_iload_n dX12_withSnow_10 rfl rfl ?_
        refine aE_imul dX12_withSnow_11 ?_
        refine aE_top (x' := nI (11 * r)) (by rw [show (11 : Int32) = nI 11 from rfl, pk_mul]) ?_
        refine aE_iload_n dX12_withSnow_12 rfl rfl ?_
        refine aE_iadd dX12_withSnow_13 ?_
        refine aE_top (nI_add _ _) ?_
        refine aE_ildM dX12_withSnow_14 (lt_nn (by decide)) rfl (by decide) rfl (by omega) ?_
        refine aE_top (x' := nI g) ((row k (by omega)).trans (by rw [hn]; rfl)) ?_
        refine aE_if_lt (tgt := 99) dX12_withSnow_15 (by decide) (fun h15 => absurd h15 (nI_pos (by omega))) (fun h15 => ?_)
        refine aE_aload_n dX12_withSnow_18 rfl rfl ?_
        refine aE_getf (v := .ref 145) dX12_withSnow_19 fw_X12_147 (lt_nn (by decide)) rfl rfl ?_
        refine aE_bipush (v := 11) dX12_withSnow_22 (by decide) ?_
        refine aE_iload_n dX12_withSnow_24 rfl rfl ?_
        refine aE_imul dX12_withSnow_25 ?_
        refine aE_top (x' := nI (11 * r)) (by rw [show (11 : Int32) = nI 11 from rfl, pk_mul]) ?_
        refine aE_iload_n dX12_withSnow_26 rfl rfl ?_
        refine aE_iadd dX12_withSnow_27 ?_
        refine aE_top (nI_add _ _) ?_
        refine aE_ildM dX12_withSnow_28 (lt_nn (by decide)) rfl (by decide) rfl (by omega) ?_
        refine aE_top (x' := nI g) ((row k (by omega)).trans (by rw [hn]; rfl)) ?_
        refine aE_istore dX12_withSnow_29 (by decide) rfl (aE_loc (ls' := [_, _, _, _, _, _]) rfl ?_)
        refine aE_aload_n dX12_withSnow_31 rfl rfl ?_
        refine aE_getf (v := .ref 145) dX12_withSnow_32 fw_X12_147 (lt_nn (by decide)) rfl rfl ?_
        refine aE_bipush (v := 11) dX12_withSnow_35 (by decide) ?_
        refine aE_iload_n dX12_withSnow_37 rfl rfl ?_
        refine aE_imul dX12_withSnow_38 ?_
        refine aE_top (x' := nI (11 * r)) (by rw [show (11 : Int32) = nI 11 from rfl, pk_mul]) ?_
        refine aE_iload_n dX12_withSnow_39 rfl rfl ?_
        refine aE_iadd dX12_withSnow_40 ?_
        refine aE_top (nI_add _ _) ?_
        refine aE_iconst (v := 1) dX12_withSnow_41 rfl ?_
        refine aE_iadd dX12_withSnow_42 ?_
        refine aE_top (nI_1 _) ?_
        refine aE_ildM dX12_withSnow_43 (lt_nn (by decide)) rfl (by decide) rfl (by omega) ?_
        refine aE_top (x' := nI g') ((row (k + 1) (by omega)).trans (by rw [hn2]; rfl)) ?_
        refine aE_istore dX12_withSnow_44 (by decide) rfl (aE_loc (ls' := [_, _, _, _, _, _]) rfl ?_)
        refine aE_iload_n dX12_withSnow_46 rfl rfl ?_
        refine aE_iconst (v := 1) dX12_withSnow_47 rfl ?_
        refine aE_aload_n dX12_withSnow_48 rfl rfl ?_
        refine aE_getf (v := .ref 121) dX12_withSnow_49 fw_X12_75 (lt_nn (by decide)) rfl rfl ?_
        refine aE_bipush (v := 8) dX12_withSnow_52 (by decide) ?_
        refine aE_aload_n dX12_withSnow_54 rfl rfl ?_
        refine aE_getf (v := .ref 111) dX12_withSnow_55 fw_X12_45 (lt_nn (by decide)) rfl rfl ?_
        refine aE_iload dX12_withSnow_58 rfl ?_
        refine aE_ildM dX12_withSnow_60 (lt_nn (by decide)) rfl (by decide) rfl (by omega) ?_
        refine aE_top sg2 ?_
        refine aE_imul dX12_withSnow_61 ?_
        refine aE_top (x' := nI (8 * d.2.1 g)) (by rw [show (8 : Int32) = nI 8 from rfl, pk_mul]) ?_
        refine aE_iload dX12_withSnow_62 rfl ?_
        refine aE_if_ge (tgt := 81) dX12_withSnow_64 (by decide) (fun h64 => ?_) (fun h64 => absurd (nI_pos' (by omega)) h64)
        refine aE_aload_n dX12_withSnow_81 rfl rfl ?_
        refine aE_getf (v := .ref 111) dX12_withSnow_82 fw_X12_45 (lt_nn (by decide)) rfl rfl ?_
        refine aE_iload dX12_withSnow_85 rfl ?_
        refine aE_ildM dX12_withSnow_87 (lt_nn (by decide)) rfl (by decide) rfl (by omega) ?_
        refine aE_top sh2 ?_
        refine aE_iadd dX12_withSnow_88 ?_
        refine aE_top (nI_add _ _) ?_
        refine aE_ildM dX12_withSnow_89 (lt_nn (by decide)) rfl (by decide) rfl (by omega) ?_
        refine aE_top (h6 _ _ (by omega) (by omega)) ?_
        refine aE_iadd dX12_withSnow_90 ?_
        refine aE_iadd dX12_withSnow_91 ?_
        refine aE_istore_n dX12_withSnow_92 rfl (by decide) rfl (aE_loc (ls' := [_, _, _, _, _, _]) rfl ?_)
        refine aE_iinc dX12_withSnow_93 rfl (a_inc _) (by decide) rfl (aE_loc (ls' := [_, _, _, _, _, _]) rfl ?_)
        refine aE_goto (tgt := 4) dX12_withSnow_96 (by decide) ?_
        exact ih2 _ _
theorem m_withSnow (ns : Nat) (d : pD) (cs : Nat → pC) (L : List (Nat × Nat)) (D : tT) (tr : Nat → Int32) (nx : Nat → Option Nat) (pu : Nat → Int32) (r s S : Nat) (hO : MO I ns d cs L D tr nx pu) (hr : L[r]? = some (s, S)) : aRuns mX12_withSnow (rK 0) [.ref 101, .int (nI r)] (nn pl) (MM I sp pl) (a_ri (swA D d (cs s) S 10) (nn pl) (MM I sp pl)) := by
  refine aRuns_of pn_X12_withSnow (Nat.le_of_ble_eq_true rfl) (fun z => aE_loc (ls' := [_, _, _, _, _, _]) rfl ?_)
  refine aE_iconst (v := 0) dX12_withSnow_0 rfl ?_
  refine aE_istore_n dX12_withSnow_1 rfl (by decide) rfl (aE_loc (ls' := [_, _, _, _, _, _]) rfl ?_)
  refine aE_iconst (v := 0) dX12_withSnow_2 rfl ?_
  refine aE_istore_n dX12_withSnow_3 rfl (by decide) rfl (aE_loc (ls' := [_, _, _, _, _, _]) rfl ?_)
  exact l_snow ns d cs L D tr nx pu r s S hO hr none none ⟨rfl, rfl, rfl⟩ 10 0 (by omega) _ _
theorem l_mo2 (ns : Nat) (d : pD) (cs : Nat → pC) (L : List (Nat × Nat)) (D : tT) (tr : Nat → Int32) (nx : Nat → Option Nat) (pu : Nat → Int32) (route late snow : Int32) (dp : Nat → Nat) (hdp : dpOK nx L.length dp) (fi : Nat) (I0 : Nat → Nat → Int32) (fin : (Nat → Int32) × Int32) (k0 : ∀ J l6 l7 l8 l9, (∀ q i, q ≠ 144 → J q i = I0 q i) → MO J ns d cs L D tr nx pu → (∀ r, r < L.length → J 144 r = fin.1 r) → aE z mX12_morning (rK 6) Q 324 [some (.ref 101), some (.int route), some (.int late), some (.int snow), some (.int fin.2), some (.int (nI fi)), l6, l7, l8, l9] [] (nn pl) (MM J sp pl) 0 0) : ∀ (m : Nat) (x : (Nat → Int32) × Int32) (fr o : Option Nat) (I : Nat → Nat → Int32), (∀ r, o = some r → r < L.length ∧ dp r < m) → (∀ a, fr = some a → a < L.length) → drC (mpM d cs L D tr pu route late) nx m x fr o = fin → (∀ q i, q ≠ 144 → I q i = I0 q i) → MO I ns d cs L D tr nx pu → (∀ r, r < L.length → I 144 r = x.1 r) → ∀ l8 l9, aE z mX12_morning (rK 6) Q 155 [some (.ref 101), some (.int route), some (.int late), some (.int snow), some (.int x.2), some (.int (nI fi)), some (.int (rv fr)), some (.int (rv o)), l8, l9] [] (nn pl) (MM I sp pl) 0 0 := by
  intro m
  have done : ∀ (m : Nat) (x : (Nat → Int32) × Int32) (fr : Option Nat) (I : Nat → Nat → Int32), drC (mpM d cs L D tr pu route late) nx m x fr none = fin → (∀ q i, q ≠ 144 → I q i = I0 q i) → MO I ns d cs L D tr nx pu → (∀ r, r < L.length → I 144 r = x.1 r) → ∀ l8 l9, aE z mX12_morning (rK 6) Q 155 [some (.ref 101), some (.int route), some (.int late), some (.int snow), some (.int x.2), some (.int (nI fi)), some (.int (rv fr)), some (.int (rv none)), l8, l9] [] (nn pl) (MM I sp pl) 0 0 := by
    intro m x fr I hf hfr hO hC l8 l9
    rw [drC_none] at hf
    subst hf
    refine aE_iload dX12_morning_155 rfl ?_
    refine aE_if_lt (tgt := 324) dX12_morning_157 (by decide) (fun h157 => ?_) (fun h157 => absurd (by decide) h157)
    exact k0 I _ _ _ _ hfr hO hC
  induction m with
  | zero =>
    intro x fr o I ho
    cases o with
    | none => exact fun _ => done 0 x fr I
    | some r => have := (ho r rfl).2; omega
  | succ m ih =>
    intro x fr o I ho hfa hf hfr hO hC l8 l9
    cases o with
    | none => exact done (m + 1) x fr I hf hfr hO hC l8 l9
    | some r =>
      have hrl := (ho r rfl).1
      have hdr := (ho r rfl).2
      obtain ⟨s, S, hsS⟩ : ∃ s S, rt0 L r = (s, S) := ⟨_, _, rfl⟩
      have hget := rt0_ex hrl
      rw [hsS] at hget
      have hO2 := hO
      obtain ⟨h1, h2, h3, h4, h5, h6, h7, h8, h9, h10, hl10, hd10, hs4⟩ := hO
      obtain ⟨k1, k2, k3, k4, k5, k6, k7⟩ := h3 r s S hget
      obtain ⟨g, hg, hgb, hgn⟩ := nxt_ex (d := d) (c := cs s) (S := S) (bh := none) k3 k4
      have hfs : fs1 d (cs s) S = g := by unfold fs1; rw [hg]; rfl
      obtain ⟨sg1, sg2⟩ := h4 g hgn
      have hor : I 145 (11 * r) = nI g := (h9 r s S hget 0 (by omega)).trans (by show rv (nxt d (cs s) S none) = nI g; rw [hg]; rfl)
      have hst : st1 d cs tr (s, S) = (mpM d cs L D tr pu route late).1 r := by show _ = st1 d cs tr (rt0 L r); rw [hsS]
      have hln : swA D d (cs s) S 10 = (mpM d cs L D tr pu route late).2.2.1 r := by show _ = swA D d (cs (rt0 L r).1) (rt0 L r).2 10; rw [hsS]
      have hpu : sumB S (I 112) d.1 = (mpM d cs L D tr pu route late).2.2.2.2.2 r := by show _ = sumB (rt0 L r).2 pu d.1; rw [hsS, show I 112 = pu from funext h10]
      have hrg : 60 + 20 * tr s = (mpM d cs L D tr pu route late).2.2.2.2.1 r := by show _ = 60 + 20 * tr (rt0 L r).1; rw [hsS]
      have hla : ∀ v, v = (if nI r = route then late else 0) → v = (mpM d cs L D tr pu route late).2.2.2.1 r := fun v hv => hv
      obtain ⟨bg, hbg⟩ : ∃ bg, (match fr with | none => (mpM d cs L D tr pu route late).1 r | some a => if (mpM d cs L D tr pu route late).1 r < x.1 a + (mpM d cs L D tr pu route late).2.1 a r then x.1 a + (mpM d cs L D tr pu route late).2.1 a r else (mpM d cs L D tr pu route late).1 r) = bg := ⟨_, rfl⟩
      have hcm : cmV (mpM d cs L D tr pu route late) x.1 fr r = bg + (mpM d cs L D tr pu route late).2.2.2.1 r + (mpM d cs L D tr pu route late).2.2.1 r := by rw [← hbg]; unfold cmV; cases fr <;> rfl
      have hf2 : drC (mpM d cs L D tr pu route late) nx m (fup x.1 r (cmV (mpM d cs L D tr pu route late) x.1 fr r), x.2 + ltV (mpM d cs L D tr pu route late) (cmV (mpM d cs L D tr pu route late) x.1 fr r) r) (some r) (nx r) = fin := hf
      have tail : ∀ l9, aE z mX12_morning (rK 6) Q 235 [some (.ref 101), some (.int route), some (.int late), some (.int snow), some (.int x.2), some (.int (nI fi)), some (.int (rv fr)), some (.int (nI r)), some (.int bg), l9] [] (nn pl) (MM I sp pl) 0 0 := by
        intro l9
        have hK1 : ∀ q i, q ≠ 144 → iu I 144 r (cmV (mpM d cs L D tr pu route late) x.1 fr r) q i = I q i := fun q i hq => iu_ne (Or.inl hq)
        have hC2 : ∀ q, q < L.length → iu I 144 r (cmV (mpM d cs L D tr pu route late) x.1 fr r) 144 q = fup x.1 r (cmV (mpM d cs L D tr pu route late) x.1 fr r) q := fun q hq => by
          by_cases e : q = r
          · subst e; rw [iu_eq, fup_eq]
          · rw [iu_ne (Or.inr e), fup_ne e]; exact hC q hq
        have next : ∀ (y : Int32), y = x.2 + ltV (mpM d cs L D tr pu route late) (cmV (mpM d cs L D tr pu route late) x.1 fr r) r → ∀ l8 l9, aE z mX12_morning (rK 6) Q 312 [some (.ref 101), some (.int route), some (.int late), some (.int snow), some (.int y), some (.int (nI fi)), some (.int (nI r)), some (.int (nI r)), l8, l9] [] (nn pl) (MM (iu I 144 r (cmV (mpM d cs L D tr pu route late) x.1 fr r)) sp pl) 0 0 := by
          intro y hy l8 l9
          subst hy
          refine aE_aload_n dX12_morning_312 rfl rfl ?_
          refine aE_getf (v := .ref 135) dX12_morning_313 fw_X12_117 (lt_nn (by decide)) rfl rfl ?_
          refine aE_iload dX12_morning_316 rfl ?_
          refine aE_ildM dX12_morning_318 (lt_nn (by decide)) rfl (by decide) rfl (by omega) ?_
          refine aE_top ((hK1 135 r (by decide)).trans (h8 r hrl)) ?_
          refine aE_istore dX12_morning_319 (by decide) rfl (aE_loc (ls' := [_, _, _, _, _, _, _, _, _, _]) rfl ?_)
          refine aE_goto (tgt := 155) dX12_morning_321 (by decide) ?_
          exact ih (_, _) (some r) (nx r) _ (fun b hb => by have := hdp r b hrl hb; omega) (fun a ha => by cases ha; exact hrl) hf2 (fun q i hq => (hK1 q i hq).trans (hfr q i hq)) (MO_fr hO2 hK1) hC2 _ _
        refine aE_iload dX12_morning_235 rfl ?_
        refine aE_iload dX12_morning_237 rfl ?_
        refine aE_iload_n dX12_morning_239 rfl rfl ?_
        refine aE_icmp_ne (tgt := 247) dX12_morning_240 (by decide) (fun h240 => ?_) (fun h240 => ?_)
        · skip
          refine aE_loc (ls' := _) rfl ?_
          refine aE_iconst (v := 0) dX12_morning_247 rfl ?_
          refine aE_iadd dX12_morning_248 ?_
          first
            | refine aE_top (x' := bg + (mpM d cs L D tr pu route late).2.2.2.1 r) (congrArg (bg + ·) (hla _ (if_neg h240).symm)) ?_
            | refine aE_top (x' := bg + (mpM d cs L D tr pu route late).2.2.2.1 r) (congrArg (bg + ·) (hla _ (if_pos (by first | exact h240 | exact Classical.not_not.mp h240)).symm)) ?_
          refine aE_istore dX12_morning_249 (by decide) rfl (aE_loc (ls' := [_, _, _, _, _, _, _, _, _, _]) rfl ?_)
          refine aE_aload_n dX12_morning_251 rfl rfl ?_
          refine aE_getf (v := .ref 144) dX12_morning_252 fw_X12_144 (lt_nn (by decide)) rfl rfl ?_
          refine aE_iload dX12_morning_255 rfl ?_
          refine aE_iload dX12_morning_257 rfl ?_
          refine aE_aload_n dX12_morning_259 rfl rfl ?_
          refine aE_iload dX12_morning_260 rfl ?_
          refine aE_cVi dX12_morning_262 lk_X12_316 mv_X12_withSnow (m_withSnow ns d cs L D tr nx pu r s S hO2 hget) rfl (lt_nn (by decide)) rfl rfl ⟨by decide, by decide⟩ (Nat.le_of_ble_eq_true rfl) ⟨rfl, rfl⟩ ⟨by decide, by decide⟩ ?_
          rw [hln]
          refine aE_iadd dX12_morning_265 ?_
          refine aE_top hcm.symm ?_
          refine aE_istM dX12_morning_266 (lt_nn (by decide)) rfl (by decide) rfl (by omega) ?_
          refine aE_iload dX12_morning_267 rfl ?_
          refine aE_istore dX12_morning_269 (by decide) rfl (aE_loc (ls' := [_, _, _, _, _, _, _, _, _, _]) rfl ?_)
          refine aE_aload_n dX12_morning_271 rfl rfl ?_
          refine aE_getf (v := .ref 144) dX12_morning_272 fw_X12_144 (lt_nn (by decide)) rfl rfl ?_
          refine aE_iload dX12_morning_275 rfl ?_
          refine aE_ildM dX12_morning_277 (lt_nn (by decide)) rfl (by decide) rfl (by omega) ?_
          refine aE_top iu_eq ?_
          refine aE_aload_n dX12_morning_278 rfl rfl ?_
          refine aE_getf (v := .ref 132) dX12_morning_279 fw_X12_108 (lt_nn (by decide)) rfl rfl ?_
          refine aE_aload_n dX12_morning_282 rfl rfl ?_
          refine aE_getf (v := .ref 128) dX12_morning_283 fw_X12_96 (lt_nn (by decide)) rfl rfl ?_
          refine aE_iload dX12_morning_286 rfl ?_
          refine aE_ildM dX12_morning_288 (lt_nn (by decide)) rfl (by decide) rfl (by omega) ?_
          refine aE_top ((hK1 128 r (by decide)).trans k6) ?_
          refine aE_ildM dX12_morning_289 (lt_nn (by decide)) rfl (by decide) rfl (by omega) ?_
          refine aE_top ((hK1 132 s (by decide)).trans (h7 s (by omega))) ?_
          refine aE_cSi dX12_morning_290 lk_X12_256 ms_X12_rings (m_rings _) rfl rfl ⟨by decide, by decide⟩ (Nat.le_of_ble_eq_true rfl) ⟨rfl, rfl⟩ ⟨by decide, by decide⟩ ?_
          rw [hrg]
          refine aE_icmp_le (tgt := 312) dX12_morning_293 (by decide) (fun h293 => ?_) (fun h293 => ?_)
          · skip
            first | exact next _ (by unfold ltV; rw [if_neg (Int32.not_lt.mpr h293)]; exact (Int32.add_zero _).symm) _ _ | exact next _ (by unfold ltV; rw [if_pos (Int32.not_le.mp h293)]) _ _
          · skip
            refine aE_iload dX12_morning_296 rfl ?_
            refine aE_aload_n dX12_morning_298 rfl rfl ?_
            refine aE_aload_n dX12_morning_299 rfl rfl ?_
            refine aE_getf (v := .ref 127) dX12_morning_300 fw_X12_93 (lt_nn (by decide)) rfl rfl ?_
            refine aE_iload dX12_morning_303 rfl ?_
            refine aE_ildM dX12_morning_305 (lt_nn (by decide)) rfl (by decide) rfl (by omega) ?_
            refine aE_top ((hK1 127 r (by decide)).trans k5) ?_
            refine aE_cVi dX12_morning_306 lk_X12_215 mv_X12_pupilsOf (m_pupilsOf S d.1 (by omega) ((hK1 101 3 (by decide)).trans h2) hd10) rfl (lt_nn (by decide)) rfl rfl ⟨by decide, by decide⟩ (Nat.le_of_ble_eq_true rfl) ⟨rfl, rfl⟩ ⟨by decide, by decide⟩ ?_
            rw [show iu I 144 r (cmV (mpM d cs L D tr pu route late) x.1 fr r) 112 = I 112 from funext fun i => hK1 112 i (by decide), hpu]
            refine aE_iadd dX12_morning_309 ?_
            refine aE_istore dX12_morning_310 (by decide) rfl (aE_loc (ls' := [_, _, _, _, _, _, _, _, _, _]) rfl ?_)
            first | exact next _ (by unfold ltV; rw [if_neg (Int32.not_lt.mpr h293)]; exact (Int32.add_zero _).symm) _ _ | exact next _ (by unfold ltV; rw [if_pos (Int32.not_le.mp h293)]) _ _
        · skip
          refine aE_iload_n dX12_morning_243 rfl rfl ?_
          refine aE_goto (tgt := 248) dX12_morning_244 (by decide) ?_
          refine aE_iadd dX12_morning_248 ?_
          first
            | refine aE_top (x' := bg + (mpM d cs L D tr pu route late).2.2.2.1 r) (congrArg (bg + ·) (hla _ (if_neg h240).symm)) ?_
            | refine aE_top (x' := bg + (mpM d cs L D tr pu route late).2.2.2.1 r) (congrArg (bg + ·) (hla _ (if_pos (by first | exact h240 | exact Classical.not_not.mp h240)).symm)) ?_
          refine aE_istore dX12_morning_249 (by decide) rfl (aE_loc (ls' := [_, _, _, _, _, _, _, _, _, _]) rfl ?_)
          refine aE_aload_n dX12_morning_251 rfl rfl ?_
          refine aE_getf (v := .ref 144) dX12_morning_252 fw_X12_144 (lt_nn (by decide)) rfl rfl ?_
          refine aE_iload dX12_morning_255 rfl ?_
          refine aE_iload dX12_morning_257 rfl ?_
          refine aE_aload_n dX12_morning_259 rfl rfl ?_
          refine aE_iload dX12_morning_260 rfl ?_
          refine aE_cVi dX12_morning_262 lk_X12_316 mv_X12_withSnow (m_withSnow ns d cs L D tr nx pu r s S hO2 hget) rfl (lt_nn (by decide)) rfl rfl ⟨by decide, by decide⟩ (Nat.le_of_ble_eq_true rfl) ⟨rfl, rfl⟩ ⟨by decide, by decide⟩ ?_
          rw [hln]
          refine aE_iadd dX12_morning_265 ?_
          refine aE_top hcm.symm ?_
          refine aE_istM dX12_morning_266 (lt_nn (by decide)) rfl (by decide) rfl (by omega) ?_
          refine aE_iload dX12_morning_267 rfl ?_
          refine aE_istore dX12_morning_269 (by decide) rfl (aE_loc (ls' := [_, _, _, _, _, _, _, _, _, _]) rfl ?_)
          refine aE_aload_n dX12_morning_271 rfl rfl ?_
          refine aE_getf (v := .ref 144) dX12_morning_272 fw_X12_144 (lt_nn (by decide)) rfl rfl ?_
          refine aE_iload dX12_morning_275 rfl ?_
          refine aE_ildM dX12_morning_277 (lt_nn (by decide)) rfl (by decide) rfl (by omega) ?_
          refine aE_top iu_eq ?_
          refine aE_aload_n dX12_morning_278 rfl rfl ?_
          refine aE_getf (v := .ref 132) dX12_morning_279 fw_X12_108 (lt_nn (by decide)) rfl rfl ?_
          refine aE_aload_n dX12_morning_282 rfl rfl ?_
          refine aE_getf (v := .ref 128) dX12_morning_283 fw_X12_96 (lt_nn (by decide)) rfl rfl ?_
          refine aE_iload dX12_morning_286 rfl ?_
          refine aE_ildM dX12_morning_288 (lt_nn (by decide)) rfl (by decide) rfl (by omega) ?_
          refine aE_top ((hK1 128 r (by decide)).trans k6) ?_
          refine aE_ildM dX12_morning_289 (lt_nn (by decide)) rfl (by decide) rfl (by omega) ?_
          refine aE_top ((hK1 132 s (by decide)).trans (h7 s (by omega))) ?_
          refine aE_cSi dX12_morning_290 lk_X12_256 ms_X12_rings (m_rings _) rfl rfl ⟨by decide, by decide⟩ (Nat.le_of_ble_eq_true rfl) ⟨rfl, rfl⟩ ⟨by decide, by decide⟩ ?_
          rw [hrg]
          refine aE_icmp_le (tgt := 312) dX12_morning_293 (by decide) (fun h293 => ?_) (fun h293 => ?_)
          · skip
            first | exact next _ (by unfold ltV; rw [if_neg (Int32.not_lt.mpr h293)]; exact (Int32.add_zero _).symm) _ _ | exact next _ (by unfold ltV; rw [if_pos (Int32.not_le.mp h293)]) _ _
          · skip
            refine aE_iload dX12_morning_296 rfl ?_
            refine aE_aload_n dX12_morning_298 rfl rfl ?_
            refine aE_aload_n dX12_morning_299 rfl rfl ?_
            refine aE_getf (v := .ref 127) dX12_morning_300 fw_X12_93 (lt_nn (by decide)) rfl rfl ?_
            refine aE_iload dX12_morning_303 rfl ?_
            refine aE_ildM dX12_morning_305 (lt_nn (by decide)) rfl (by decide) rfl (by omega) ?_
            refine aE_top ((hK1 127 r (by decide)).trans k5) ?_
            refine aE_cVi dX12_morning_306 lk_X12_215 mv_X12_pupilsOf (m_pupilsOf S d.1 (by omega) ((hK1 101 3 (by decide)).trans h2) hd10) rfl (lt_nn (by decide)) rfl rfl ⟨by decide, by decide⟩ (Nat.le_of_ble_eq_true rfl) ⟨rfl, rfl⟩ ⟨by decide, by decide⟩ ?_
            rw [show iu I 144 r (cmV (mpM d cs L D tr pu route late) x.1 fr r) 112 = I 112 from funext fun i => hK1 112 i (by decide), hpu]
            refine aE_iadd dX12_morning_309 ?_
            refine aE_istore dX12_morning_310 (by decide) rfl (aE_loc (ls' := [_, _, _, _, _, _, _, _, _, _]) rfl ?_)
            first | exact next _ (by unfold ltV; rw [if_neg (Int32.not_lt.mpr h293)]; exact (Int32.add_zero _).symm) _ _ | exact next _ (by unfold ltV; rw [if_pos (Int32.not_le.mp h293)]) _ _
      cases fr with
      | none =>
        have hbg : (mpM d cs L D tr pu route late).1 r = bg := hbg
        refine aE_iload dX12_morning_155 rfl ?_
        refine aE_if_lt (tgt := 324) dX12_morning_157 (by decide) (fun h157 => absurd h157 (nI_pos (by omega))) (fun h157 => ?_)
        refine aE_aload_n dX12_morning_160 rfl rfl ?_
        refine aE_iload dX12_morning_161 rfl ?_
        refine aE_cVi dX12_morning_163 lk_X12_259 mv_X12_startOf (m_startOf2 r s _ _ (by omega) (by omega) k6 k7 (h7 s (by omega))) rfl (lt_nn (by decide)) rfl rfl ⟨by decide, by decide⟩ (Nat.le_of_ble_eq_true rfl) ⟨rfl, rfl⟩ ⟨by decide, by decide⟩ ?_
        refine aE_top (x' := bg) (hst.trans hbg) ?_
        refine aE_istore dX12_morning_166 (by decide) rfl (aE_loc (ls' := [_, _, _, _, _, _, _, _, _, _]) rfl ?_)
        refine aE_iload dX12_morning_168 rfl ?_
        refine aE_if_lt (tgt := 235) dX12_morning_170 (by decide) (fun h170 => ?_) (fun h170 => absurd (by decide) h170)
        exact tail _
      | some a =>
        have hal := hfa a rfl
        obtain ⟨s2, S2, hs2⟩ : ∃ s S, rt0 L a = (s, S) := ⟨_, _, rfl⟩
        have hget2 := rt0_ex hal
        rw [hs2] at hget2
        obtain ⟨j1, j2, j3, j4, j5, j6, j7⟩ := h3 a s2 S2 hget2
        obtain ⟨cg1, cg2⟩ := h5 s2 j1
        have hbg : (if (mpM d cs L D tr pu route late).1 r < x.1 a + (mpM d cs L D tr pu route late).2.1 a r then x.1 a + (mpM d cs L D tr pu route late).2.1 a r else (mpM d cs L D tr pu route late).1 r) = bg := hbg
        have hwa : D (cs s2).1 (d.2.1 g) = (mpM d cs L D tr pu route late).2.1 a r := by show _ = D (cs (rt0 L a).1).1 (d.2.1 (fs1 d (cs (rt0 L r).1) (rt0 L r).2)); rw [hs2, hsS, hfs]
        refine aE_iload dX12_morning_155 rfl ?_
        refine aE_if_lt (tgt := 324) dX12_morning_157 (by decide) (fun h157 => absurd h157 (nI_pos (by omega))) (fun h157 => ?_)
        refine aE_aload_n dX12_morning_160 rfl rfl ?_
        refine aE_iload dX12_morning_161 rfl ?_
        refine aE_cVi dX12_morning_163 lk_X12_259 mv_X12_startOf (m_startOf2 r s _ _ (by omega) (by omega) k6 k7 (h7 s (by omega))) rfl (lt_nn (by decide)) rfl rfl ⟨by decide, by decide⟩ (Nat.le_of_ble_eq_true rfl) ⟨rfl, rfl⟩ ⟨by decide, by decide⟩ ?_
        refine aE_top (x' := (mpM d cs L D tr pu route late).1 r) hst ?_
        refine aE_istore dX12_morning_166 (by decide) rfl (aE_loc (ls' := [_, _, _, _, _, _, _, _, _, _]) rfl ?_)
        refine aE_iload dX12_morning_168 rfl ?_
        refine aE_if_lt (tgt := 235) dX12_morning_170 (by decide) (fun h170 => absurd h170 (nI_pos (by omega))) (fun h170 => ?_)
        refine aE_aload_n dX12_morning_173 rfl rfl ?_
        refine aE_getf (v := .ref 144) dX12_morning_174 fw_X12_144 (lt_nn (by decide)) rfl rfl ?_
        refine aE_iload dX12_morning_177 rfl ?_
        refine aE_ildM dX12_morning_179 (lt_nn (by decide)) rfl (by decide) rfl (by omega) ?_
        refine aE_top (hC a hal) ?_
        refine aE_aload_n dX12_morning_180 rfl rfl ?_
        refine aE_getf (v := .ref 121) dX12_morning_181 fw_X12_75 (lt_nn (by decide)) rfl rfl ?_
        refine aE_bipush (v := 8) dX12_morning_184 (by decide) ?_
        refine aE_aload_n dX12_morning_186 rfl rfl ?_
        refine aE_getf (v := .ref 107) dX12_morning_187 fw_X12_33 (lt_nn (by decide)) rfl rfl ?_
        refine aE_aload_n dX12_morning_190 rfl rfl ?_
        refine aE_getf (v := .ref 128) dX12_morning_191 fw_X12_96 (lt_nn (by decide)) rfl rfl ?_
        refine aE_iload dX12_morning_194 rfl ?_
        refine aE_ildM dX12_morning_196 (lt_nn (by decide)) rfl (by decide) rfl (by omega) ?_
        refine aE_top j6 ?_
        refine aE_ildM dX12_morning_197 (lt_nn (by decide)) rfl (by decide) rfl (by omega) ?_
        refine aE_top cg2 ?_
        refine aE_imul dX12_morning_198 ?_
        refine aE_top (x' := nI (8 * (cs s2).1)) (by rw [show (8 : Int32) = nI 8 from rfl, pk_mul]) ?_
        refine aE_aload_n dX12_morning_199 rfl rfl ?_
        refine aE_getf (v := .ref 111) dX12_morning_200 fw_X12_45 (lt_nn (by decide)) rfl rfl ?_
        refine aE_aload_n dX12_morning_203 rfl rfl ?_
        refine aE_getf (v := .ref 145) dX12_morning_204 fw_X12_147 (lt_nn (by decide)) rfl rfl ?_
        refine aE_bipush (v := 11) dX12_morning_207 (by decide) ?_
        refine aE_iload dX12_morning_209 rfl ?_
        refine aE_imul dX12_morning_211 ?_
        refine aE_top (x' := nI (11 * r)) (by show nI 11 * nI r = _; rw [pk_mul]) ?_
        refine aE_ildM dX12_morning_212 (lt_nn (by decide)) rfl (by decide) rfl (by omega) ?_
        refine aE_top hor ?_
        refine aE_ildM dX12_morning_213 (lt_nn (by decide)) rfl (by decide) rfl (by omega) ?_
        refine aE_top sg2 ?_
        refine aE_iadd dX12_morning_214 ?_
        refine aE_top (nI_add _ _) ?_
        refine aE_ildM dX12_morning_215 (lt_nn (by decide)) rfl (by decide) rfl (by omega) ?_
        refine aE_top ((h6 _ _ (by omega) (by omega)).trans hwa) ?_
        refine aE_iadd dX12_morning_216 ?_
        refine aE_istore dX12_morning_217 (by decide) rfl (aE_loc (ls' := [_, _, _, _, _, _, _, _, _, _]) rfl ?_)
        refine aE_iload dX12_morning_219 rfl ?_
        refine aE_iload dX12_morning_221 rfl ?_
        refine aE_icmp_le (tgt := 231) dX12_morning_223 (by decide) (fun h223 => ?_) (fun h223 => ?_)
        · skip
          refine aE_iload dX12_morning_231 rfl ?_
          refine aE_top (x' := bg) (by
            rw [← hbg]
            first
              | exact (if_neg (Int32.not_lt.mpr h223)).symm
              | exact (if_pos (Int32.not_le.mp h223)).symm) ?_
          refine aE_istore dX12_morning_233 (by decide) rfl (aE_loc (ls' := [_, _, _, _, _, _, _, _, _, _]) rfl ?_)
          exact tail _
        · skip
          refine aE_iload dX12_morning_226 rfl ?_
          refine aE_goto (tgt := 233) dX12_morning_228 (by decide) ?_
          refine aE_top (x' := bg) (by
            rw [← hbg]
            first
              | exact (if_neg (Int32.not_lt.mpr h223)).symm
              | exact (if_pos (Int32.not_le.mp h223)).symm) ?_
          refine aE_istore dX12_morning_233 (by decide) rfl (aE_loc (ls' := [_, _, _, _, _, _, _, _, _, _]) rfl ?_)
          exact tail _
end MMO
