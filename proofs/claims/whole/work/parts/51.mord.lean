section MORD
variable {z : Nat × (Nat → Int32)} {n : Nat} {mem : aM} {I : Nat → Nat → Int32} {sp : Nat → Nat} {pl : Bool} {Q : Option Value → Nat → aM → Prop} {R : Room}
theorem l_next (d : pD) (c : pC) (S : Nat) (bh : Option Nat) (hmd : mdH I d.1 d.2.1 d.2.2.1) (hS : S < 1024) (hbh : ∀ b, bh = some b → b < d.1) (htab : ∀ g, g < d.1 → S.testBit g = true → I 122 (10 * S + g) = fS d c S g) (hQ : qi Q (rv (nxt d c S bh)) I sp pl) : ∀ (e k : Nat), k + e = d.1 → ∀ l6, aE z mX12_nextStop (rK 1) Q 9 [some (.ref 101), some (.int (nI S)), some (.int (rv bh)), some (.int (rv ((nxP (fun g => wyP d bh g + fS d c S g) S k).map Prod.fst))), some (.int (match nxP (fun g => wyP d bh g + fS d c S g) S k with | none => (1000000 : Int32) | some p => p.2)), some (.int (nI k)), l6] [] (nn pl) (MM I sp pl) 0 0 := by
  have h10 := hmd.2.1
  intro e
  induction e with
  | zero =>
    intro k hk l6
    have hk : k = d.1 := by omega
    subst hk
    refine aE_iload dX12_nextStop_9 rfl ?_
    refine aE_aload_n dX12_nextStop_11 rfl rfl ?_
    refine aE_geti dX12_nextStop_12 fw_X12_166 (lt_nn (by decide)) rfl (by decide) rfl ?_
    refine aE_icmp_ge (tgt := 102) dX12_nextStop_15 (by decide) (fun h15 => ?_) (fun h15 => absurd (by rw [hmd.1]; exact Int32.le_refl _) h15)
    refine aE_iload_n dX12_nextStop_102 rfl rfl ?_
    refine aE_iret dX12_nextStop_103 rfl ⟨by decide, by decide⟩ ?_
    exact hQ
  | succ e ih =>
    intro k hk l6
    have stepL : S.testBit k = true → aE z mX12_nextStop (rK 1) Q 75 [some (.ref 101), some (.int (nI S)), some (.int (rv bh)), some (.int (rv ((nxP (fun g => wyP d bh g + fS d c S g) S k).map Prod.fst))), some (.int (match nxP (fun g => wyP d bh g + fS d c S g) S k with | none => (1000000 : Int32) | some p => p.2)), some (.int (nI k)), some (.int (wyP d bh k + fS d c S k))] [] (nn pl) (MM I sp pl) 0 0 := by
      intro hb
      have ih2 := ih (k + 1) (by omega)
      rw [nxP_s, if_pos hb] at ih2
      cases hn : nxP (fun g => wyP d bh g + fS d c S g) S k with
      | none =>
        rw [hn] at ih2
        refine aE_iload_n dX12_nextStop_75 rfl rfl ?_
        refine aE_if_lt (tgt := 89) dX12_nextStop_76 (by decide) (fun h76 => ?_) (fun h76 => absurd (by decide) h76)
        refine aE_iload dX12_nextStop_89 rfl ?_
        refine aE_istore_n dX12_nextStop_91 rfl (by decide) rfl (aE_loc (ls' := [_, _, _, _, _, _, _]) rfl ?_)
        refine aE_iload dX12_nextStop_92 rfl ?_
        refine aE_istore dX12_nextStop_94 (by decide) rfl (aE_loc (ls' := [_, _, _, _, _, _, _]) rfl ?_)
        refine aE_iinc dX12_nextStop_96 rfl (a_inc _) (by decide) rfl (aE_loc (ls' := [_, _, _, _, _, _, _]) rfl ?_)
        refine aE_goto (tgt := 9) dX12_nextStop_99 (by decide) ?_
        exact ih2 _
      | some p =>
        obtain ⟨b, l⟩ := p
        rw [hn] at ih2
        have hbn := (nxP_some k hn).1
        have hpos : ¬ nI b < 0 := nI_pos (by omega)
        by_cases hw : wyP d bh k + fS d c S k < l
        · simp only [if_pos hw] at ih2
          refine aE_iload_n dX12_nextStop_75 rfl rfl ?_
          refine aE_if_lt (tgt := 89) dX12_nextStop_76 (by decide) (fun h76 => absurd h76 (hpos)) (fun h76 => ?_)
          refine aE_iload dX12_nextStop_79 rfl ?_
          refine aE_iload dX12_nextStop_81 rfl ?_
          refine aE_icmp_lt (tgt := 89) dX12_nextStop_83 (by decide) (fun h83 => ?_) (fun h83 => absurd (hw) h83)
          refine aE_iload dX12_nextStop_89 rfl ?_
          refine aE_istore_n dX12_nextStop_91 rfl (by decide) rfl (aE_loc (ls' := [_, _, _, _, _, _, _]) rfl ?_)
          refine aE_iload dX12_nextStop_92 rfl ?_
          refine aE_istore dX12_nextStop_94 (by decide) rfl (aE_loc (ls' := [_, _, _, _, _, _, _]) rfl ?_)
          refine aE_iinc dX12_nextStop_96 rfl (a_inc _) (by decide) rfl (aE_loc (ls' := [_, _, _, _, _, _, _]) rfl ?_)
          refine aE_goto (tgt := 9) dX12_nextStop_99 (by decide) ?_
          exact ih2 _
        · simp only [if_neg hw] at ih2
          refine aE_iload_n dX12_nextStop_75 rfl rfl ?_
          refine aE_if_lt (tgt := 89) dX12_nextStop_76 (by decide) (fun h76 => absurd h76 (hpos)) (fun h76 => ?_)
          refine aE_iload dX12_nextStop_79 rfl ?_
          refine aE_iload dX12_nextStop_81 rfl ?_
          refine aE_icmp_lt (tgt := 89) dX12_nextStop_83 (by decide) (fun h83 => absurd h83 (hw)) (fun h83 => ?_)
          refine aE_goto (tgt := 96) dX12_nextStop_86 (by decide) ?_
          refine aE_iinc dX12_nextStop_96 rfl (a_inc _) (by decide) rfl (aE_loc (ls' := [_, _, _, _, _, _, _]) rfl ?_)
          refine aE_goto (tgt := 9) dX12_nextStop_99 (by decide) ?_
          exact ih2 _
    refine aE_iload dX12_nextStop_9 rfl ?_
    refine aE_aload_n dX12_nextStop_11 rfl rfl ?_
    refine aE_geti dX12_nextStop_12 fw_X12_166 (lt_nn (by decide)) rfl (by decide) rfl ?_
    refine aE_icmp_ge (tgt := 102) dX12_nextStop_15 (by decide) (fun h15 => absurd h15 (by rw [hmd.1]; exact nI_ge (by omega) (by omega))) (fun h15 => ?_)
    refine aE_iload_n dX12_nextStop_18 rfl rfl ?_
    refine aE_iload dX12_nextStop_19 rfl ?_
    refine aE_cSi dX12_nextStop_21 lk_X12_206 ms_X12_has (m_has S k (by omega) (by omega)) rfl rfl ⟨by decide, by decide⟩ (Nat.le_of_ble_eq_true rfl) ⟨rfl, rfl⟩ ⟨by decide, by decide⟩ ?_
    refine aE_if_ne (tgt := 30) dX12_nextStop_24 (by decide) (fun h24 => ?_) (fun h24 => ?_)
    · skip
      have hb := tb_of h24
      have hk8 := (hmd.2.2.1 k (by omega)).1
      refine aE_iload_n dX12_nextStop_30 rfl rfl ?_
      refine aE_if_ge (tgt := 38) dX12_nextStop_31 (by decide) (fun h31 => ?_) (fun h31 => ?_)
      · skip
        obtain ⟨b, hbe⟩ : ∃ b, bh = some b := by
          cases bh with
          | none => exact absurd h31 (by decide)
          | some b => exact ⟨b, rfl⟩
        subst hbe
        have hb9 := hbh b rfl
        have hb8 := (hmd.2.2.1 b hb9).1
        refine aE_aload_n dX12_nextStop_38 rfl rfl ?_
        refine aE_getf (v := .ref 121) dX12_nextStop_39 fw_X12_75 (lt_nn (by decide)) rfl rfl ?_
        refine aE_bipush (v := 8) dX12_nextStop_42 (by decide) ?_
        refine aE_aload_n dX12_nextStop_44 rfl rfl ?_
        refine aE_getf (v := .ref 111) dX12_nextStop_45 fw_X12_45 (lt_nn (by decide)) rfl rfl ?_
        refine aE_iload_n dX12_nextStop_48 rfl rfl ?_
        refine aE_ildM dX12_nextStop_49 (lt_nn (by decide)) rfl (by decide) rfl (by omega) ?_
        refine aE_top (x' := nI (d.2.1 b)) (hmd.2.2.1 b hb9).2 ?_
        refine aE_imul dX12_nextStop_50 ?_
        refine aE_top (x' := nI (8 * d.2.1 b)) (by rw [show (8 : Int32) = nI 8 from rfl, pk_mul]) ?_
        refine aE_aload_n dX12_nextStop_51 rfl rfl ?_
        refine aE_getf (v := .ref 111) dX12_nextStop_52 fw_X12_45 (lt_nn (by decide)) rfl rfl ?_
        refine aE_iload dX12_nextStop_55 rfl ?_
        refine aE_ildM dX12_nextStop_57 (lt_nn (by decide)) rfl (by decide) rfl (by omega) ?_
        refine aE_top (x' := nI (d.2.1 k)) (hmd.2.2.1 k (by omega)).2 ?_
        refine aE_iadd dX12_nextStop_58 ?_
        refine aE_top (nI_add (8 * d.2.1 b) (d.2.1 k)) ?_
        refine aE_ildM dX12_nextStop_59 (lt_nn (by decide)) rfl (by decide) rfl (by omega) ?_
        refine aE_top (x' := d.2.2.1 (d.2.1 b) (d.2.1 k)) (hmd.2.2.2 _ _ hb8 hk8) ?_
        first
          | refine aE_top (x' := wyP d bh k) (by
              cases bh with
              | none => rfl
              | some b => exact absurd (nI_pos' (show b < 2 ^ 31 by have := hbh b rfl; omega)) h31) ?_
          | refine aE_top (x' := wyP d (some b) k) rfl ?_
        refine aE_aload_n dX12_nextStop_60 rfl rfl ?_
        refine aE_getf (v := .ref 122) dX12_nextStop_61 fw_X12_78 (lt_nn (by decide)) rfl rfl ?_
        refine aE_bipush (v := 10) dX12_nextStop_64 (by decide) ?_
        refine aE_iload_n dX12_nextStop_66 rfl rfl ?_
        refine aE_imul dX12_nextStop_67 ?_
        refine aE_top (x' := nI (10 * S)) (by rw [show (10 : Int32) = nI 10 from rfl, pk_mul]) ?_
        refine aE_iload dX12_nextStop_68 rfl ?_
        refine aE_iadd dX12_nextStop_70 ?_
        refine aE_top (nI_add (10 * S) k) ?_
        refine aE_ildM dX12_nextStop_71 (lt_nn (by decide)) rfl (by decide) rfl (by omega) ?_
        refine aE_top (x' := fS d c S k) (htab k (by omega) hb) ?_
        refine aE_iadd dX12_nextStop_72 ?_
        refine aE_istore dX12_nextStop_73 (by decide) rfl (aE_loc (ls' := [_, _, _, _, _, _, _]) rfl ?_)
        exact stepL hb
      · skip
        refine aE_iconst (v := 0) dX12_nextStop_34 rfl ?_
        refine aE_goto (tgt := 60) dX12_nextStop_35 (by decide) ?_
        first
          | refine aE_top (x' := wyP d bh k) (by
              cases bh with
              | none => rfl
              | some b => exact absurd (nI_pos' (show b < 2 ^ 31 by have := hbh b rfl; omega)) h31) ?_
          | refine aE_top (x' := wyP d (some b) k) rfl ?_
        refine aE_aload_n dX12_nextStop_60 rfl rfl ?_
        refine aE_getf (v := .ref 122) dX12_nextStop_61 fw_X12_78 (lt_nn (by decide)) rfl rfl ?_
        refine aE_bipush (v := 10) dX12_nextStop_64 (by decide) ?_
        refine aE_iload_n dX12_nextStop_66 rfl rfl ?_
        refine aE_imul dX12_nextStop_67 ?_
        refine aE_top (x' := nI (10 * S)) (by rw [show (10 : Int32) = nI 10 from rfl, pk_mul]) ?_
        refine aE_iload dX12_nextStop_68 rfl ?_
        refine aE_iadd dX12_nextStop_70 ?_
        refine aE_top (nI_add (10 * S) k) ?_
        refine aE_ildM dX12_nextStop_71 (lt_nn (by decide)) rfl (by decide) rfl (by omega) ?_
        refine aE_top (x' := fS d c S k) (htab k (by omega) hb) ?_
        refine aE_iadd dX12_nextStop_72 ?_
        refine aE_istore dX12_nextStop_73 (by decide) rfl (aE_loc (ls' := [_, _, _, _, _, _, _]) rfl ?_)
        exact stepL hb
    · skip
      refine aE_goto (tgt := 96) dX12_nextStop_27 (by decide) ?_
      refine aE_iinc dX12_nextStop_96 rfl (a_inc _) (by decide) rfl (aE_loc (ls' := [_, _, _, _, _, _, _]) rfl ?_)
      refine aE_goto (tgt := 9) dX12_nextStop_99 (by decide) ?_
      have ih2 := ih (k + 1) (by omega)
      rw [nxP_s, if_neg (tb_no (by first | exact h24 | exact Classical.not_not.mp h24))] at ih2
      exact ih2 _
theorem m_nextStop (d : pD) (c : pC) (S : Nat) (bh : Option Nat) (hmd : mdH I d.1 d.2.1 d.2.2.1) (hS : S < 1024) (hbh : ∀ b, bh = some b → b < d.1) (htab : ∀ g, g < d.1 → S.testBit g = true → I 122 (10 * S + g) = fS d c S g) : aRuns mX12_nextStop (rK 1) [.ref 101, .int (nI S), .int (rv bh)] (nn pl) (MM I sp pl) (a_ri (rv (nxt d c S bh)) (nn pl) (MM I sp pl)) := by
  refine aRuns_of pn_X12_nextStop (Nat.le_of_ble_eq_true rfl) (fun z => aE_loc (ls' := [_, _, _, _, _, _, _]) rfl ?_)
  refine aE_iconst (v := -1) dX12_nextStop_0 rfl ?_
  refine aE_istore_n dX12_nextStop_1 rfl (by decide) rfl (aE_loc (ls' := [_, _, _, _, _, _, _]) rfl ?_)
  refine aE_ldc dX12_nextStop_2 ct_X12_192 ?_
  refine aE_istore dX12_nextStop_4 (by decide) rfl (aE_loc (ls' := [_, _, _, _, _, _, _]) rfl ?_)
  refine aE_iconst (v := 0) dX12_nextStop_6 rfl ?_
  refine aE_istore dX12_nextStop_7 (by decide) rfl (aE_loc (ls' := [_, _, _, _, _, _, _]) rfl ?_)
  exact l_next d c S bh hmd hS hbh htab ⟨rfl, rfl, rfl⟩ d.1 0 (by omega) _
theorem l_stopOf (d : pD) (c : pC) (S r k : Nat) (hmd : mdH I d.1 d.2.1 d.2.2.1) (hS : S < 1024) (htab : ∀ R, bdiff R S = 0 → ∀ g, g < d.1 → R.testBit g = true → I 122 (10 * R + g) = fS d c R g) (hk : k ≤ 10) (hQ : qi Q (rv (oS d c S k).2) I sp pl) : ∀ (e i : Nat), i + e = k → aE z mX12_stopOf (rK 2) Q 18 [some (.ref 101), some (.int (nI r)), some (.int (nI k)), some (.int (nI (oS d c S i).1)), some (.int (rv (oS d c S i).2)), some (.int (nI i))] [] (nn pl) (MM I sp pl) 0 0 := by
  have h10 := hmd.2.1
  intro e
  induction e with
  | zero =>
    intro i hi
    have hi : i = k := by omega
    subst hi
    refine aE_iload dX12_stopOf_18 rfl ?_
    refine aE_iload_n dX12_stopOf_20 rfl rfl ?_
    refine aE_icmp_ge (tgt := 53) dX12_stopOf_21 (by decide) (fun h21 => ?_) (fun h21 => absurd (Int32.le_refl _) h21)
    refine aE_iload dX12_stopOf_53 rfl ?_
    refine aE_iret dX12_stopOf_55 rfl ⟨by decide, by decide⟩ ?_
    exact hQ
  | succ e ih =>
    intro i hi
    cases hn : (oS d c S i).2 with
    | none =>
      have stay : ∀ j, (oS d c S (i + j)).2 = none := by
        intro j
        induction j with
        | zero => exact hn
        | succ j ihj => show (match (oS d c S (i + j)).2 with | none => oS d c S (i + j) | some g => _).2 = none; rw [ihj]; exact ihj
      have hkn : (oS d c S k).2 = none := by rw [show k = i + (e + 1) by omega]; exact stay _
      refine aE_iload dX12_stopOf_18 rfl ?_
      refine aE_iload_n dX12_stopOf_20 rfl rfl ?_
      refine aE_icmp_ge (tgt := 53) dX12_stopOf_21 (by decide) (fun h21 => absurd h21 (nI_ge (by omega) (by omega))) (fun h21 => ?_)
      refine aE_iload dX12_stopOf_24 rfl ?_
      refine aE_if_lt (tgt := 53) dX12_stopOf_26 (by decide) (fun h26 => ?_) (fun h26 => absurd (by decide) h26)
      refine aE_iload dX12_stopOf_53 rfl ?_
      refine aE_iret dX12_stopOf_55 rfl ⟨by decide, by decide⟩ ?_
      rw [hkn] at hQ; exact hQ
    | some g =>
      have hsub := oS_sub (d := d) (c := c) (S := S) i
      have hLS := bsub_le hsub
      have hg : g < d.1 := by
        cases i with
        | zero => exact (nxt_tb hn).1
        | succ i =>
          have := hn
          unfold oS at this
          cases h2 : (oS d c S i).2 with
          | none => rw [h2] at this; simp only at this; rw [h2] at this; cases this
          | some g2 => rw [h2] at this; exact (nxt_tb this).1
      have es : oS d c S (i + 1) = (bdiff (oS d c S i).1 (2 ^ g), nxt d c (bdiff (oS d c S i).1 (2 ^ g)) (some g)) := by
        show (match (oS d c S i).2 with | none => oS d c S i | some g => _) = _
        rw [hn]
      have ih2 := ih (i + 1) (by omega)
      rw [es] at ih2
      have hle := bdiff_le (oS d c S i).1 (2 ^ g)
      refine aE_iload dX12_stopOf_18 rfl ?_
      refine aE_iload_n dX12_stopOf_20 rfl rfl ?_
      refine aE_icmp_ge (tgt := 53) dX12_stopOf_21 (by decide) (fun h21 => absurd h21 (nI_ge (by omega) (by omega))) (fun h21 => ?_)
      refine aE_iload dX12_stopOf_24 rfl ?_
      refine aE_if_lt (tgt := 53) dX12_stopOf_26 (by decide) (fun h26 => absurd h26 (nI_pos (by omega))) (fun h26 => ?_)
      refine aE_iload_n dX12_stopOf_29 rfl rfl ?_
      refine aE_iconst (v := 1) dX12_stopOf_30 rfl ?_
      refine aE_iload dX12_stopOf_31 rfl ?_
      refine aE_ishl dX12_stopOf_33 ?_
      refine aE_top (nb_1shl (by omega)) ?_
      refine aE_iconst (v := -1) dX12_stopOf_34 rfl ?_
      refine aE_ixor dX12_stopOf_35 ?_
      refine aE_iand dX12_stopOf_36 ?_
      refine aE_top (nb_andn _ _) ?_
      refine aE_istore_n dX12_stopOf_37 rfl (by decide) rfl (aE_loc (ls' := [_, _, _, _, _, _]) rfl ?_)
      refine aE_aload_n dX12_stopOf_38 rfl rfl ?_
      refine aE_iload_n dX12_stopOf_39 rfl rfl ?_
      refine aE_iload dX12_stopOf_40 rfl ?_
      refine aE_cVi dX12_stopOf_42 lk_X12_246 mv_X12_nextStop (m_nextStop d c (bdiff (oS d c S i).1 (2 ^ g)) (some g) hmd (by omega) (fun b hb => by cases hb; exact hg) (fun g2 h1 h2 => htab _ (bsub_tr (bdiff_sub _ _) hsub) g2 h1 h2)) rfl (lt_nn (by decide)) rfl rfl ⟨by decide, by decide⟩ (Nat.le_of_ble_eq_true rfl) ⟨rfl, rfl⟩ ⟨by decide, by decide⟩ ?_
      refine aE_istore dX12_stopOf_45 (by decide) rfl (aE_loc (ls' := [_, _, _, _, _, _]) rfl ?_)
      refine aE_iinc dX12_stopOf_47 rfl (a_inc _) (by decide) rfl (aE_loc (ls' := [_, _, _, _, _, _]) rfl ?_)
      refine aE_goto (tgt := 18) dX12_stopOf_50 (by decide) ?_
      exact ih2
theorem m_stopOf (d : pD) (c : pC) (S r k : Nat) (hmd : mdH I d.1 d.2.1 d.2.2.1) (hS : S < 1024) (htab : ∀ R, bdiff R S = 0 → ∀ g, g < d.1 → R.testBit g = true → I 122 (10 * R + g) = fS d c R g) (hr : r < 10) (hrs : I 127 r = nI S) (hk : k ≤ 10) : aRuns mX12_stopOf (rK 2) [.ref 101, .int (nI r), .int (nI k)] (nn pl) (MM I sp pl) (a_ri (rv (oS d c S k).2) (nn pl) (MM I sp pl)) := by
  refine aRuns_of pn_X12_stopOf (Nat.le_of_ble_eq_true rfl) (fun z => aE_loc (ls' := [_, _, _, _, _, _]) rfl ?_)
  refine aE_aload_n dX12_stopOf_0 rfl rfl ?_
  refine aE_getf (v := .ref 127) dX12_stopOf_1 fw_X12_93 (lt_nn (by decide)) rfl rfl ?_
  refine aE_iload_n dX12_stopOf_4 rfl rfl ?_
  refine aE_ildM dX12_stopOf_5 (lt_nn (by decide)) rfl (by decide) rfl hr ?_
  refine aE_top hrs ?_
  refine aE_istore_n dX12_stopOf_6 rfl (by decide) rfl (aE_loc (ls' := [_, _, _, _, _, _]) rfl ?_)
  refine aE_aload_n dX12_stopOf_7 rfl rfl ?_
  refine aE_iload_n dX12_stopOf_8 rfl rfl ?_
  refine aE_iconst (v := -1) dX12_stopOf_9 rfl ?_
  refine aE_cVi dX12_stopOf_10 lk_X12_246 mv_X12_nextStop (m_nextStop d c S none hmd hS (fun b hb => by cases hb) (fun g h1 h2 => htab S (bdiff_self S) g h1 h2)) rfl (lt_nn (by decide)) rfl rfl ⟨by decide, by decide⟩ (Nat.le_of_ble_eq_true rfl) ⟨rfl, rfl⟩ ⟨by decide, by decide⟩ ?_
  refine aE_istore dX12_stopOf_13 (by decide) rfl (aE_loc (ls' := [_, _, _, _, _, _]) rfl ?_)
  refine aE_iconst (v := 0) dX12_stopOf_15 rfl ?_
  refine aE_istore dX12_stopOf_16 (by decide) rfl (aE_loc (ls' := [_, _, _, _, _, _]) rfl ?_)
  exact l_stopOf d c S r k hmd hS htab hk ⟨rfl, rfl, rfl⟩ k 0 (by omega)
end MORD
