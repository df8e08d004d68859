/-- e ints of a row from b on set to 0 -/
def zrI (I : Nat → Nat → Int32) (a b e : Nat) : Nat → Nat → Int32 := fun q i => if q = a ∧ b ≤ i ∧ i < b + e then 0 else I q i
theorem zrI_0 (I : Nat → Nat → Int32) (a b : Nat) : zrI I a b 0 = I := by
  funext q i; unfold zrI; rw [if_neg (by omega)]
theorem zrI_s (I : Nat → Nat → Int32) (a b k : Nat) : iu (zrI I a b k) a (b + k) 0 = zrI I a b (k + 1) := by
  funext q i
  unfold iu zrI
  by_cases h : q = a ∧ i = b + k
  · rw [if_pos h, if_pos (by omega)]
  · rw [if_neg h]
    by_cases h2 : q = a ∧ b ≤ i ∧ i < b + k
    · rw [if_pos h2, if_pos (by omega)]
    · rw [if_neg h2, if_neg (by omega)]
theorem zrI_o {I : Nat → Nat → Int32} {a b e q i : Nat} (h : q ≠ a) : zrI I a b e q i = I q i := by
  unfold zrI; rw [if_neg (fun w => h w.1)]
theorem hld_f {f n c : Int32} (h : f < 0) : hldV f n c = 0 := by
  unfold hldV; rw [if_neg (fun q => absurd h (Int32.not_lt.mpr q.1))]
theorem hld_n {f n c : Int32} (h : n < 0) : hldV f n c = 0 := by
  unfold hldV; rw [if_neg (fun q => absurd h (Int32.not_lt.mpr q.2.1))]
theorem hld_b {p m c : Nat} (hp : p < 2 ^ 31) (hm : m < 2 ^ 31) (hc : c ≤ 1000) (h : c < p + m) : hldV (nI p) (nI m) (nI c) = 0 := by
  rcases hldV_or (nI p) (nI m) (nI c) with e | e
  · exact e
  · obtain ⟨p', m', e1, e2, e3⟩ := hldV_1 hc (fun q => by rw [q] at e; exact absurd e (by decide))
    have h1 : p' ≤ 1000 := by omega
    have h2 : m' ≤ 1000 := by omega
    have a1 := (nI_eq hp (by omega)).mp e1
    have a2 := (nI_eq hm (by omega)).mp e2
    omega
theorem lgc_gt {a b : Nat} (ha : a < 2 ^ 63) (hb : b < 2 ^ 63) : 0 < lg_cmp (lN a) (lN b) ↔ b < a := by
  rw [lg_cmp_gt, pk_lLT hb ha]
theorem lgc_le {a b : Nat} (ha : a < 2 ^ 63) (hb : b < 2 ^ 63) : lg_cmp (lN a) (lN b) ≤ 0 ↔ a ≤ b := by
  rw [lg_cmp_le, pk_lLE ha hb]
section MB4
variable {z : Nat × (Nat → Int32)} {n : Nat} {mem : aM} {I : Nat → Nat → Int32} {sp : Nat → Nat} {pl : Bool} {Q : Option Value → Nat → aM → Prop} {R : Room}
set_option maxRecDepth 20000 in
theorem m_isSheet (v : Int32)  : aRuns mX12_isSheet (rK 1) [.int v] n mem (a_ri (wi v 0 3) n mem) := by
  refine aRuns_of pn_X12_isSheet (Nat.le_of_ble_eq_true rfl) (fun z => aE_loc (ls' := [_]) rfl ?_)
  refine aE_iload_n dX12_isSheet_0 rfl rfl ?_
  refine aE_iconst (v := 0) dX12_isSheet_1 rfl ?_
  refine aE_iconst (v := 3) dX12_isSheet_2 rfl ?_
  refine aE_cSi dX12_isSheet_3 lk_X12_159 ms_X12_in (c_in _ _ _) rfl rfl ⟨by decide, by decide⟩ (Nat.le_of_ble_eq_true rfl) ⟨rfl, rfl⟩ ⟨by decide, by decide⟩ ?_
  refine aE_zret dX12_isSheet_6 rfl (by first | exact Or.inl rfl | exact Or.inr rfl | exact wi_or _ _ _ | assumption) ⟨by decide, by decide⟩ ?_
  exact ⟨rfl, rfl, rfl⟩

theorem l_msheet (j m : Nat) (x y v : Int32) (hj : j < 4) (hQ : qi Q (I 119 j) (zrI I 120 (10 * j) 10) sp pl) : ∀ (d k : Nat), k + d = 10 → aE z mX12_sheet (rK 2) Q 86 [some (.ref 101), some (.int (nI j)), some (.int x), some (.int y), some (.int (nI k))] [] (nn pl) (MM (zrI I 120 (10 * j) k) sp pl) 0 0 := by
  intro d
  induction d with
  | zero =>
    intro k hk
    have hk : k = 10 := by omega
    subst hk
    refine aE_iload dX12_sheet_86 rfl ?_
    refine aE_bipush (v := 10) dX12_sheet_88 (by decide) ?_
    refine aE_icmp_ge (tgt := 112) dX12_sheet_90 (by decide) (fun h90 => ?_) (fun h90 => absurd (by decide) h90)
    refine aE_aload_n dX12_sheet_112 rfl rfl ?_
    refine aE_getf (v := .ref 119) dX12_sheet_113 fw_X12_69 (lt_nn (by decide)) rfl rfl ?_
    refine aE_iload_n dX12_sheet_116 rfl rfl ?_
    refine aE_ildM dX12_sheet_117 (lt_nn (by decide)) rfl (by decide) rfl hj ?_
    refine aE_iret dX12_sheet_118 rfl ⟨by decide, by decide⟩ ?_
    rw [zrI_o (by decide)]; exact hQ
  | succ d ih =>
    intro k hk
    refine aE_iload dX12_sheet_86 rfl ?_
    refine aE_bipush (v := 10) dX12_sheet_88 (by decide) ?_
    refine aE_icmp_ge (tgt := 112) dX12_sheet_90 (by decide) (fun h90 => absurd h90 (nI_ge (b := 10) (by omega) (by omega))) (fun h90 => ?_)
    refine aE_aload_n dX12_sheet_93 rfl rfl ?_
    refine aE_getf (v := .ref 120) dX12_sheet_94 fw_X12_72 (lt_nn (by decide)) rfl rfl ?_
    refine aE_bipush (v := 10) dX12_sheet_97 (by decide) ?_
    refine aE_iload_n dX12_sheet_99 rfl rfl ?_
    refine aE_imul dX12_sheet_100 ?_
    refine aE_top (x' := nI (10 * j)) (by rw [show (10 : Int32) = nI 10 from rfl, pk_mul]) ?_
    refine aE_iload dX12_sheet_101 rfl ?_
    refine aE_iadd dX12_sheet_103 ?_
    refine aE_top (nI_add (10 * j) k) ?_
    refine aE_iconst (v := 0) dX12_sheet_104 rfl ?_
    refine aE_istM dX12_sheet_105 (lt_nn (by decide)) rfl (by decide) rfl (by omega) ?_
    refine aE_I (zrI_s I 120 (10 * j) k) ?_
    refine aE_iinc dX12_sheet_106 rfl (a_inc _) (by decide) rfl (aE_loc (ls' := [_, _, _, _, _]) rfl ?_)
    refine aE_goto (tgt := 86) dX12_sheet_109 (by decide) ?_
    exact ih (k + 1) (by omega)
set_option maxRecDepth 20000 in
theorem m_sheet (v b n : Int32) (hB : (wi v 0 3 = 0 ∨ ¬ (b = 0 ∨ b = 8 ∨ b = 16 ∨ b = 32)) → qi Q (-1000001) (fndM I) sp pl) (hS : ¬ wi v 0 3 = 0 → (b = 0 ∨ b = 8 ∨ b = 16 ∨ b = 32) → n < 0 → qi Q (-1000006) (fndM I) sp pl) (hL : ¬ wi v 0 3 = 0 → (b = 0 ∨ b = 8 ∨ b = 16 ∨ b = 32) → 0 ≤ n → ¬ n ≤ 10 → qi Q (-1000001) (fndM I) sp pl) (hO : ∀ j m, j < 4 → m ≤ 10 → v = nI j → n = nI m → (b = 0 ∨ b = 8 ∨ b = 16 ∨ b = 32) → qi Q (if b = 0 then 0 else nI m) (zrI (iu (iu I 118 j b) 119 j (if b = 0 then 0 else nI m)) 120 (10 * j) 10) sp pl) : aRuns mX12_sheet (rK 2) [.ref 101, .int v, .int b, .int n] (nn pl) (MM I sp pl) (Q) := by
  refine aRuns_of pn_X12_sheet (Nat.le_of_ble_eq_true rfl) (fun z => aE_loc (ls' := [_, _, _, _, _]) rfl ?_)
  refine aE_iload_n dX12_sheet_0 rfl rfl ?_
  refine aE_cSi dX12_sheet_1 lk_X12_322 ms_X12_isSheet (m_isSheet _) rfl rfl ⟨by decide, by decide⟩ (Nat.le_of_ble_eq_true rfl) ⟨rfl, rfl⟩ ⟨by decide, by decide⟩ ?_
  refine aE_if_eq (tgt := 29) dX12_sheet_4 (by decide) (fun h4 => ?_) (fun h4 => ?_)
  · skip
    refine aE_aload_n dX12_sheet_29 rfl rfl ?_
    refine aE_ldc dX12_sheet_30 ct_X12_185 ?_
    refine aE_cVi dX12_sheet_32 lk_X12_177 mv_X12_finds (c_finds _) rfl (lt_nn (by decide)) rfl rfl ⟨by decide, by decide⟩ (Nat.le_of_ble_eq_true rfl) ⟨rfl, rfl⟩ ⟨by decide, by decide⟩ ?_
    refine aE_iret dX12_sheet_35 rfl ⟨by decide, by decide⟩ ?_
    exact hB (by first | exact Or.inl h4 | exact Or.inr (fun q => q.elim h8 (fun q => q.elim h14 (fun q => q.elim h20 h26))))
  · skip
    refine aE_iload_n dX12_sheet_7 rfl rfl ?_
    refine aE_if_eq (tgt := 36) dX12_sheet_8 (by decide) (fun h8 => ?_) (fun h8 => ?_)
    · skip
      refine aE_iload_n dX12_sheet_36 rfl rfl ?_
      refine aE_if_ge (tgt := 48) dX12_sheet_37 (by decide) (fun h37 => ?_) (fun h37 => ?_)
      · skip
        refine aE_iload_n dX12_sheet_48 rfl rfl ?_
        refine aE_bipush (v := 10) dX12_sheet_49 (by decide) ?_
        refine aE_icmp_le (tgt := 61) dX12_sheet_51 (by decide) (fun h51 => ?_) (fun h51 => ?_)
        · skip
          obtain ⟨j, hj3, rfl⟩ := wi_c (m := 3) (by decide) (M := 3) rfl h4
          have hj : j < 4 := by omega
          obtain ⟨m, hm, rfl⟩ := nI_of2 (M := 10) (n := 10) rfl (Int32.not_lt.mpr h37) h51
          refine aE_aload_n dX12_sheet_61 rfl rfl ?_
          refine aE_getf (v := .ref 118) dX12_sheet_62 fw_X12_66 (lt_nn (by decide)) rfl rfl ?_
          refine aE_iload_n dX12_sheet_65 rfl rfl ?_
          refine aE_iload_n dX12_sheet_66 rfl rfl ?_
          refine aE_istM dX12_sheet_67 (lt_nn (by decide)) rfl (by decide) rfl hj ?_
          refine aE_aload_n dX12_sheet_68 rfl rfl ?_
          refine aE_getf (v := .ref 119) dX12_sheet_69 fw_X12_69 (lt_nn (by decide)) rfl rfl ?_
          refine aE_iload_n dX12_sheet_72 rfl rfl ?_
          refine aE_iload_n dX12_sheet_73 rfl rfl ?_
          refine aE_if_ne (tgt := 81) dX12_sheet_74 (by decide) (fun h74 => ?_) (fun h74 => ?_)
          · skip
            refine aE_iload_n dX12_sheet_81 rfl rfl ?_
            refine aE_top (x' := if b = 0 then 0 else nI m) (by first | rw [if_pos h74] | rw [if_neg h74]) ?_
            refine aE_istM dX12_sheet_82 (lt_nn (by decide)) rfl (by decide) rfl hj ?_
            refine aE_iconst (v := 0) dX12_sheet_83 rfl ?_
            refine aE_istore dX12_sheet_84 (by decide) rfl (aE_loc (ls' := [_, _, _, _, _]) rfl ?_)
            refine aE_I (I' := zrI (iu (iu I 118 j b) 119 j (if b = 0 then 0 else nI m)) 120 (10 * j) 0) (zrI_0 _ _ _).symm ?_
            refine l_msheet j m _ _ 0 hj ?_ 10 0 (by omega)
            rw [iu_eq]
            exact hO j m hj hm rfl rfl (by first | exact Or.inl h8 | exact Or.inr (Or.inl h14) | exact Or.inr (Or.inr (Or.inl h20)) | exact Or.inr (Or.inr (Or.inr h26)))
          · skip
            refine aE_iconst (v := 0) dX12_sheet_77 rfl ?_
            refine aE_goto (tgt := 82) dX12_sheet_78 (by decide) ?_
            refine aE_top (x' := if b = 0 then 0 else nI m) (by first | rw [if_pos h74] | rw [if_neg h74]) ?_
            refine aE_istM dX12_sheet_82 (lt_nn (by decide)) rfl (by decide) rfl hj ?_
            refine aE_iconst (v := 0) dX12_sheet_83 rfl ?_
            refine aE_istore dX12_sheet_84 (by decide) rfl (aE_loc (ls' := [_, _, _, _, _]) rfl ?_)
            refine aE_I (I' := zrI (iu (iu I 118 j b) 119 j (if b = 0 then 0 else nI m)) 120 (10 * j) 0) (zrI_0 _ _ _).symm ?_
            refine l_msheet j m _ _ 0 hj ?_ 10 0 (by omega)
            rw [iu_eq]
            exact hO j m hj hm rfl rfl (by first | exact Or.inl h8 | exact Or.inr (Or.inl h14) | exact Or.inr (Or.inr (Or.inl h20)) | exact Or.inr (Or.inr (Or.inr h26)))
        · skip
          refine aE_aload_n dX12_sheet_54 rfl rfl ?_
          refine aE_ldc dX12_sheet_55 ct_X12_185 ?_
          refine aE_cVi dX12_sheet_57 lk_X12_177 mv_X12_finds (c_finds _) rfl (lt_nn (by decide)) rfl rfl ⟨by decide, by decide⟩ (Nat.le_of_ble_eq_true rfl) ⟨rfl, rfl⟩ ⟨by decide, by decide⟩ ?_
          refine aE_iret dX12_sheet_60 rfl ⟨by decide, by decide⟩ ?_
          exact hL h4 (by first | exact Or.inl h8 | exact Or.inr (Or.inl h14) | exact Or.inr (Or.inr (Or.inl h20)) | exact Or.inr (Or.inr (Or.inr h26))) h37 h51
      · skip
        refine aE_aload_n dX12_sheet_40 rfl rfl ?_
        refine aE_ldcw dX12_sheet_41 ct_X12_325 ?_
        refine aE_cVi dX12_sheet_44 lk_X12_177 mv_X12_finds (c_finds _) rfl (lt_nn (by decide)) rfl rfl ⟨by decide, by decide⟩ (Nat.le_of_ble_eq_true rfl) ⟨rfl, rfl⟩ ⟨by decide, by decide⟩ ?_
        refine aE_iret dX12_sheet_47 rfl ⟨by decide, by decide⟩ ?_
        exact hS h4 (by first | exact Or.inl h8 | exact Or.inr (Or.inl h14) | exact Or.inr (Or.inr (Or.inl h20)) | exact Or.inr (Or.inr (Or.inr h26))) (Int32.not_le.mp h37)
    · skip
      refine aE_iload_n dX12_sheet_11 rfl rfl ?_
      refine aE_bipush (v := 8) dX12_sheet_12 (by decide) ?_
      refine aE_icmp_eq (tgt := 36) dX12_sheet_14 (by decide) (fun h14 => ?_) (fun h14 => ?_)
      · skip
        refine aE_iload_n dX12_sheet_36 rfl rfl ?_
        refine aE_if_ge (tgt := 48) dX12_sheet_37 (by decide) (fun h37 => ?_) (fun h37 => ?_)
        · skip
          refine aE_iload_n dX12_sheet_48 rfl rfl ?_
          refine aE_bipush (v := 10) dX12_sheet_49 (by decide) ?_
          refine aE_icmp_le (tgt := 61) dX12_sheet_51 (by decide) (fun h51 => ?_) (fun h51 => ?_)
          · skip
            obtain ⟨j, hj3, rfl⟩ := wi_c (m := 3) (by decide) (M := 3) rfl h4
            have hj : j < 4 := by omega
            obtain ⟨m, hm, rfl⟩ := nI_of2 (M := 10) (n := 10) rfl (Int32.not_lt.mpr h37) h51
            refine aE_aload_n dX12_sheet_61 rfl rfl ?_
            refine aE_getf (v := .ref 118) dX12_sheet_62 fw_X12_66 (lt_nn (by decide)) rfl rfl ?_
            refine aE_iload_n dX12_sheet_65 rfl rfl ?_
            refine aE_iload_n dX12_sheet_66 rfl rfl ?_
            refine aE_istM dX12_sheet_67 (lt_nn (by decide)) rfl (by decide) rfl hj ?_
            refine aE_aload_n dX12_sheet_68 rfl rfl ?_
            refine aE_getf (v := .ref 119) dX12_sheet_69 fw_X12_69 (lt_nn (by decide)) rfl rfl ?_
            refine aE_iload_n dX12_sheet_72 rfl rfl ?_
            refine aE_iload_n dX12_sheet_73 rfl rfl ?_
            refine aE_if_ne (tgt := 81) dX12_sheet_74 (by decide) (fun h74 => ?_) (fun h74 => ?_)
            · skip
              refine aE_iload_n dX12_sheet_81 rfl rfl ?_
              refine aE_top (x' := if b = 0 then 0 else nI m) (by first | rw [if_pos h74] | rw [if_neg h74]) ?_
              refine aE_istM dX12_sheet_82 (lt_nn (by decide)) rfl (by decide) rfl hj ?_
              refine aE_iconst (v := 0) dX12_sheet_83 rfl ?_
              refine aE_istore dX12_sheet_84 (by decide) rfl (aE_loc (ls' := [_, _, _, _, _]) rfl ?_)
              refine aE_I (I' := zrI (iu (iu I 118 j b) 119 j (if b = 0 then 0 else nI m)) 120 (10 * j) 0) (zrI_0 _ _ _).symm ?_
              refine l_msheet j m _ _ 0 hj ?_ 10 0 (by omega)
              rw [iu_eq]
              exact hO j m hj hm rfl rfl (by first | exact Or.inl h8 | exact Or.inr (Or.inl h14) | exact Or.inr (Or.inr (Or.inl h20)) | exact Or.inr (Or.inr (Or.inr h26)))
            · skip
              refine aE_iconst (v := 0) dX12_sheet_77 rfl ?_
              refine aE_goto (tgt := 82) dX12_sheet_78 (by decide) ?_
              refine aE_top (x' := if b = 0 then 0 else nI m) (by first | rw [if_pos h74] | rw [if_neg h74]) ?_
              refine aE_istM dX12_sheet_82 (lt_nn (by decide)) rfl (by decide) rfl hj ?_
              refine aE_iconst (v := 0) dX12_sheet_83 rfl ?_
              refine aE_istore dX12_sheet_84 (by decide) rfl (aE_loc (ls' := [_, _, _, _, _]) rfl ?_)
              refine aE_I (I' := zrI (iu (iu I 118 j b) 119 j (if b = 0 then 0 else nI m)) 120 (10 * j) 0) (zrI_0 _ _ _).symm ?_
              refine l_msheet j m _ _ 0 hj ?_ 10 0 (by omega)
              rw [iu_eq]
              exact hO j m hj hm rfl rfl (by first | exact Or.inl h8 | exact Or.inr (Or.inl h14) | exact Or.inr (Or.inr (Or.inl h20)) | exact Or.inr (Or.inr (Or.inr h26)))
          · skip
            refine aE_aload_n dX12_sheet_54 rfl rfl ?_
            refine aE_ldc dX12_sheet_55 ct_X12_185 ?_
            refine aE_cVi dX12_sheet_57 lk_X12_177 mv_X12_finds (c_finds _) rfl (lt_nn (by decide)) rfl rfl ⟨by decide, by decide⟩ (Nat.le_of_ble_eq_true rfl) ⟨rfl, rfl⟩ ⟨by decide, by decide⟩ ?_
            refine aE_iret dX12_sheet_60 rfl ⟨by decide, by decide⟩ ?_
            exact hL h4 (by first | exact Or.inl h8 | exact Or.inr (Or.inl h14) | exact Or.inr (Or.inr (Or.inl h20)) | exact Or.inr (Or.inr (Or.inr h26))) h37 h51
        · skip
          refine aE_aload_n dX12_sheet_40 rfl rfl ?_
          refine aE_ldcw dX12_sheet_41 ct_X12_325 ?_
          refine aE_cVi dX12_sheet_44 lk_X12_177 mv_X12_finds (c_finds _) rfl (lt_nn (by decide)) rfl rfl ⟨by decide, by decide⟩ (Nat.le_of_ble_eq_true rfl) ⟨rfl, rfl⟩ ⟨by decide, by decide⟩ ?_
          refine aE_iret dX12_sheet_47 rfl ⟨by decide, by decide⟩ ?_
          exact hS h4 (by first | exact Or.inl h8 | exact Or.inr (Or.inl h14) | exact Or.inr (Or.inr (Or.inl h20)) | exact Or.inr (Or.inr (Or.inr h26))) (Int32.not_le.mp h37)
      · skip
        refine aE_iload_n dX12_sheet_17 rfl rfl ?_
        refine aE_bipush (v := 16) dX12_sheet_18 (by decide) ?_
        refine aE_icmp_eq (tgt := 36) dX12_sheet_20 (by decide) (fun h20 => ?_) (fun h20 => ?_)
        · skip
          refine aE_iload_n dX12_sheet_36 rfl rfl ?_
          refine aE_if_ge (tgt := 48) dX12_sheet_37 (by decide) (fun h37 => ?_) (fun h37 => ?_)
          · skip
            refine aE_iload_n dX12_sheet_48 rfl rfl ?_
            refine aE_bipush (v := 10) dX12_sheet_49 (by decide) ?_
            refine aE_icmp_le (tgt := 61) dX12_sheet_51 (by decide) (fun h51 => ?_) (fun h51 => ?_)
            · skip
              obtain ⟨j, hj3, rfl⟩ := wi_c (m := 3) (by decide) (M := 3) rfl h4
              have hj : j < 4 := by omega
              obtain ⟨m, hm, rfl⟩ := nI_of2 (M := 10) (n := 10) rfl (Int32.not_lt.mpr h37) h51
              refine aE_aload_n dX12_sheet_61 rfl rfl ?_
              refine aE_getf (v := .ref 118) dX12_sheet_62 fw_X12_66 (lt_nn (by decide)) rfl rfl ?_
              refine aE_iload_n dX12_sheet_65 rfl rfl ?_
              refine aE_iload_n dX12_sheet_66 rfl rfl ?_
              refine aE_istM dX12_sheet_67 (lt_nn (by decide)) rfl (by decide) rfl hj ?_
              refine aE_aload_n dX12_sheet_68 rfl rfl ?_
              refine aE_getf (v := .ref 119) dX12_sheet_69 fw_X12_69 (lt_nn (by decide)) rfl rfl ?_
              refine aE_iload_n dX12_sheet_72 rfl rfl ?_
              refine aE_iload_n dX12_sheet_73 rfl rfl ?_
              refine aE_if_ne (tgt := 81) dX12_sheet_74 (by decide) (fun h74 => ?_) (fun h74 => ?_)
              · skip
                refine aE_iload_n dX12_sheet_81 rfl rfl ?_
                refine aE_top (x' := if b = 0 then 0 else nI m) (by first | rw [if_pos h74] | rw [if_neg h74]) ?_
                refine aE_istM dX12_sheet_82 (lt_nn (by decide)) rfl (by decide) rfl hj ?_
                refine aE_iconst (v := 0) dX12_sheet_83 rfl ?_
                refine aE_istore dX12_sheet_84 (by decide) rfl (aE_loc (ls' := [_, _, _, _, _]) rfl ?_)
                refine aE_I (I' := zrI (iu (iu I 118 j b) 119 j (if b = 0 then 0 else nI m)) 120 (10 * j) 0) (zrI_0 _ _ _).symm ?_
                refine l_msheet j m _ _ 0 hj ?_ 10 0 (by omega)
                rw [iu_eq]
                exact hO j m hj hm rfl rfl (by first | exact Or.inl h8 | exact Or.inr (Or.inl h14) | exact Or.inr (Or.inr (Or.inl h20)) | exact Or.inr (Or.inr (Or.inr h26)))
              · skip
                refine aE_iconst (v := 0) dX12_sheet_77 rfl ?_
                refine aE_goto (tgt := 82) dX12_sheet_78 (by decide) ?_
                refine aE_top (x' := if b = 0 then 0 else nI m) (by first | rw [if_pos h74] | rw [if_neg h74]) ?_
                refine aE_istM dX12_sheet_82 (lt_nn (by decide)) rfl (by decide) rfl hj ?_
                refine aE_iconst (v := 0) dX12_sheet_83 rfl ?_
                refine aE_istore dX12_sheet_84 (by decide) rfl (aE_loc (ls' := [_, _, _, _, _]) rfl ?_)
                refine aE_I (I' := zrI (iu (iu I 118 j b) 119 j (if b = 0 then 0 else nI m)) 120 (10 * j) 0) (zrI_0 _ _ _).symm ?_
                refine l_msheet j m _ _ 0 hj ?_ 10 0 (by omega)
                rw [iu_eq]
                exact hO j m hj hm rfl rfl (by first | exact Or.inl h8 | exact Or.inr (Or.inl h14) | exact Or.inr (Or.inr (Or.inl h20)) | exact Or.inr (Or.inr (Or.inr h26)))
            · skip
              refine aE_aload_n dX12_sheet_54 rfl rfl ?_
              refine aE_ldc dX12_sheet_55 ct_X12_185 ?_
              refine aE_cVi dX12_sheet_57 lk_X12_177 mv_X12_finds (c_finds _) rfl (lt_nn (by decide)) rfl rfl ⟨by decide, by decide⟩ (Nat.le_of_ble_eq_true rfl) ⟨rfl, rfl⟩ ⟨by decide, by decide⟩ ?_
              refine aE_iret dX12_sheet_60 rfl ⟨by decide, by decide⟩ ?_
              exact hL h4 (by first | exact Or.inl h8 | exact Or.inr (Or.inl h14) | exact Or.inr (Or.inr (Or.inl h20)) | exact Or.inr (Or.inr (Or.inr h26))) h37 h51
          · skip
            refine aE_aload_n dX12_sheet_40 rfl rfl ?_
            refine aE_ldcw dX12_sheet_41 ct_X12_325 ?_
            refine aE_cVi dX12_sheet_44 lk_X12_177 mv_X12_finds (c_finds _) rfl (lt_nn (by decide)) rfl rfl ⟨by decide, by decide⟩ (Nat.le_of_ble_eq_true rfl) ⟨rfl, rfl⟩ ⟨by decide, by decide⟩ ?_
            refine aE_iret dX12_sheet_47 rfl ⟨by decide, by decide⟩ ?_
            exact hS h4 (by first | exact Or.inl h8 | exact Or.inr (Or.inl h14) | exact Or.inr (Or.inr (Or.inl h20)) | exact Or.inr (Or.inr (Or.inr h26))) (Int32.not_le.mp h37)
        · skip
          refine aE_iload_n dX12_sheet_23 rfl rfl ?_
          refine aE_bipush (v := 32) dX12_sheet_24 (by decide) ?_
          refine aE_icmp_eq (tgt := 36) dX12_sheet_26 (by decide) (fun h26 => ?_) (fun h26 => ?_)
          · skip
            refine aE_iload_n dX12_sheet_36 rfl rfl ?_
            refine aE_if_ge (tgt := 48) dX12_sheet_37 (by decide) (fun h37 => ?_) (fun h37 => ?_)
            · skip
              refine aE_iload_n dX12_sheet_48 rfl rfl ?_
              refine aE_bipush (v := 10) dX12_sheet_49 (by decide) ?_
              refine aE_icmp_le (tgt := 61) dX12_sheet_51 (by decide) (fun h51 => ?_) (fun h51 => ?_)
              · skip
                obtain ⟨j, hj3, rfl⟩ := wi_c (m := 3) (by decide) (M := 3) rfl h4
                have hj : j < 4 := by omega
                obtain ⟨m, hm, rfl⟩ := nI_of2 (M := 10) (n := 10) rfl (Int32.not_lt.mpr h37) h51
                refine aE_aload_n dX12_sheet_61 rfl rfl ?_
                refine aE_getf (v := .ref 118) dX12_sheet_62 fw_X12_66 (lt_nn (by decide)) rfl rfl ?_
                refine aE_iload_n dX12_sheet_65 rfl rfl ?_
                refine aE_iload_n dX12_sheet_66 rfl rfl ?_
                refine aE_istM dX12_sheet_67 (lt_nn (by decide)) rfl (by decide) rfl hj ?_
                refine aE_aload_n dX12_sheet_68 rfl rfl ?_
                refine aE_getf (v := .ref 119) dX12_sheet_69 fw_X12_69 (lt_nn (by decide)) rfl rfl ?_
                refine aE_iload_n dX12_sheet_72 rfl rfl ?_
                refine aE_iload_n dX12_sheet_73 rfl rfl ?_
                refine aE_if_ne (tgt := 81) dX12_sheet_74 (by decide) (fun h74 => ?_) (fun h74 => ?_)
                · skip
                  refine aE_iload_n dX12_sheet_81 rfl rfl ?_
                  refine aE_top (x' := if b = 0 then 0 else nI m) (by first | rw [if_pos h74] | rw [if_neg h74]) ?_
                  refine aE_istM dX12_sheet_82 (lt_nn (by decide)) rfl (by decide) rfl hj ?_
                  refine aE_iconst (v := 0) dX12_sheet_83 rfl ?_
                  refine aE_istore dX12_sheet_84 (by decide) rfl (aE_loc (ls' := [_, _, _, _, _]) rfl ?_)
                  refine aE_I (I' := zrI (iu (iu I 118 j b) 119 j (if b = 0 then 0 else nI m)) 120 (10 * j) 0) (zrI_0 _ _ _).symm ?_
                  refine l_msheet j m _ _ 0 hj ?_ 10 0 (by omega)
                  rw [iu_eq]
                  exact hO j m hj hm rfl rfl (by first | exact Or.inl h8 | exact Or.inr (Or.inl h14) | exact Or.inr (Or.inr (Or.inl h20)) | exact Or.inr (Or.inr (Or.inr h26)))
                · skip
                  refine aE_iconst (v := 0) dX12_sheet_77 rfl ?_
                  refine aE_goto (tgt := 82) dX12_sheet_78 (by decide) ?_
                  refine aE_top (x' := if b = 0 then 0 else nI m) (by first | rw [if_pos h74] | rw [if_neg h74]) ?_
                  refine aE_istM dX12_sheet_82 (lt_nn (by decide)) rfl (by decide) rfl hj ?_
                  refine aE_iconst (v := 0) dX12_sheet_83 rfl ?_
                  refine aE_istore dX12_sheet_84 (by decide) rfl (aE_loc (ls' := [_, _, _, _, _]) rfl ?_)
                  refine aE_I (I' := zrI (iu (iu I 118 j b) 119 j (if b = 0 then 0 else nI m)) 120 (10 * j) 0) (zrI_0 _ _ _).symm ?_
                  refine l_msheet j m _ _ 0 hj ?_ 10 0 (by omega)
                  rw [iu_eq]
                  exact hO j m hj hm rfl rfl (by first | exact Or.inl h8 | exact Or.inr (Or.inl h14) | exact Or.inr (Or.inr (Or.inl h20)) | exact Or.inr (Or.inr (Or.inr h26)))
              · skip
                refine aE_aload_n dX12_sheet_54 rfl rfl ?_
                refine aE_ldc dX12_sheet_55 ct_X12_185 ?_
                refine aE_cVi dX12_sheet_57 lk_X12_177 mv_X12_finds (c_finds _) rfl (lt_nn (by decide)) rfl rfl ⟨by decide, by decide⟩ (Nat.le_of_ble_eq_true rfl) ⟨rfl, rfl⟩ ⟨by decide, by decide⟩ ?_
                refine aE_iret dX12_sheet_60 rfl ⟨by decide, by decide⟩ ?_
                exact hL h4 (by first | exact Or.inl h8 | exact Or.inr (Or.inl h14) | exact Or.inr (Or.inr (Or.inl h20)) | exact Or.inr (Or.inr (Or.inr h26))) h37 h51
            · skip
              refine aE_aload_n dX12_sheet_40 rfl rfl ?_
              refine aE_ldcw dX12_sheet_41 ct_X12_325 ?_
              refine aE_cVi dX12_sheet_44 lk_X12_177 mv_X12_finds (c_finds _) rfl (lt_nn (by decide)) rfl rfl ⟨by decide, by decide⟩ (Nat.le_of_ble_eq_true rfl) ⟨rfl, rfl⟩ ⟨by decide, by decide⟩ ?_
              refine aE_iret dX12_sheet_47 rfl ⟨by decide, by decide⟩ ?_
              exact hS h4 (by first | exact Or.inl h8 | exact Or.inr (Or.inl h14) | exact Or.inr (Or.inr (Or.inl h20)) | exact Or.inr (Or.inr (Or.inr h26))) (Int32.not_le.mp h37)
          · skip
            refine aE_aload_n dX12_sheet_29 rfl rfl ?_
            refine aE_ldc dX12_sheet_30 ct_X12_185 ?_
            refine aE_cVi dX12_sheet_32 lk_X12_177 mv_X12_finds (c_finds _) rfl (lt_nn (by decide)) rfl rfl ⟨by decide, by decide⟩ (Nat.le_of_ble_eq_true rfl) ⟨rfl, rfl⟩ ⟨by decide, by decide⟩ ?_
            refine aE_iret dX12_sheet_35 rfl ⟨by decide, by decide⟩ ?_
            exact hB (by first | exact Or.inl h4 | exact Or.inr (fun q => q.elim h8 (fun q => q.elim h14 (fun q => q.elim h20 h26))))

set_option maxRecDepth 20000 in
theorem m_write (v i x : Int32) (cn : Nat → Nat) (hcn : ∀ j, j < 4 → cn j ≤ 10 ∧ I 119 j = nI (cn j)) (hB : wi v 0 3 = 0 → qi Q (-1000001) (fndM I) sp pl) (hM : ∀ j, j < 4 → v = nI j → I 118 j = 0 → qi Q (-1000005) (fndM I) sp pl) (hI : ∀ j, j < 4 → v = nI j → ¬ I 118 j = 0 → wi i 0 (I 119 j - 1) = 0 → qi Q (-1000001) (fndM I) sp pl) (hO : ∀ j k, j < 4 → k < cn j → v = nI j → i = nI k → ¬ I 118 j = 0 → qi Q (I 120 (10 * j + k)) (iu I 120 (10 * j + k) (cutB (I 118 j) x)) sp pl) : aRuns mX12_write (rK 2) [.ref 101, .int v, .int i, .int x] (nn pl) (MM I sp pl) (Q) := by
  refine aRuns_of pn_X12_write (Nat.le_of_ble_eq_true rfl) (fun z => aE_loc (ls' := [_, _, _, _, _]) rfl ?_)
  refine aE_iload_n dX12_write_0 rfl rfl ?_
  refine aE_cSi dX12_write_1 lk_X12_322 ms_X12_isSheet (m_isSheet _) rfl rfl ⟨by decide, by decide⟩ (Nat.le_of_ble_eq_true rfl) ⟨rfl, rfl⟩ ⟨by decide, by decide⟩ ?_
  refine aE_if_ne (tgt := 14) dX12_write_4 (by decide) (fun h4 => ?_) (fun h4 => ?_)
  · skip
    obtain ⟨j, hj3, rfl⟩ := wi_c (m := 3) (by decide) (M := 3) rfl h4
    have hj : j < 4 := by omega
    refine aE_aload_n dX12_write_14 rfl rfl ?_
    refine aE_getf (v := .ref 118) dX12_write_15 fw_X12_66 (lt_nn (by decide)) rfl rfl ?_
    refine aE_iload_n dX12_write_18 rfl rfl ?_
    refine aE_ildM dX12_write_19 (lt_nn (by decide)) rfl (by decide) rfl hj ?_
    refine aE_if_ne (tgt := 31) dX12_write_20 (by decide) (fun h20 => ?_) (fun h20 => ?_)
    · skip
      refine aE_iload_n dX12_write_31 rfl rfl ?_
      refine aE_iconst (v := 0) dX12_write_32 rfl ?_
      refine aE_aload_n dX12_write_33 rfl rfl ?_
      refine aE_getf (v := .ref 119) dX12_write_34 fw_X12_69 (lt_nn (by decide)) rfl rfl ?_
      refine aE_iload_n dX12_write_37 rfl rfl ?_
      refine aE_ildM dX12_write_38 (lt_nn (by decide)) rfl (by decide) rfl hj ?_
      refine aE_iconst (v := 1) dX12_write_39 rfl ?_
      refine aE_isub dX12_write_40 ?_
      refine aE_cSi dX12_write_41 lk_X12_159 ms_X12_in (c_in _ _ _) rfl rfl ⟨by decide, by decide⟩ (Nat.le_of_ble_eq_true rfl) ⟨rfl, rfl⟩ ⟨by decide, by decide⟩ ?_
      refine aE_if_ne (tgt := 54) dX12_write_44 (by decide) (fun h44 => ?_) (fun h44 => ?_)
      · skip
        obtain ⟨k, hk, rfl⟩ := wi_ix (m := cn j) (by have := (hcn j hj).1; omega) ((hcn j hj).2 ▸ h44)
        have hc10 := (hcn j hj).1
        refine aE_aload_n dX12_write_54 rfl rfl ?_
        refine aE_getf (v := .ref 120) dX12_write_55 fw_X12_72 (lt_nn (by decide)) rfl rfl ?_
        refine aE_bipush (v := 10) dX12_write_58 (by decide) ?_
        refine aE_iload_n dX12_write_60 rfl rfl ?_
        refine aE_imul dX12_write_61 ?_
        refine aE_top (x' := nI (10 * j)) (by rw [show (10 : Int32) = nI 10 from rfl, pk_mul]) ?_
        refine aE_iload_n dX12_write_62 rfl rfl ?_
        refine aE_iadd dX12_write_63 ?_
        refine aE_top (nI_add (10 * j) k) ?_
        refine aE_ildM dX12_write_64 (lt_nn (by decide)) rfl (by decide) rfl (by omega) ?_
        refine aE_istore dX12_write_65 (by decide) rfl (aE_loc (ls' := [_, _, _, _, _]) rfl ?_)
        refine aE_aload_n dX12_write_67 rfl rfl ?_
        refine aE_getf (v := .ref 120) dX12_write_68 fw_X12_72 (lt_nn (by decide)) rfl rfl ?_
        refine aE_bipush (v := 10) dX12_write_71 (by decide) ?_
        refine aE_iload_n dX12_write_73 rfl rfl ?_
        refine aE_imul dX12_write_74 ?_
        refine aE_top (x' := nI (10 * j)) (by rw [show (10 : Int32) = nI 10 from rfl, pk_mul]) ?_
        refine aE_iload_n dX12_write_75 rfl rfl ?_
        refine aE_iadd dX12_write_76 ?_
        refine aE_top (nI_add (10 * j) k) ?_
        refine aE_aload_n dX12_write_77 rfl rfl ?_
        refine aE_getf (v := .ref 118) dX12_write_78 fw_X12_66 (lt_nn (by decide)) rfl rfl ?_
        refine aE_iload_n dX12_write_81 rfl rfl ?_
        refine aE_ildM dX12_write_82 (lt_nn (by decide)) rfl (by decide) rfl hj ?_
        refine aE_bipush (v := 8) dX12_write_83 (by decide) ?_
        refine aE_icmp_ne (tgt := 93) dX12_write_85 (by decide) (fun h85 => ?_) (fun h85 => ?_)
        · skip
          refine aE_aload_n dX12_write_93 rfl rfl ?_
          refine aE_getf (v := .ref 118) dX12_write_94 fw_X12_66 (lt_nn (by decide)) rfl rfl ?_
          refine aE_iload_n dX12_write_97 rfl rfl ?_
          refine aE_ildM dX12_write_98 (lt_nn (by decide)) rfl (by decide) rfl hj ?_
          refine aE_bipush (v := 16) dX12_write_99 (by decide) ?_
          refine aE_icmp_ne (tgt := 109) dX12_write_101 (by decide) (fun h101 => ?_) (fun h101 => ?_)
          · skip
            refine aE_iload_n dX12_write_109 rfl rfl ?_
            refine aE_top (x' := cutB (I 118 j) x) (by unfold cutB; first | rw [if_pos h85] | rw [if_neg h85, if_pos h101] | rw [if_neg h85, if_neg h101]) ?_
            refine aE_istM dX12_write_110 (lt_nn (by decide)) rfl (by decide) rfl (by omega) ?_
            refine aE_iload dX12_write_111 rfl ?_
            refine aE_iret dX12_write_113 rfl ⟨by decide, by decide⟩ ?_
            exact hO j k hj hk rfl rfl h20
          · skip
            refine aE_iload_n dX12_write_104 rfl rfl ?_
            refine aE_i2s dX12_write_105 ?_
            refine aE_goto (tgt := 110) dX12_write_106 (by decide) ?_
            refine aE_top (x' := cutB (I 118 j) x) (by unfold cutB; first | rw [if_pos h85] | rw [if_neg h85, if_pos h101] | rw [if_neg h85, if_neg h101]) ?_
            refine aE_istM dX12_write_110 (lt_nn (by decide)) rfl (by decide) rfl (by omega) ?_
            refine aE_iload dX12_write_111 rfl ?_
            refine aE_iret dX12_write_113 rfl ⟨by decide, by decide⟩ ?_
            exact hO j k hj hk rfl rfl h20
        · skip
          refine aE_iload_n dX12_write_88 rfl rfl ?_
          refine aE_i2b dX12_write_89 ?_
          refine aE_goto (tgt := 110) dX12_write_90 (by decide) ?_
          refine aE_top (x' := cutB (I 118 j) x) (by unfold cutB; first | rw [if_pos h85] | rw [if_neg h85, if_pos h101] | rw [if_neg h85, if_neg h101]) ?_
          refine aE_istM dX12_write_110 (lt_nn (by decide)) rfl (by decide) rfl (by omega) ?_
          refine aE_iload dX12_write_111 rfl ?_
          refine aE_iret dX12_write_113 rfl ⟨by decide, by decide⟩ ?_
          exact hO j k hj hk rfl rfl h20
      · skip
        refine aE_aload_n dX12_write_47 rfl rfl ?_
        refine aE_ldc dX12_write_48 ct_X12_185 ?_
        refine aE_cVi dX12_write_50 lk_X12_177 mv_X12_finds (c_finds _) rfl (lt_nn (by decide)) rfl rfl ⟨by decide, by decide⟩ (Nat.le_of_ble_eq_true rfl) ⟨rfl, rfl⟩ ⟨by decide, by decide⟩ ?_
        refine aE_iret dX12_write_53 rfl ⟨by decide, by decide⟩ ?_
        exact hI j hj rfl h20 h44
    · skip
      refine aE_aload_n dX12_write_23 rfl rfl ?_
      refine aE_ldcw dX12_write_24 ct_X12_326 ?_
      refine aE_cVi dX12_write_27 lk_X12_177 mv_X12_finds (c_finds _) rfl (lt_nn (by decide)) rfl rfl ⟨by decide, by decide⟩ (Nat.le_of_ble_eq_true rfl) ⟨rfl, rfl⟩ ⟨by decide, by decide⟩ ?_
      refine aE_iret dX12_write_30 rfl ⟨by decide, by decide⟩ ?_
      exact hM j hj rfl h20
  · skip
    refine aE_aload_n dX12_write_7 rfl rfl ?_
    refine aE_ldc dX12_write_8 ct_X12_185 ?_
    refine aE_cVi dX12_write_10 lk_X12_177 mv_X12_finds (c_finds _) rfl (lt_nn (by decide)) rfl rfl ⟨by decide, by decide⟩ (Nat.le_of_ble_eq_true rfl) ⟨rfl, rfl⟩ ⟨by decide, by decide⟩ ?_
    refine aE_iret dX12_write_13 rfl ⟨by decide, by decide⟩ ?_
    exact hB h4

/-- len ints of a row from b on copied to the row c from d on -/
theorem cpI_0 (I : Nat → Nat → Int32) (a c b d : Nat) : cpI I a c b d 0 = I := by
  funext q i; unfold cpI; rw [if_neg (by omega)]
theorem cpI_o {I : Nat → Nat → Int32} {a c b d e q i : Nat} (h : q ≠ c) : cpI I a c b d e q i = I q i := by
  unfold cpI; rw [if_neg (fun w => h w.1)]
theorem cpI_s {I : Nat → Nat → Int32} {a c b d k : Nat} : iu (cpI I a c b d k) c (d + k) (I a (b + k)) = cpI I a c b d (k + 1) := by
  funext q i
  unfold iu cpI
  by_cases h : q = c ∧ i = d + k
  · obtain ⟨rfl, rfl⟩ := h
    rw [if_pos ⟨rfl, rfl⟩, if_pos (by omega), show b + (d + k - d) = b + k by omega]
  · rw [if_neg h]
    by_cases h2 : q = c ∧ d ≤ i ∧ i < d + k
    · rw [if_pos h2, if_pos (by omega)]
    · rw [if_neg h2, if_neg (by omega)]
theorem l_mcopy1 (j k p q m : Nat) (hj : j < 4) (hm : p + m ≤ 10) (k0 : aE z mX12_copy (rK 2) Q 162 [some (.ref 101), some (.int (nI j)), some (.int (nI p)), some (.int (nI k)), some (.int (nI q)), some (.int (nI m)), some (.int (nI m))] [] (nn pl) (MM (cpI I 120 146 (10 * j + p) 0 m) sp pl) 0 0) : ∀ (d e : Nat), e + d = m → aE z mX12_copy (rK 2) Q 128 [some (.ref 101), some (.int (nI j)), some (.int (nI p)), some (.int (nI k)), some (.int (nI q)), some (.int (nI m)), some (.int (nI e))] [] (nn pl) (MM (cpI I 120 146 (10 * j + p) 0 e) sp pl) 0 0 := by
  intro d
  induction d with
  | zero =>
    intro e he
    have he : e = m := by omega
    subst he
    refine aE_iload dX12_copy_128 rfl ?_
    refine aE_iload dX12_copy_130 rfl ?_
    refine aE_icmp_ge (tgt := 162) dX12_copy_132 (by decide) (fun h132 => ?_) (fun h132 => absurd (Int32.le_refl _) h132)
    exact k0
  | succ d ih =>
    intro e he
    refine aE_iload dX12_copy_128 rfl ?_
    refine aE_iload dX12_copy_130 rfl ?_
    refine aE_icmp_ge (tgt := 162) dX12_copy_132 (by decide) (fun h132 => absurd h132 (nI_ge (by omega) (by omega))) (fun h132 => ?_)
    refine aE_aload_n dX12_copy_135 rfl rfl ?_
    refine aE_getf (v := .ref 146) dX12_copy_136 fw_X12_150 (lt_nn (by decide)) rfl rfl ?_
    refine aE_iload dX12_copy_139 rfl ?_
    refine aE_aload_n dX12_copy_141 rfl rfl ?_
    refine aE_getf (v := .ref 120) dX12_copy_142 fw_X12_72 (lt_nn (by decide)) rfl rfl ?_
    refine aE_bipush (v := 10) dX12_copy_145 (by decide) ?_
    refine aE_iload_n dX12_copy_147 rfl rfl ?_
    refine aE_imul dX12_copy_148 ?_
    refine aE_top (x' := nI (10 * j)) (by rw [show (10 : Int32) = nI 10 from rfl, pk_mul]) ?_
    refine aE_iload_n dX12_copy_149 rfl rfl ?_
    refine aE_iadd dX12_copy_150 ?_
    refine aE_top (nI_add (10 * j) p) ?_
    refine aE_iload dX12_copy_151 rfl ?_
    refine aE_iadd dX12_copy_153 ?_
    refine aE_top (nI_add (10 * j + p) e) ?_
    refine aE_ildM dX12_copy_154 (lt_nn (by decide)) rfl (by decide) rfl (by omega) ?_
    refine aE_top (x' := I 120 (10 * j + p + e)) (cpI_o (by decide)) ?_
    refine aE_istM dX12_copy_155 (lt_nn (by decide)) rfl (by decide) rfl (by omega) ?_
    refine aE_I (I' := cpI I 120 146 (10 * j + p) 0 (e + 1)) (by rw [← cpI_s, Nat.zero_add]) ?_
    refine aE_iinc dX12_copy_156 rfl (a_inc _) (by decide) rfl (aE_loc (ls' := [_, _, _, _, _, _, _]) rfl ?_)
    refine aE_goto (tgt := 128) dX12_copy_159 (by decide) ?_
    exact ih (e + 1) (by omega)
theorem l_mcopy2 (j k p q m : Nat) (hk : k < 4) (hm : q + m ≤ 10) (hQ : qi Q (nI m) (cpI I 146 120 0 (10 * k + q) m) sp pl) : ∀ (d e : Nat), e + d = m → aE z mX12_copy (rK 2) Q 165 [some (.ref 101), some (.int (nI j)), some (.int (nI p)), some (.int (nI k)), some (.int (nI q)), some (.int (nI m)), some (.int (nI e))] [] (nn pl) (MM (cpI I 146 120 0 (10 * k + q) e) sp pl) 0 0 := by
  intro d
  induction d with
  | zero =>
    intro e he
    have he : e = m := by omega
    subst he
    refine aE_iload dX12_copy_165 rfl ?_
    refine aE_iload dX12_copy_167 rfl ?_
    refine aE_icmp_ge (tgt := 200) dX12_copy_169 (by decide) (fun h169 => ?_) (fun h169 => absurd (Int32.le_refl _) h169)
    refine aE_iload dX12_copy_200 rfl ?_
    refine aE_iret dX12_copy_202 rfl ⟨by decide, by decide⟩ ?_
    exact hQ
  | succ d ih =>
    intro e he
    refine aE_iload dX12_copy_165 rfl ?_
    refine aE_iload dX12_copy_167 rfl ?_
    refine aE_icmp_ge (tgt := 200) dX12_copy_169 (by decide) (fun h169 => absurd h169 (nI_ge (by omega) (by omega))) (fun h169 => ?_)
    refine aE_aload_n dX12_copy_172 rfl rfl ?_
    refine aE_getf (v := .ref 120) dX12_copy_173 fw_X12_72 (lt_nn (by decide)) rfl rfl ?_
    refine aE_bipush (v := 10) dX12_copy_176 (by decide) ?_
    refine aE_iload_n dX12_copy_178 rfl rfl ?_
    refine aE_imul dX12_copy_179 ?_
    refine aE_top (x' := nI (10 * k)) (by rw [show (10 : Int32) = nI 10 from rfl, pk_mul]) ?_
    refine aE_iload dX12_copy_180 rfl ?_
    refine aE_iadd dX12_copy_182 ?_
    refine aE_top (nI_add (10 * k) q) ?_
    refine aE_iload dX12_copy_183 rfl ?_
    refine aE_iadd dX12_copy_185 ?_
    refine aE_top (nI_add (10 * k + q) e) ?_
    refine aE_aload_n dX12_copy_186 rfl rfl ?_
    refine aE_getf (v := .ref 146) dX12_copy_187 fw_X12_150 (lt_nn (by decide)) rfl rfl ?_
    refine aE_iload dX12_copy_190 rfl ?_
    refine aE_ildM dX12_copy_192 (lt_nn (by decide)) rfl (by decide) rfl (by omega) ?_
    refine aE_top (x' := I 146 (0 + e)) (by rw [Nat.zero_add]; exact cpI_o (by decide)) ?_
    refine aE_istM dX12_copy_193 (lt_nn (by decide)) rfl (by decide) rfl (by omega) ?_
    refine aE_I (I' := cpI I 146 120 0 (10 * k + q) (e + 1)) cpI_s ?_
    refine aE_iinc dX12_copy_194 rfl (a_inc _) (by decide) rfl (aE_loc (ls' := [_, _, _, _, _, _, _]) rfl ?_)
    refine aE_goto (tgt := 165) dX12_copy_197 (by decide) ?_
    exact ih (e + 1) (by omega)
set_option maxRecDepth 20000 in
theorem m_copy (v f w t n : Int32) (cn : Nat → Nat) (hcn : ∀ j, j < 4 → cn j ≤ 10 ∧ I 119 j = nI (cn j)) (hB : (wi v 0 3 = 0 ∨ wi w 0 3 = 0) → qi Q (-1000001) (fndM I) sp pl) (hM : ∀ j k, j < 4 → k < 4 → v = nI j → w = nI k → (I 118 j = 0 ∨ I 118 k = 0) → qi Q (-1000005) (fndM I) sp pl) (hK : ∀ j k, j < 4 → k < 4 → v = nI j → w = nI k → ¬ I 118 j = 0 → ¬ I 118 k = 0 → ¬ I 118 j = I 118 k → qi Q (-1000003) (fndM I) sp pl) (hL : ∀ j k, j < 4 → k < 4 → v = nI j → w = nI k → ¬ I 118 j = 0 → ¬ I 118 k = 0 → I 118 j = I 118 k → (hldV f n (I 119 j) = 0 ∨ hldV t n (I 119 k) = 0) → qi Q (-1000001) (fndM I) sp pl) (hO : ∀ j k p q m, j < 4 → k < 4 → v = nI j → w = nI k → f = nI p → t = nI q → n = nI m → ¬ I 118 j = 0 → ¬ I 118 k = 0 → I 118 j = I 118 k → p + m ≤ cn j → q + m ≤ cn k → qi Q (nI m) (cpI (cpI I 120 146 (10 * j + p) 0 m) 146 120 0 (10 * k + q) m) sp pl) : aRuns mX12_copy (rK 2) [.ref 101, .int v, .int f, .int w, .int t, .int n] (nn pl) (MM I sp pl) (Q) := by
  refine aRuns_of pn_X12_copy (Nat.le_of_ble_eq_true rfl) (fun z => aE_loc (ls' := [_, _, _, _, _, _, _]) rfl ?_)
  refine aE_iload_n dX12_copy_0 rfl rfl ?_
  refine aE_cSi dX12_copy_1 lk_X12_322 ms_X12_isSheet (m_isSheet _) rfl rfl ⟨by decide, by decide⟩ (Nat.le_of_ble_eq_true rfl) ⟨rfl, rfl⟩ ⟨by decide, by decide⟩ ?_
  refine aE_if_eq (tgt := 14) dX12_copy_4 (by decide) (fun h4 => ?_) (fun h4 => ?_)
  · skip
    refine aE_aload_n dX12_copy_14 rfl rfl ?_
    refine aE_ldc dX12_copy_15 ct_X12_185 ?_
    refine aE_cVi dX12_copy_17 lk_X12_177 mv_X12_finds (c_finds _) rfl (lt_nn (by decide)) rfl rfl ⟨by decide, by decide⟩ (Nat.le_of_ble_eq_true rfl) ⟨rfl, rfl⟩ ⟨by decide, by decide⟩ ?_
    refine aE_iret dX12_copy_20 rfl ⟨by decide, by decide⟩ ?_
    refine hB ?_
    first | exact Or.inl ‹_› | exact Or.inr ‹_›
  · skip
    refine aE_iload_n dX12_copy_7 rfl rfl ?_
    refine aE_cSi dX12_copy_8 lk_X12_322 ms_X12_isSheet (m_isSheet _) rfl rfl ⟨by decide, by decide⟩ (Nat.le_of_ble_eq_true rfl) ⟨rfl, rfl⟩ ⟨by decide, by decide⟩ ?_
    refine aE_if_ne (tgt := 21) dX12_copy_11 (by decide) (fun h11 => ?_) (fun h11 => ?_)
    · skip
      obtain ⟨j, hj3, rfl⟩ := wi_c (m := 3) (by decide) (M := 3) rfl h4
      have hj : j < 4 := by omega
      obtain ⟨k, hk3, rfl⟩ := wi_c (m := 3) (by decide) (M := 3) rfl h11
      have hk : k < 4 := by omega
      refine aE_aload_n dX12_copy_21 rfl rfl ?_
      refine aE_getf (v := .ref 118) dX12_copy_22 fw_X12_66 (lt_nn (by decide)) rfl rfl ?_
      refine aE_iload_n dX12_copy_25 rfl rfl ?_
      refine aE_ildM dX12_copy_26 (lt_nn (by decide)) rfl (by decide) rfl hj ?_
      refine aE_if_eq (tgt := 39) dX12_copy_27 (by decide) (fun h27 => ?_) (fun h27 => ?_)
      · skip
        refine aE_aload_n dX12_copy_39 rfl rfl ?_
        refine aE_ldcw dX12_copy_40 ct_X12_326 ?_
        refine aE_cVi dX12_copy_43 lk_X12_177 mv_X12_finds (c_finds _) rfl (lt_nn (by decide)) rfl rfl ⟨by decide, by decide⟩ (Nat.le_of_ble_eq_true rfl) ⟨rfl, rfl⟩ ⟨by decide, by decide⟩ ?_
        refine aE_iret dX12_copy_46 rfl ⟨by decide, by decide⟩ ?_
        exact hM j k hj hk rfl rfl (by first | exact Or.inl h27 | exact Or.inr h36)
      · skip
        refine aE_aload_n dX12_copy_30 rfl rfl ?_
        refine aE_getf (v := .ref 118) dX12_copy_31 fw_X12_66 (lt_nn (by decide)) rfl rfl ?_
        refine aE_iload_n dX12_copy_34 rfl rfl ?_
        refine aE_ildM dX12_copy_35 (lt_nn (by decide)) rfl (by decide) rfl hk ?_
        refine aE_if_ne (tgt := 47) dX12_copy_36 (by decide) (fun h36 => ?_) (fun h36 => ?_)
        · skip
          refine aE_aload_n dX12_copy_47 rfl rfl ?_
          refine aE_getf (v := .ref 118) dX12_copy_48 fw_X12_66 (lt_nn (by decide)) rfl rfl ?_
          refine aE_iload_n dX12_copy_51 rfl rfl ?_
          refine aE_ildM dX12_copy_52 (lt_nn (by decide)) rfl (by decide) rfl hj ?_
          refine aE_aload_n dX12_copy_53 rfl rfl ?_
          refine aE_getf (v := .ref 118) dX12_copy_54 fw_X12_66 (lt_nn (by decide)) rfl rfl ?_
          refine aE_iload_n dX12_copy_57 rfl rfl ?_
          refine aE_ildM dX12_copy_58 (lt_nn (by decide)) rfl (by decide) rfl hk ?_
          refine aE_icmp_eq (tgt := 69) dX12_copy_59 (by decide) (fun h59 => ?_) (fun h59 => ?_)
          · skip
            refine aE_iload_n dX12_copy_69 rfl rfl ?_
            refine aE_if_lt (tgt := 118) dX12_copy_70 (by decide) (fun h70 => ?_) (fun h70 => ?_)
            · skip
              refine aE_aload_n dX12_copy_118 rfl rfl ?_
              refine aE_ldc dX12_copy_119 ct_X12_185 ?_
              refine aE_cVi dX12_copy_121 lk_X12_177 mv_X12_finds (c_finds _) rfl (lt_nn (by decide)) rfl rfl ⟨by decide, by decide⟩ (Nat.le_of_ble_eq_true rfl) ⟨rfl, rfl⟩ ⟨by decide, by decide⟩ ?_
              refine aE_iret dX12_copy_124 rfl ⟨by decide, by decide⟩ ?_
              refine hL j k hj hk rfl rfl h27 h36 h59 ?_
              first
                | exact Or.inl (hld_f h70)
                | exact Or.inr (hld_f h75)
                | exact Or.inl (hld_n h80)
                | exact Or.inl (by rw [cj.2]; exact hld_b hp hm (by omega) ((lgc_gt (by omega) (by omega)).mp h97))
                | exact Or.inr (by rw [ck.2]; exact hld_b hq hm (by omega) (Nat.lt_of_not_le fun a => h115 ((lgc_le (by omega) (by omega)).mpr a)))
            · skip
              refine aE_iload dX12_copy_73 rfl ?_
              refine aE_if_lt (tgt := 118) dX12_copy_75 (by decide) (fun h75 => ?_) (fun h75 => ?_)
              · skip
                refine aE_aload_n dX12_copy_118 rfl rfl ?_
                refine aE_ldc dX12_copy_119 ct_X12_185 ?_
                refine aE_cVi dX12_copy_121 lk_X12_177 mv_X12_finds (c_finds _) rfl (lt_nn (by decide)) rfl rfl ⟨by decide, by decide⟩ (Nat.le_of_ble_eq_true rfl) ⟨rfl, rfl⟩ ⟨by decide, by decide⟩ ?_
                refine aE_iret dX12_copy_124 rfl ⟨by decide, by decide⟩ ?_
                refine hL j k hj hk rfl rfl h27 h36 h59 ?_
                first
                  | exact Or.inl (hld_f h70)
                  | exact Or.inr (hld_f h75)
                  | exact Or.inl (hld_n h80)
                  | exact Or.inl (by rw [cj.2]; exact hld_b hp hm (by omega) ((lgc_gt (by omega) (by omega)).mp h97))
                  | exact Or.inr (by rw [ck.2]; exact hld_b hq hm (by omega) (Nat.lt_of_not_le fun a => h115 ((lgc_le (by omega) (by omega)).mpr a)))
              · skip
                refine aE_iload dX12_copy_78 rfl ?_
                refine aE_if_lt (tgt := 118) dX12_copy_80 (by decide) (fun h80 => ?_) (fun h80 => ?_)
                · skip
                  refine aE_aload_n dX12_copy_118 rfl rfl ?_
                  refine aE_ldc dX12_copy_119 ct_X12_185 ?_
                  refine aE_cVi dX12_copy_121 lk_X12_177 mv_X12_finds (c_finds _) rfl (lt_nn (by decide)) rfl rfl ⟨by decide, by decide⟩ (Nat.le_of_ble_eq_true rfl) ⟨rfl, rfl⟩ ⟨by decide, by decide⟩ ?_
                  refine aE_iret dX12_copy_124 rfl ⟨by decide, by decide⟩ ?_
                  refine hL j k hj hk rfl rfl h27 h36 h59 ?_
                  first
                    | exact Or.inl (hld_f h70)
                    | exact Or.inr (hld_f h75)
                    | exact Or.inl (hld_n h80)
                    | exact Or.inl (by rw [cj.2]; exact hld_b hp hm (by omega) ((lgc_gt (by omega) (by omega)).mp h97))
                    | exact Or.inr (by rw [ck.2]; exact hld_b hq hm (by omega) (Nat.lt_of_not_le fun a => h115 ((lgc_le (by omega) (by omega)).mpr a)))
                · skip
                  have cj := hcn j hj
                  have ck := hcn k hk
                  obtain ⟨p, hp, rfl⟩ := nI_of h70
                  obtain ⟨q, hq, rfl⟩ := nI_of h75
                  obtain ⟨m, hm, rfl⟩ := nI_of h80
                  refine aE_iload_n dX12_copy_83 rfl rfl ?_
                  refine aE_i2l dX12_copy_84 ?_
                  refine aE_iload dX12_copy_85 rfl ?_
                  refine aE_i2l dX12_copy_87 ?_
                  refine aE_ladd dX12_copy_88 ?_
                  refine aE_topl (x' := lN (p + m)) (by rw [nI_l hp, nI_l hm, lN_add]) ?_
                  refine aE_aload_n dX12_copy_89 rfl rfl ?_
                  refine aE_getf (v := .ref 119) dX12_copy_90 fw_X12_69 (lt_nn (by decide)) rfl rfl ?_
                  refine aE_iload_n dX12_copy_93 rfl rfl ?_
                  refine aE_ildM dX12_copy_94 (lt_nn (by decide)) rfl (by decide) rfl hj ?_
                  refine aE_i2l dX12_copy_95 ?_
                  refine aE_topl (x' := lN (cn j)) (by rw [cj.2, nI_l (by omega)]) ?_
                  refine aE_lcmp dX12_copy_96 ?_
                  refine aE_if_gt (tgt := 118) dX12_copy_97 (by decide) (fun h97 => ?_) (fun h97 => ?_)
                  · skip
                    refine aE_aload_n dX12_copy_118 rfl rfl ?_
                    refine aE_ldc dX12_copy_119 ct_X12_185 ?_
                    refine aE_cVi dX12_copy_121 lk_X12_177 mv_X12_finds (c_finds _) rfl (lt_nn (by decide)) rfl rfl ⟨by decide, by decide⟩ (Nat.le_of_ble_eq_true rfl) ⟨rfl, rfl⟩ ⟨by decide, by decide⟩ ?_
                    refine aE_iret dX12_copy_124 rfl ⟨by decide, by decide⟩ ?_
                    refine hL j k hj hk rfl rfl h27 h36 h59 ?_
                    first
                      | exact Or.inl (hld_f h70)
                      | exact Or.inr (hld_f h75)
                      | exact Or.inl (hld_n h80)
                      | exact Or.inl (by rw [cj.2]; exact hld_b hp hm (by omega) ((lgc_gt (by omega) (by omega)).mp h97))
                      | exact Or.inr (by rw [ck.2]; exact hld_b hq hm (by omega) (Nat.lt_of_not_le fun a => h115 ((lgc_le (by omega) (by omega)).mpr a)))
                  · skip
                    refine aE_iload dX12_copy_100 rfl ?_
                    refine aE_i2l dX12_copy_102 ?_
                    refine aE_iload dX12_copy_103 rfl ?_
                    refine aE_i2l dX12_copy_105 ?_
                    refine aE_ladd dX12_copy_106 ?_
                    refine aE_topl (x' := lN (q + m)) (by rw [nI_l hq, nI_l hm, lN_add]) ?_
                    refine aE_aload_n dX12_copy_107 rfl rfl ?_
                    refine aE_getf (v := .ref 119) dX12_copy_108 fw_X12_69 (lt_nn (by decide)) rfl rfl ?_
                    refine aE_iload_n dX12_copy_111 rfl rfl ?_
                    refine aE_ildM dX12_copy_112 (lt_nn (by decide)) rfl (by decide) rfl hk ?_
                    refine aE_i2l dX12_copy_113 ?_
                    refine aE_topl (x' := lN (cn k)) (by rw [ck.2, nI_l (by omega)]) ?_
                    refine aE_lcmp dX12_copy_114 ?_
                    refine aE_if_le (tgt := 125) dX12_copy_115 (by decide) (fun h115 => ?_) (fun h115 => ?_)
                    · skip
                      have hpm : p + m ≤ cn j := Nat.le_of_not_lt fun a => h97 ((lgc_gt (by omega) (by omega)).mpr a)
                      have hqm : q + m ≤ cn k := (lgc_le (by omega) (by omega)).mp h115
                      refine aE_iconst (v := 0) dX12_copy_125 rfl ?_
                      refine aE_istore dX12_copy_126 (by decide) rfl (aE_loc (ls' := [_, _, _, _, _, _, _]) rfl ?_)
                      refine aE_I (I' := cpI I 120 146 (10 * j + p) 0 0) (cpI_0 _ _ _ _ _).symm ?_
                      refine l_mcopy1 j k p q m hj (by omega) ?_ m 0 (by omega)
                      refine aE_iconst (v := 0) dX12_copy_162 rfl ?_
                      refine aE_istore dX12_copy_163 (by decide) rfl (aE_loc (ls' := [_, _, _, _, _, _, _]) rfl ?_)
                      refine aE_I (I' := cpI (cpI I 120 146 (10 * j + p) 0 m) 146 120 0 (10 * k + q) 0) (cpI_0 _ _ _ _ _).symm ?_
                      exact l_mcopy2 (I := cpI I 120 146 (10 * j + p) 0 m) j k p q m hk (by omega) (hO j k p q m hj hk rfl rfl rfl rfl rfl h27 h36 h59 hpm hqm) m 0 (by omega)
                    · skip
                      refine aE_aload_n dX12_copy_118 rfl rfl ?_
                      refine aE_ldc dX12_copy_119 ct_X12_185 ?_
                      refine aE_cVi dX12_copy_121 lk_X12_177 mv_X12_finds (c_finds _) rfl (lt_nn (by decide)) rfl rfl ⟨by decide, by decide⟩ (Nat.le_of_ble_eq_true rfl) ⟨rfl, rfl⟩ ⟨by decide, by decide⟩ ?_
                      refine aE_iret dX12_copy_124 rfl ⟨by decide, by decide⟩ ?_
                      refine hL j k hj hk rfl rfl h27 h36 h59 ?_
                      first
                        | exact Or.inl (hld_f h70)
                        | exact Or.inr (hld_f h75)
                        | exact Or.inl (hld_n h80)
                        | exact Or.inl (by rw [cj.2]; exact hld_b hp hm (by omega) ((lgc_gt (by omega) (by omega)).mp h97))
                        | exact Or.inr (by rw [ck.2]; exact hld_b hq hm (by omega) (Nat.lt_of_not_le fun a => h115 ((lgc_le (by omega) (by omega)).mpr a)))
          · skip
            refine aE_aload_n dX12_copy_62 rfl rfl ?_
            refine aE_ldc dX12_copy_63 ct_X12_205 ?_
            refine aE_cVi dX12_copy_65 lk_X12_177 mv_X12_finds (c_finds _) rfl (lt_nn (by decide)) rfl rfl ⟨by decide, by decide⟩ (Nat.le_of_ble_eq_true rfl) ⟨rfl, rfl⟩ ⟨by decide, by decide⟩ ?_
            refine aE_iret dX12_copy_68 rfl ⟨by decide, by decide⟩ ?_
            exact hK j k hj hk rfl rfl h27 h36 h59
        · skip
          refine aE_aload_n dX12_copy_39 rfl rfl ?_
          refine aE_ldcw dX12_copy_40 ct_X12_326 ?_
          refine aE_cVi dX12_copy_43 lk_X12_177 mv_X12_finds (c_finds _) rfl (lt_nn (by decide)) rfl rfl ⟨by decide, by decide⟩ (Nat.le_of_ble_eq_true rfl) ⟨rfl, rfl⟩ ⟨by decide, by decide⟩ ?_
          refine aE_iret dX12_copy_46 rfl ⟨by decide, by decide⟩ ?_
          exact hM j k hj hk rfl rfl (by first | exact Or.inl h27 | exact Or.inr h36)
    · skip
      refine aE_aload_n dX12_copy_14 rfl rfl ?_
      refine aE_ldc dX12_copy_15 ct_X12_185 ?_
      refine aE_cVi dX12_copy_17 lk_X12_177 mv_X12_finds (c_finds _) rfl (lt_nn (by decide)) rfl rfl ⟨by decide, by decide⟩ (Nat.le_of_ble_eq_true rfl) ⟨rfl, rfl⟩ ⟨by decide, by decide⟩ ?_
      refine aE_iret dX12_copy_20 rfl ⟨by decide, by decide⟩ ?_
      refine hB ?_
      first | exact Or.inl ‹_› | exact Or.inr ‹_›

theorem l_mread2 (j p c : Nat) (hj : j < 4) (h10 : p + c ≤ 10) (hQ : qi Q (nI c) (ano (cpI I 120 112 (10 * j) p c)) sp pl) : ∀ (d k : Nat), k + d = c → aE z mX12_read (rK 2) Q 115 [some (.ref 101), some (.int (nI j)), some (.int (nI p)), some (.int (nI c)), some (.int (nI k))] [] (nn pl) (MM (cpI I 120 112 (10 * j) p k) sp pl) 0 0 := by
  intro d
  induction d with
  | zero =>
    intro k hk
    have hk : k = c := by omega
    subst hk
    refine aE_iload dX12_read_115 rfl ?_
    refine aE_iload_n dX12_read_117 rfl rfl ?_
    refine aE_icmp_ge (tgt := 148) dX12_read_118 (by decide) (fun h118 => ?_) (fun h118 => absurd (Int32.le_refl _) h118)
    refine aE_aload_n dX12_read_148 rfl rfl ?_
    refine aE_cVv dX12_read_149 lk_X12_189 mv_X12_another (c_another ) rfl (lt_nn (by decide)) rfl rfl ⟨by decide, by decide⟩ (Nat.le_of_ble_eq_true rfl) ⟨rfl, rfl⟩ ⟨by decide, by decide⟩ ?_
    refine aE_iload_n dX12_read_152 rfl rfl ?_
    refine aE_iret dX12_read_153 rfl ⟨by decide, by decide⟩ ?_
    exact hQ
  | succ d ih =>
    intro k hk
    refine aE_iload dX12_read_115 rfl ?_
    refine aE_iload_n dX12_read_117 rfl rfl ?_
    refine aE_icmp_ge (tgt := 148) dX12_read_118 (by decide) (fun h118 => absurd h118 (nI_ge (by omega) (by omega))) (fun h118 => ?_)
    refine aE_aload_n dX12_read_121 rfl rfl ?_
    refine aE_getf (v := .ref 112) dX12_read_122 fw_X12_48 (lt_nn (by decide)) rfl rfl ?_
    refine aE_iload_n dX12_read_125 rfl rfl ?_
    refine aE_iload dX12_read_126 rfl ?_
    refine aE_iadd dX12_read_128 ?_
    refine aE_top (nI_add p k) ?_
    refine aE_aload_n dX12_read_129 rfl rfl ?_
    refine aE_getf (v := .ref 120) dX12_read_130 fw_X12_72 (lt_nn (by decide)) rfl rfl ?_
    refine aE_bipush (v := 10) dX12_read_133 (by decide) ?_
    refine aE_iload_n dX12_read_135 rfl rfl ?_
    refine aE_imul dX12_read_136 ?_
    refine aE_top (x' := nI (10 * j)) (by rw [show (10 : Int32) = nI 10 from rfl, pk_mul]) ?_
    refine aE_iload dX12_read_137 rfl ?_
    refine aE_iadd dX12_read_139 ?_
    refine aE_top (nI_add (10 * j) k) ?_
    refine aE_ildM dX12_read_140 (lt_nn (by decide)) rfl (by decide) rfl (by omega) ?_
    refine aE_top (x' := I 120 (10 * j + k)) (cpI_o (by decide)) ?_
    refine aE_istM dX12_read_141 (lt_nn (by decide)) rfl (by decide) rfl (by omega) ?_
    refine aE_I cpI_s ?_
    refine aE_iinc dX12_read_142 rfl (a_inc _) (by decide) rfl (aE_loc (ls' := [_, _, _, _, _]) rfl ?_)
    refine aE_goto (tgt := 115) dX12_read_145 (by decide) ?_
    exact ih (k + 1) (by omega)
theorem l_mread1 (j p c : Nat) (hj : j < 4) (h10 : p + c ≤ 10) (hN : allW (fun i => I 120 (10 * j + i)) 1 30 c = 0 → qi Q (-1000001) (fndM I) sp pl) (hO : ¬ allW (fun i => I 120 (10 * j + i)) 1 30 c = 0 → qi Q (nI c) (ano (cpI I 120 112 (10 * j) p c)) sp pl) : ∀ (d k : Nat), k + d = c → allW (fun i => I 120 (10 * j + i)) 1 30 k = 1 → aE z mX12_read (rK 2) Q 72 [some (.ref 101), some (.int (nI j)), some (.int (nI p)), some (.int (nI c)), some (.int (nI k))] [] (nn pl) (MM I sp pl) 0 0 := by
  intro d
  induction d with
  | zero =>
    intro k hk hp
    have hk : k = c := by omega
    subst hk
    refine aE_iload dX12_read_72 rfl ?_
    refine aE_iload_n dX12_read_74 rfl rfl ?_
    refine aE_icmp_ge (tgt := 112) dX12_read_75 (by decide) (fun h75 => ?_) (fun h75 => absurd (Int32.le_refl _) h75)
    refine aE_iconst (v := 0) dX12_read_112 rfl ?_
    refine aE_istore dX12_read_113 (by decide) rfl (aE_loc (ls' := [_, _, _, _, _]) rfl ?_)
    refine aE_I (I' := cpI I 120 112 (10 * j) p 0) (cpI_0 _ _ _ _ _).symm ?_
    exact l_mread2 j p k hj h10 (hO (by rw [hp]; decide)) k 0 (by omega)
  | succ d ih =>
    intro k hk hp
    have hs : allW (fun i => I 120 (10 * j + i)) 1 30 (k + 1) = wi (I 120 (10 * j + k)) 1 30 := by
      show (if allW (fun i => I 120 (10 * j + i)) 1 30 k = 0 then 0 else _) = _
      rw [hp, if_neg (by decide)]
    refine aE_iload dX12_read_72 rfl ?_
    refine aE_iload_n dX12_read_74 rfl rfl ?_
    refine aE_icmp_ge (tgt := 112) dX12_read_75 (by decide) (fun h75 => absurd h75 (nI_ge (by omega) (by omega))) (fun h75 => ?_)
    refine aE_aload_n dX12_read_78 rfl rfl ?_
    refine aE_getf (v := .ref 120) dX12_read_79 fw_X12_72 (lt_nn (by decide)) rfl rfl ?_
    refine aE_bipush (v := 10) dX12_read_82 (by decide) ?_
    refine aE_iload_n dX12_read_84 rfl rfl ?_
    refine aE_imul dX12_read_85 ?_
    refine aE_top (x' := nI (10 * j)) (by rw [show (10 : Int32) = nI 10 from rfl, pk_mul]) ?_
    refine aE_iload dX12_read_86 rfl ?_
    refine aE_iadd dX12_read_88 ?_
    refine aE_top (nI_add (10 * j) k) ?_
    refine aE_ildM dX12_read_89 (lt_nn (by decide)) rfl (by decide) rfl (by omega) ?_
    refine aE_iconst (v := 1) dX12_read_90 rfl ?_
    refine aE_bipush (v := 30) dX12_read_91 (by decide) ?_
    refine aE_cSi dX12_read_93 lk_X12_159 ms_X12_in (c_in _ _ _) rfl rfl ⟨by decide, by decide⟩ (Nat.le_of_ble_eq_true rfl) ⟨rfl, rfl⟩ ⟨by decide, by decide⟩ ?_
    refine aE_if_ne (tgt := 106) dX12_read_96 (by decide) (fun h96 => ?_) (fun h96 => ?_)
    · skip
      refine aE_iinc dX12_read_106 rfl (a_inc _) (by decide) rfl (aE_loc (ls' := [_, _, _, _, _]) rfl ?_)
      refine aE_goto (tgt := 72) dX12_read_109 (by decide) ?_
      exact ih (k + 1) (by omega) (by rw [hs]; exact (wi_or _ _ _).resolve_left h96)
    · skip
      refine aE_aload_n dX12_read_99 rfl rfl ?_
      refine aE_ldc dX12_read_100 ct_X12_185 ?_
      refine aE_cVi dX12_read_102 lk_X12_177 mv_X12_finds (c_finds _) rfl (lt_nn (by decide)) rfl rfl ⟨by decide, by decide⟩ (Nat.le_of_ble_eq_true rfl) ⟨rfl, rfl⟩ ⟨by decide, by decide⟩ ?_
      refine aE_iret dX12_read_105 rfl ⟨by decide, by decide⟩ ?_
      refine hN ?_
      rw [show c = (k + 1) + d by omega]
      exact allW_0 d (by rw [hs, h96])
set_option maxRecDepth 20000 in
theorem m_read (v f : Int32) (cn : Nat → Nat) (nst : Nat) (hcn : ∀ j, j < 4 → cn j ≤ 10 ∧ I 119 j = nI (cn j)) (hn : I 101 3 = nI nst) (h10 : nst ≤ 10) (hB : wi v 0 3 = 0 → qi Q (-1000001) (fndM I) sp pl) (hM : ∀ j, j < 4 → v = nI j → I 118 j = 0 → qi Q (-1000005) (fndM I) sp pl) (h0 : ∀ j, j < 4 → v = nI j → ¬ I 118 j = 0 → I 119 j = 0 → qi Q 0 I sp pl) (hI : ∀ j, j < 4 → v = nI j → ¬ I 118 j = 0 → ¬ I 119 j = 0 → ((∀ p, p < 2 ^ 31 → f = nI p → ¬ p + cn j ≤ nst) ∨ allW (fun i => I 120 (10 * j + i)) 1 30 (cn j) = 0) → qi Q (-1000001) (fndM I) sp pl) (hO : ∀ j p, j < 4 → v = nI j → f = nI p → ¬ I 118 j = 0 → ¬ I 119 j = 0 → p + cn j ≤ nst → ¬ allW (fun i => I 120 (10 * j + i)) 1 30 (cn j) = 0 → qi Q (nI (cn j)) (ano (cpI I 120 112 (10 * j) p (cn j))) sp pl) : aRuns mX12_read (rK 2) [.ref 101, .int v, .int f] (nn pl) (MM I sp pl) (Q) := by
  refine aRuns_of pn_X12_read (Nat.le_of_ble_eq_true rfl) (fun z => aE_loc (ls' := [_, _, _, _, _]) rfl ?_)
  refine aE_iload_n dX12_read_0 rfl rfl ?_
  refine aE_cSi dX12_read_1 lk_X12_322 ms_X12_isSheet (m_isSheet _) rfl rfl ⟨by decide, by decide⟩ (Nat.le_of_ble_eq_true rfl) ⟨rfl, rfl⟩ ⟨by decide, by decide⟩ ?_
  refine aE_if_ne (tgt := 14) dX12_read_4 (by decide) (fun h4 => ?_) (fun h4 => ?_)
  · skip
    obtain ⟨j, hj3, rfl⟩ := wi_c (m := 3) (by decide) (M := 3) rfl h4
    have hj : j < 4 := by omega
    have cj := hcn j hj
    refine aE_aload_n dX12_read_14 rfl rfl ?_
    refine aE_getf (v := .ref 118) dX12_read_15 fw_X12_66 (lt_nn (by decide)) rfl rfl ?_
    refine aE_iload_n dX12_read_18 rfl rfl ?_
    refine aE_ildM dX12_read_19 (lt_nn (by decide)) rfl (by decide) rfl hj ?_
    refine aE_if_ne (tgt := 31) dX12_read_20 (by decide) (fun h20 => ?_) (fun h20 => ?_)
    · skip
      refine aE_aload_n dX12_read_31 rfl rfl ?_
      refine aE_getf (v := .ref 119) dX12_read_32 fw_X12_69 (lt_nn (by decide)) rfl rfl ?_
      refine aE_iload_n dX12_read_35 rfl rfl ?_
      refine aE_ildM dX12_read_36 (lt_nn (by decide)) rfl (by decide) rfl hj ?_
      refine aE_istore_n dX12_read_37 rfl (by decide) rfl (aE_loc (ls' := [_, _, _, _, _]) rfl ?_)
      refine aE_iload_n dX12_read_38 rfl rfl ?_
      refine aE_if_ne (tgt := 44) dX12_read_39 (by decide) (fun h39 => ?_) (fun h39 => ?_)
      · skip
        refine aE_iload_n dX12_read_44 rfl rfl ?_
        refine aE_if_lt (tgt := 62) dX12_read_45 (by decide) (fun h45 => ?_) (fun h45 => ?_)
        · skip
          refine aE_aload_n dX12_read_62 rfl rfl ?_
          refine aE_ldc dX12_read_63 ct_X12_185 ?_
          refine aE_cVi dX12_read_65 lk_X12_177 mv_X12_finds (c_finds _) rfl (lt_nn (by decide)) rfl rfl ⟨by decide, by decide⟩ (Nat.le_of_ble_eq_true rfl) ⟨rfl, rfl⟩ ⟨by decide, by decide⟩ ?_
          refine aE_iret dX12_read_68 rfl ⟨by decide, by decide⟩ ?_
          refine hI j hj rfl h20 h39 (Or.inl ?_)
          first
            | (intro p9 e9; rw [e9] at h45; intro _; exact absurd h45 (nI_pos (by omega)))
            | (intro p9 hp9 e9 h9; rw [e9] at h45; exact absurd h45 (nI_pos (by omega)))
            | (intro p9 hp9 e9 h9; have e := (nI_eq hp hp9).mp e9; subst e; exact h59 ((lgc_le (by omega) (by omega)).mpr h9))
        · skip
          obtain ⟨p, hp, rfl⟩ := nI_of h45
          refine aE_iload_n dX12_read_48 rfl rfl ?_
          refine aE_i2l dX12_read_49 ?_
          refine aE_iload_n dX12_read_50 rfl rfl ?_
          refine aE_i2l dX12_read_51 ?_
          refine aE_ladd dX12_read_52 ?_
          refine aE_topl (x' := lN (p + cn j)) (by rw [cj.2, nI_l hp, nI_l (by omega), lN_add]) ?_
          refine aE_aload_n dX12_read_53 rfl rfl ?_
          refine aE_geti dX12_read_54 fw_X12_166 (lt_nn (by decide)) rfl (by decide) rfl ?_
          refine aE_i2l dX12_read_57 ?_
          refine aE_topl (x' := lN nst) (by rw [hn, nI_l (by omega)]) ?_
          refine aE_lcmp dX12_read_58 ?_
          refine aE_if_le (tgt := 69) dX12_read_59 (by decide) (fun h59 => ?_) (fun h59 => ?_)
          · skip
            have hpn : p + cn j ≤ nst := (lgc_le (by omega) (by omega)).mp h59
            refine aE_iconst (v := 0) dX12_read_69 rfl ?_
            refine aE_istore dX12_read_70 (by decide) rfl (aE_loc (ls' := [_, _, _, _, _]) rfl ?_)
            refine aE_loc (ls' := [some (.ref 101), some (.int (nI j)), some (.int (nI p)), some (.int (nI (cn j))), some (.int (nI 0))]) (by rw [cj.2]; rfl) ?_
            exact l_mread1 j p (cn j) hj (by omega) (fun q => hI j hj rfl h20 h39 (Or.inr q)) (fun q => hO j p hj rfl rfl h20 h39 hpn q) (cn j) 0 (by omega) rfl
          · skip
            refine aE_aload_n dX12_read_62 rfl rfl ?_
            refine aE_ldc dX12_read_63 ct_X12_185 ?_
            refine aE_cVi dX12_read_65 lk_X12_177 mv_X12_finds (c_finds _) rfl (lt_nn (by decide)) rfl rfl ⟨by decide, by decide⟩ (Nat.le_of_ble_eq_true rfl) ⟨rfl, rfl⟩ ⟨by decide, by decide⟩ ?_
            refine aE_iret dX12_read_68 rfl ⟨by decide, by decide⟩ ?_
            refine hI j hj rfl h20 h39 (Or.inl ?_)
            first
              | (intro p9 e9; rw [e9] at h45; intro _; exact absurd h45 (nI_pos (by omega)))
              | (intro p9 hp9 e9 h9; rw [e9] at h45; exact absurd h45 (nI_pos (by omega)))
              | (intro p9 hp9 e9 h9; have e := (nI_eq hp hp9).mp e9; subst e; exact h59 ((lgc_le (by omega) (by omega)).mpr h9))
      · skip
        refine aE_iconst (v := 0) dX12_read_42 rfl ?_
        refine aE_iret dX12_read_43 rfl ⟨by decide, by decide⟩ ?_
        exact h0 j hj rfl h20 h39
    · skip
      refine aE_aload_n dX12_read_23 rfl rfl ?_
      refine aE_ldcw dX12_read_24 ct_X12_326 ?_
      refine aE_cVi dX12_read_27 lk_X12_177 mv_X12_finds (c_finds _) rfl (lt_nn (by decide)) rfl rfl ⟨by decide, by decide⟩ (Nat.le_of_ble_eq_true rfl) ⟨rfl, rfl⟩ ⟨by decide, by decide⟩ ?_
      refine aE_iret dX12_read_30 rfl ⟨by decide, by decide⟩ ?_
      exact hM j hj rfl h20
  · skip
    refine aE_aload_n dX12_read_7 rfl rfl ?_
    refine aE_ldc dX12_read_8 ct_X12_185 ?_
    refine aE_cVi dX12_read_10 lk_X12_177 mv_X12_finds (c_finds _) rfl (lt_nn (by decide)) rfl rfl ⟨by decide, by decide⟩ (Nat.le_of_ble_eq_true rfl) ⟨rfl, rfl⟩ ⟨by decide, by decide⟩ ?_
    refine aE_iret dX12_read_13 rfl ⟨by decide, by decide⟩ ?_
    exact hB h4

end MB4
