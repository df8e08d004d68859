section CFAIR
variable {z : Nat × (Nat → Int32)} {n : Nat} {mem : aM} {I : Nat → Nat → Int32} {sp : Nat → Nat} {pl : Bool} {Q : Option Value → Nat → aM → Prop} {R : Room}variable {ns nstr nc : Nat} {d : pD} {cs : Nat → pC} {fr to : Nat → Nat} {al : Nat → Nat}

set_option maxRecDepth 20000 in
theorem c_morning_t (route late snow : Int32) (dp : Nat → Nat) (C : Nat → Int32) (hW : CW I sp ns nstr nc d cs fr to) (hbe : ∀ s, s < ns → 0 ≤ (I 26 s).toInt ∧ (I 26 s).toInt ≤ 6) (hsl : 0 ≤ (I 1 8).toInt ∧ (I 1 8).toInt ≤ 30) (hch : ¬ I 0 8 = 0 → ¬ I 0 7 = 0 ∧ ChC I (fC I sp ns d cs) (RR d cs (alC I sp d) ns).length) (hdp : dpOK (nxG (fC I sp ns d cs) (RR d cs (alC I sp d) ns).length) (RR d cs (alC I sp d) ns).length dp) (hdn : ∀ r, r < (RR d cs (alC I sp d) ns).length → dp r < (RR d cs (alC I sp d) ns).length) (hmi : ∀ s, s < nstr → 0 ≤ (I 5 s).toInt ∧ (I 5 s).toInt ≤ 20) (hst : ¬ I 0 7 = 0 → PCs I ns d cs (alC I sp d) ∧ FlC I ns d cs (alC I sp d) (I 1 8)) (hB : (route < 0 ∨ wi late 0 60 = 0 ∨ wi snow 0 10 = 0) → qi Q (-1000001) (fnd I) sp true) (hN : ∀ J, ¬ route < 0 → DP I J sp ns nstr nc d cs fr to → allH d cs (alC I sp d) ns = false → qi Q (-1000004) (fnd J) sp true) (hN2 : ∀ K, ¬ route < 0 → LC I K sp ns nstr nc d cs fr to → allH d cs (alC I sp d) ns = true → nI (RR d cs (alC I sp d) ns).length ≤ route → qi Q (-1000004) (fnd K) sp true) (hO : ∀ K X, ¬ route < 0 → route < nI (RR d cs (alC I sp d) ns).length → LC I K sp ns nstr nc d cs fr to → allH d cs (alC I sp d) ns = true → (∀ q i, q ≠ 91 → ¬ (q = 90 ∧ i = 0) → ¬ (17 ≤ q ∧ q < 25) → X q i = K q i) → X 90 0 = nI (RR d cs (alC I sp d) ns).length → (∀ r, r < (RR d cs (alC I sp d) ns).length → X 91 r = (drA (mpM d cs (RR d cs (alC I sp d) ns) (dTab fr to (I 5) (I 6) snow nstr) (fun s => I 26 s) d.2.2.2.1 route late) (nxG (fC I sp ns d cs) (RR d cs (alC I sp d) ns).length) (fun r => isF (nxG (fC I sp ns d cs) (RR d cs (alC I sp d) ns).length) r (RR d cs (alC I sp d) ns).length) (RR d cs (alC I sp d) ns).length (RR d cs (alC I sp d) ns).length (C, 0)).1 r) → qi Q (drA (mpM d cs (RR d cs (alC I sp d) ns) (dTab fr to (I 5) (I 6) snow nstr) (fun s => I 26 s) d.2.2.2.1 route late) (nxG (fC I sp ns d cs) (RR d cs (alC I sp d) ns).length) (fun r => isF (nxG (fC I sp ns d cs) (RR d cs (alC I sp d) ns).length) r (RR d cs (alC I sp d) ns).length) (RR d cs (alC I sp d) ns).length (RR d cs (alC I sp d) ns).length (C, 0)).2 X sp true) : aRuns mX11_morning (rK 7) [.ref 0, .int route, .int late, .int snow] (nn true) (MM I sp true) Q := by
  refine aRuns_of pn_X11_morning (Nat.le_of_ble_eq_true rfl) (fun z => aE_loc (ls' := [_, _, _, _]) rfl ?_)
  refine aE_iload_n dX11_morning_0 rfl rfl ?_
  refine aE_if_lt (tgt := 24) dX11_morning_1 (by decide) (fun h1 => ?_) (fun h1 => ?_)
  · skip
    refine aE_aload_n dX11_morning_24 rfl rfl ?_
    refine aE_ldc dX11_morning_25 ct_X11_78 ?_
    refine aE_cVi dX11_morning_27 lk_X11_62 mv_X11_found (c_found _) rfl (lt_nn (by decide)) rfl rfl ⟨by decide, by decide⟩ (Nat.le_of_ble_eq_true rfl) ⟨rfl, rfl⟩ ⟨by decide, by decide⟩ ?_
    refine aE_iret dX11_morning_30 rfl ⟨by decide, by decide⟩ ?_
    first
      | exact hB (Or.inl h1)
      | exact hB (Or.inr (Or.inl h11))
      | exact hB (Or.inr (Or.inr h21))
      | exact hB (Or.inr (Or.inr (Classical.not_not.mp h21)))
  · skip
    refine aE_iload_n dX11_morning_4 rfl rfl ?_
    refine aE_iconst (v := 0) dX11_morning_5 rfl ?_
    refine aE_bipush (v := 60) dX11_morning_6 (by decide) ?_
    refine aE_cSi dX11_morning_8 lk_X11_74 ms_X11_within (c_within _ _ _) rfl rfl ⟨by decide, by decide⟩ (Nat.le_of_ble_eq_true rfl) ⟨rfl, rfl⟩ ⟨by decide, by decide⟩ ?_
    refine aE_if_eq (tgt := 24) dX11_morning_11 (by decide) (fun h11 => ?_) (fun h11 => ?_)
    · skip
      refine aE_aload_n dX11_morning_24 rfl rfl ?_
      refine aE_ldc dX11_morning_25 ct_X11_78 ?_
      refine aE_cVi dX11_morning_27 lk_X11_62 mv_X11_found (c_found _) rfl (lt_nn (by decide)) rfl rfl ⟨by decide, by decide⟩ (Nat.le_of_ble_eq_true rfl) ⟨rfl, rfl⟩ ⟨by decide, by decide⟩ ?_
      refine aE_iret dX11_morning_30 rfl ⟨by decide, by decide⟩ ?_
      first
        | exact hB (Or.inl h1)
        | exact hB (Or.inr (Or.inl h11))
        | exact hB (Or.inr (Or.inr h21))
        | exact hB (Or.inr (Or.inr (Classical.not_not.mp h21)))
    · skip
      refine aE_iload_n dX11_morning_14 rfl rfl ?_
      refine aE_iconst (v := 0) dX11_morning_15 rfl ?_
      refine aE_bipush (v := 10) dX11_morning_16 (by decide) ?_
      refine aE_cSi dX11_morning_18 lk_X11_74 ms_X11_within (c_within _ _ _) rfl rfl ⟨by decide, by decide⟩ (Nat.le_of_ble_eq_true rfl) ⟨rfl, rfl⟩ ⟨by decide, by decide⟩ ?_
      refine aE_if_ne (tgt := 31) dX11_morning_21 (by decide) (fun h21 => ?_) (fun h21 => ?_)
      · skip
        refine aE_aload_n dX11_morning_31 rfl rfl ?_
        refine aE_cVq dX11_morning_32 lk_X11_225 mv_X11_linkChains (c_linkChains_t (Q := (fun (r : Option Value) (n' : Nat) (m' : aM) => n' = nn true ∧ ((r = some (.int 0) ∧ ∃ J, m' = MM J sp true ∧ DP I J sp ns nstr nc d cs fr to ∧ allH d cs (alC I sp d) ns = false) ∨ (r = some (.int 1) ∧ ∃ K, m' = MM K sp true ∧ LC I K sp ns nstr nc d cs fr to ∧ allH d cs (alC I sp d) ns = true)))) hW hbe hsl hst hch (fun J a b => ⟨rfl, Or.inl ⟨rfl, J, rfl, a, b⟩⟩) (fun K a b => ⟨rfl, Or.inr ⟨rfl, K, rfl, a, b⟩⟩)) rfl (lt_nn (by decide)) rfl rfl ⟨by decide, by decide⟩ (Nat.le_of_ble_eq_true rfl) ⟨rfl, rfl⟩ ⟨by decide, by decide⟩ ?_
        rintro r n' m' ⟨rfl, ⟨rfl, J, rfl, hJ, hah⟩ | ⟨rfl, K, rfl, hK, hah⟩⟩
        · skip
          refine aE_if_eq (tgt := 49) dX11_morning_35 (by decide) (fun h35 => ?_) (fun h35 => absurd (rfl) h35)
          refine aE_aload_n dX11_morning_49 rfl rfl ?_
          refine aE_ldc dX11_morning_50 ct_X11_98 ?_
          refine aE_cVi dX11_morning_52 lk_X11_62 mv_X11_found (c_found _) rfl (lt_nn (by decide)) rfl rfl ⟨by decide, by decide⟩ (Nat.le_of_ble_eq_true rfl) ⟨rfl, rfl⟩ ⟨by decide, by decide⟩ ?_
          refine aE_iret dX11_morning_55 rfl ⟨by decide, by decide⟩ ?_
          exact hN J h1 hJ hah
        · have hK2 := hK
          obtain ⟨⟨J, hJ, hJK⟩, k08, kch, kW, kP, kF, k07⟩ := hK
          have hA := CW_al hW
          have h10 := hA.2.1
          have e5 : K 5 = I 5 := funext fun i => (hJK _ _ (by omega) (by omega) (by omega) (by omega)).trans (hJ.1 _ _ (by omega) (by omega) (by omega) (by omega) (by omega) (by omega) (by omega) (by omega) (by omega))
          have e6 : K 6 = I 6 := funext fun i => (hJK _ _ (by omega) (by omega) (by omega) (by omega)).trans (hJ.1 _ _ (by omega) (by omega) (by omega) (by omega) (by omega) (by omega) (by omega) (by omega) (by omega))
          have e26 : (fun s => K 26 s) = (fun s => I 26 s) := funext fun i => (hJK _ _ (by omega) (by omega) (by omega) (by omega)).trans (hJ.1 _ _ (by omega) (by omega) (by omega) (by omega) (by omega) (by omega) (by omega) (by omega) (by omega))
          have hsn2 : 0 ≤ snow.toInt ∧ snow.toInt ≤ 10 := by
            have := wi_1 h21
            rw [Int32.le_iff_toInt_le, Int32.le_iff_toInt_le] at this
            exact this
          refine aE_if_eq (tgt := 49) dX11_morning_35 (by decide) (fun h35 => absurd h35 (by decide)) (fun h35 => ?_)
          refine aE_aload_n dX11_morning_38 rfl rfl ?_
          refine aE_getf (v := .ref 54) dX11_morning_39 fw_X11_19 (lt_nn (by decide)) rfl rfl ?_
          refine aE_iload_n dX11_morning_42 rfl rfl ?_
          refine aE_cVq dX11_morning_43 lk_X11_214 mv_X1_has (c_fhas (Q := (fun (r : Option Value) (n' : Nat) (m' : aM) => n' = nn true ∧ m' = MM K sp true ∧ ((r = some (.int 0) ∧ nI (RR d cs (alC I sp d) ns).length ≤ route) ∨ (r = some (.int 1) ∧ route < nI (RR d cs (alC I sp d) ns).length)))) route (RR d cs (alC I sp d) ns).length kF.2.1 h10 (fun q => ⟨rfl, rfl, Or.inl ⟨rfl, by
              rcases q with q | q
              · have := kF.1; rw [hah, q] at this; exact absurd this (by decide)
              · exact Int32.not_lt.mp (fun w => wi_0 q ⟨Int32.not_lt.mp h1, by
                  obtain ⟨x, hx, rfl⟩ := nI_of h1
                  have hx2 := (nI_ltI hx (by omega)).mp w
                  obtain ⟨y, hy⟩ : ∃ y, (RR d cs (alC I sp d) ns).length = y + 1 := ⟨(RR d cs (alC I sp d) ns).length - 1, by omega⟩
                  rw [hy, nI_pred]
                  exact (nI_leI hx (by omega)).mpr (by omega)⟩)⟩⟩) (fun q w => ⟨rfl, rfl, Or.inr ⟨rfl, by
              obtain ⟨x, hx, e⟩ := wi_ix (by omega) w
              rw [e]
              exact nI_lt hx (by omega)⟩⟩)) rfl (lt_nn (by decide)) rfl rfl ⟨by decide, by decide⟩ (Nat.le_of_ble_eq_true rfl) ⟨rfl, rfl⟩ ⟨by decide, by decide⟩ ?_
          rintro r n' m' ⟨rfl, rfl, ⟨rfl, hx⟩ | ⟨rfl, hx⟩⟩
          · skip
            refine aE_if_ne (tgt := 56) dX11_morning_46 (by decide) (fun h46 => absurd (rfl) h46) (fun h46 => ?_)
            refine aE_aload_n dX11_morning_49 rfl rfl ?_
            refine aE_ldc dX11_morning_50 ct_X11_98 ?_
            refine aE_cVi dX11_morning_52 lk_X11_62 mv_X11_found (c_found _) rfl (lt_nn (by decide)) rfl rfl ⟨by decide, by decide⟩ (Nat.le_of_ble_eq_true rfl) ⟨rfl, rfl⟩ ⟨by decide, by decide⟩ ?_
            refine aE_iret dX11_morning_55 rfl ⟨by decide, by decide⟩ ?_
            exact hN2 K h1 hK2 hah hx
          · skip
            refine aE_if_ne (tgt := 56) dX11_morning_46 (by decide) (fun h46 => ?_) (fun h46 => absurd h46 (by decide))
            refine aE_aload_n dX11_morning_56 rfl rfl ?_
            refine aE_getf (v := .ref 90) dX11_morning_57 fw_X11_40 (lt_nn (by decide)) rfl rfl ?_
            refine aE_aload_n dX11_morning_60 rfl rfl ?_
            refine aE_getf (v := .ref 1) dX11_morning_61 fw_X11_10 (lt_nn (by decide)) rfl rfl ?_
            refine aE_aload_n dX11_morning_64 rfl rfl ?_
            refine aE_getf (v := .ref 54) dX11_morning_65 fw_X11_19 (lt_nn (by decide)) rfl rfl ?_
            refine aE_iload_n dX11_morning_68 rfl rfl ?_
            refine aE_iload_n dX11_morning_69 rfl rfl ?_
            refine aE_iload_n dX11_morning_70 rfl rfl ?_
            refine aE_cVq dX11_morning_71 lk_X11_280 mv_X4_drive (c_drive (Q := (fun (r : Option Value) (n' : Nat) (m' : aM) => n' = nn true ∧ ∃ X, m' = MM X sp true ∧ r = some (.int (drA (mpM d cs (RR d cs (alC I sp d) ns) (dTab fr to (I 5) (I 6) snow nstr) (fun s => I 26 s) d.2.2.2.1 route late) (nxG (fC I sp ns d cs) (RR d cs (alC I sp d) ns).length) (fun r => isF (nxG (fC I sp ns d cs) (RR d cs (alC I sp d) ns).length) r (RR d cs (alC I sp d) ns).length) (RR d cs (alC I sp d) ns).length (RR d cs (alC I sp d) ns).length (C, 0)).2) ∧ (∀ q i, q ≠ 91 → ¬ (q = 90 ∧ i = 0) → ¬ (17 ≤ q ∧ q < 25) → X q i = K q i) ∧ X 90 0 = nI (RR d cs (alC I sp d) ns).length ∧ (∀ r, r < (RR d cs (alC I sp d) ns).length → X 91 r = (drA (mpM d cs (RR d cs (alC I sp d) ns) (dTab fr to (I 5) (I 6) snow nstr) (fun s => I 26 s) d.2.2.2.1 route late) (nxG (fC I sp ns d cs) (RR d cs (alC I sp d) ns).length) (fun r => isF (nxG (fC I sp ns d cs) (RR d cs (alC I sp d) ns).length) r (RR d cs (alC I sp d) ns).length) (RR d cs (alC I sp d) ns).length (RR d cs (alC I sp d) ns).length (C, 0)).1 r))) kW hA kP kF.2.2.2.1 kF.2.1 (fC I sp ns d cs) kch dp hdp hdn route late snow (fun s hs => by rw [e5]; have := hmi s hs; rw [i_add (by omega) (by omega)]; omega) C (fun X a b c => by rw [e5, e6, e26] at c ⊢; exact ⟨rfl, X, rfl, rfl, a, b, c⟩)) rfl (lt_nn (by decide)) rfl rfl ⟨by decide, by decide⟩ (Nat.le_of_ble_eq_true rfl) ⟨rfl, rfl⟩ ⟨by decide, by decide⟩ ?_
            rintro r n' m' ⟨rfl, X, rfl, rfl, x1, x2, x3⟩
            refine aE_iret dX11_morning_74 rfl ⟨by decide, by decide⟩ ?_
            exact hO K X h1 hx hK2 hah x1 x2 x3
      · skip
        refine aE_aload_n dX11_morning_24 rfl rfl ?_
        refine aE_ldc dX11_morning_25 ct_X11_78 ?_
        refine aE_cVi dX11_morning_27 lk_X11_62 mv_X11_found (c_found _) rfl (lt_nn (by decide)) rfl rfl ⟨by decide, by decide⟩ (Nat.le_of_ble_eq_true rfl) ⟨rfl, rfl⟩ ⟨by decide, by decide⟩ ?_
        refine aE_iret dX11_morning_30 rfl ⟨by decide, by decide⟩ ?_
        first
          | exact hB (Or.inl h1)
          | exact hB (Or.inr (Or.inl h11))
          | exact hB (Or.inr (Or.inr h21))
          | exact hB (Or.inr (Or.inr (Classical.not_not.mp h21)))

set_option maxRecDepth 20000 in
theorem c_morning_f (route late snow : Int32) (dp : Nat → Nat) (C : Nat → Int32) (hW : CW I sp ns nstr nc d cs fr to) (hbe : ∀ s, s < ns → 0 ≤ (I 26 s).toInt ∧ (I 26 s).toInt ≤ 6) (hsl : 0 ≤ (I 1 8).toInt ∧ (I 1 8).toInt ≤ 30) (hch : ¬ I 0 8 = 0 → ¬ I 0 7 = 0 ∧ ChC I (fC I sp ns d cs) (RR d cs (alC I sp d) ns).length) (hdp : dpOK (nxG (fC I sp ns d cs) (RR d cs (alC I sp d) ns).length) (RR d cs (alC I sp d) ns).length dp) (hdn : ∀ r, r < (RR d cs (alC I sp d) ns).length → dp r < (RR d cs (alC I sp d) ns).length) (hmi : ∀ s, s < nstr → 0 ≤ (I 5 s).toInt ∧ (I 5 s).toInt ≤ 20) (h07 : I 0 7 = 0) (hG : ¬ (route < 0 ∨ wi late 0 60 = 0 ∨ wi snow 0 10 = 0)) (hN : ∀ J, ¬ route < 0 → DP I J sp ns nstr nc d cs fr to → allH d cs (alC I sp d) ns = false → qi Q (-1000004) (fnd J) sp true) (hN2 : ∀ K, ¬ route < 0 → LC I K sp ns nstr nc d cs fr to → allH d cs (alC I sp d) ns = true → nI (RR d cs (alC I sp d) ns).length ≤ route → qi Q (-1000004) (fnd K) sp true) (hO : ∀ K X, ¬ route < 0 → route < nI (RR d cs (alC I sp d) ns).length → LC I K sp ns nstr nc d cs fr to → allH d cs (alC I sp d) ns = true → (∀ q i, q ≠ 91 → ¬ (q = 90 ∧ i = 0) → ¬ (17 ≤ q ∧ q < 25) → X q i = K q i) → X 90 0 = nI (RR d cs (alC I sp d) ns).length → (∀ r, r < (RR d cs (alC I sp d) ns).length → X 91 r = (drA (mpM d cs (RR d cs (alC I sp d) ns) (dTab fr to (I 5) (I 6) snow nstr) (fun s => I 26 s) d.2.2.2.1 route late) (nxG (fC I sp ns d cs) (RR d cs (alC I sp d) ns).length) (fun r => isF (nxG (fC I sp ns d cs) (RR d cs (alC I sp d) ns).length) r (RR d cs (alC I sp d) ns).length) (RR d cs (alC I sp d) ns).length (RR d cs (alC I sp d) ns).length (C, 0)).1 r) → qi Q (drA (mpM d cs (RR d cs (alC I sp d) ns) (dTab fr to (I 5) (I 6) snow nstr) (fun s => I 26 s) d.2.2.2.1 route late) (nxG (fC I sp ns d cs) (RR d cs (alC I sp d) ns).length) (fun r => isF (nxG (fC I sp ns d cs) (RR d cs (alC I sp d) ns).length) r (RR d cs (alC I sp d) ns).length) (RR d cs (alC I sp d) ns).length (RR d cs (alC I sp d) ns).length (C, 0)).2 X sp true) : aRuns mX11_morning (rP 7) [.ref 0, .int route, .int late, .int snow] (nn false) (MM I sp false) Q := by
  refine aRuns_of pn_X11_morning (Nat.le_of_ble_eq_true rfl) (fun z => aE_loc (ls' := [_, _, _, _]) rfl ?_)
  refine aE_iload_n dX11_morning_0 rfl rfl ?_
  refine aE_if_lt (tgt := 24) dX11_morning_1 (by decide) (fun h1 => ?_) (fun h1 => ?_)
  · skip
    refine aE_aload_n dX11_morning_24 rfl rfl ?_
    refine aE_ldc dX11_morning_25 ct_X11_78 ?_
    refine aE_cVi dX11_morning_27 lk_X11_62 mv_X11_found (c_found _) rfl (lt_nn (by decide)) rfl rfl ⟨by decide, by decide⟩ (Nat.le_of_ble_eq_true rfl) ⟨rfl, rfl⟩ ⟨by decide, by decide⟩ ?_
    refine aE_iret dX11_morning_30 rfl ⟨by decide, by decide⟩ ?_
    first
      | exact absurd (Or.inl h1) hG
      | exact absurd (Or.inr (Or.inl h11)) hG
      | exact absurd (Or.inr (Or.inr h21)) hG
      | exact absurd (Or.inr (Or.inr (Classical.not_not.mp h21))) hG
  · skip
    refine aE_iload_n dX11_morning_4 rfl rfl ?_
    refine aE_iconst (v := 0) dX11_morning_5 rfl ?_
    refine aE_bipush (v := 60) dX11_morning_6 (by decide) ?_
    refine aE_cSi dX11_morning_8 lk_X11_74 ms_X11_within (c_within _ _ _) rfl rfl ⟨by decide, by decide⟩ (Nat.le_of_ble_eq_true rfl) ⟨rfl, rfl⟩ ⟨by decide, by decide⟩ ?_
    refine aE_if_eq (tgt := 24) dX11_morning_11 (by decide) (fun h11 => ?_) (fun h11 => ?_)
    · skip
      refine aE_aload_n dX11_morning_24 rfl rfl ?_
      refine aE_ldc dX11_morning_25 ct_X11_78 ?_
      refine aE_cVi dX11_morning_27 lk_X11_62 mv_X11_found (c_found _) rfl (lt_nn (by decide)) rfl rfl ⟨by decide, by decide⟩ (Nat.le_of_ble_eq_true rfl) ⟨rfl, rfl⟩ ⟨by decide, by decide⟩ ?_
      refine aE_iret dX11_morning_30 rfl ⟨by decide, by decide⟩ ?_
      first
        | exact absurd (Or.inl h1) hG
        | exact absurd (Or.inr (Or.inl h11)) hG
        | exact absurd (Or.inr (Or.inr h21)) hG
        | exact absurd (Or.inr (Or.inr (Classical.not_not.mp h21))) hG
    · skip
      refine aE_iload_n dX11_morning_14 rfl rfl ?_
      refine aE_iconst (v := 0) dX11_morning_15 rfl ?_
      refine aE_bipush (v := 10) dX11_morning_16 (by decide) ?_
      refine aE_cSi dX11_morning_18 lk_X11_74 ms_X11_within (c_within _ _ _) rfl rfl ⟨by decide, by decide⟩ (Nat.le_of_ble_eq_true rfl) ⟨rfl, rfl⟩ ⟨by decide, by decide⟩ ?_
      refine aE_if_ne (tgt := 31) dX11_morning_21 (by decide) (fun h21 => ?_) (fun h21 => ?_)
      · skip
        refine aE_aload_n dX11_morning_31 rfl rfl ?_
        refine aE_callV dX11_morning_32 lk_X11_225 mv_X11_linkChains (c_linkChains_f (Q := (fun (r : Option Value) (n' : Nat) (m' : aM) => n' = nn true ∧ ((r = some (.int 0) ∧ ∃ J, m' = MM J sp true ∧ DP I J sp ns nstr nc d cs fr to ∧ allH d cs (alC I sp d) ns = false) ∨ (r = some (.int 1) ∧ ∃ K, m' = MM K sp true ∧ LC I K sp ns nstr nc d cs fr to ∧ allH d cs (alC I sp d) ns = true)))) hW hbe hsl h07 hch (fun J a b => ⟨rfl, Or.inl ⟨rfl, J, rfl, a, b⟩⟩) (fun K a b => ⟨rfl, Or.inr ⟨rfl, K, rfl, a, b⟩⟩)) rfl (lt_nn (by decide)) rfl rfl ⟨by decide, by decide⟩ (Nat.le_of_ble_eq_true rfl) ⟨by decide, by decide⟩ ?_
        rintro r n' m' ⟨rfl, ⟨rfl, J, rfl, hJ, hah⟩ | ⟨rfl, K, rfl, hK, hah⟩⟩
        · skip
          refine aE_if_eq (tgt := 49) dX11_morning_35 (by decide) (fun h35 => ?_) (fun h35 => absurd (rfl) h35)
          refine aE_aload_n dX11_morning_49 rfl rfl ?_
          refine aE_ldc dX11_morning_50 ct_X11_98 ?_
          refine aE_cVi dX11_morning_52 lk_X11_62 mv_X11_found (c_found _) rfl (lt_nn (by decide)) rfl rfl ⟨by decide, by decide⟩ (Nat.le_of_ble_eq_true rfl) ⟨rfl, rfl⟩ ⟨by decide, by decide⟩ ?_
          refine aE_iret dX11_morning_55 rfl ⟨by decide, by decide⟩ ?_
          exact hN J h1 hJ hah
        · have hK2 := hK
          obtain ⟨⟨J, hJ, hJK⟩, k08, kch, kW, kP, kF, k07⟩ := hK
          have hA := CW_al hW
          have h10 := hA.2.1
          have e5 : K 5 = I 5 := funext fun i => (hJK _ _ (by omega) (by omega) (by omega) (by omega)).trans (hJ.1 _ _ (by omega) (by omega) (by omega) (by omega) (by omega) (by omega) (by omega) (by omega) (by omega))
          have e6 : K 6 = I 6 := funext fun i => (hJK _ _ (by omega) (by omega) (by omega) (by omega)).trans (hJ.1 _ _ (by omega) (by omega) (by omega) (by omega) (by omega) (by omega) (by omega) (by omega) (by omega))
          have e26 : (fun s => K 26 s) = (fun s => I 26 s) := funext fun i => (hJK _ _ (by omega) (by omega) (by omega) (by omega)).trans (hJ.1 _ _ (by omega) (by omega) (by omega) (by omega) (by omega) (by omega) (by omega) (by omega) (by omega))
          have hsn2 : 0 ≤ snow.toInt ∧ snow.toInt ≤ 10 := by
            have := wi_1 h21
            rw [Int32.le_iff_toInt_le, Int32.le_iff_toInt_le] at this
            exact this
          refine aE_if_eq (tgt := 49) dX11_morning_35 (by decide) (fun h35 => absurd h35 (by decide)) (fun h35 => ?_)
          refine aE_aload_n dX11_morning_38 rfl rfl ?_
          refine aE_getf (v := .ref 54) dX11_morning_39 fw_X11_19 (lt_nn (by decide)) rfl rfl ?_
          refine aE_iload_n dX11_morning_42 rfl rfl ?_
          refine aE_cVq dX11_morning_43 lk_X11_214 mv_X1_has (c_fhas (Q := (fun (r : Option Value) (n' : Nat) (m' : aM) => n' = nn true ∧ m' = MM K sp true ∧ ((r = some (.int 0) ∧ nI (RR d cs (alC I sp d) ns).length ≤ route) ∨ (r = some (.int 1) ∧ route < nI (RR d cs (alC I sp d) ns).length)))) route (RR d cs (alC I sp d) ns).length kF.2.1 h10 (fun q => ⟨rfl, rfl, Or.inl ⟨rfl, by
              rcases q with q | q
              · have := kF.1; rw [hah, q] at this; exact absurd this (by decide)
              · exact Int32.not_lt.mp (fun w => wi_0 q ⟨Int32.not_lt.mp h1, by
                  obtain ⟨x, hx, rfl⟩ := nI_of h1
                  have hx2 := (nI_ltI hx (by omega)).mp w
                  obtain ⟨y, hy⟩ : ∃ y, (RR d cs (alC I sp d) ns).length = y + 1 := ⟨(RR d cs (alC I sp d) ns).length - 1, by omega⟩
                  rw [hy, nI_pred]
                  exact (nI_leI hx (by omega)).mpr (by omega)⟩)⟩⟩) (fun q w => ⟨rfl, rfl, Or.inr ⟨rfl, by
              obtain ⟨x, hx, e⟩ := wi_ix (by omega) w
              rw [e]
              exact nI_lt hx (by omega)⟩⟩)) rfl (lt_nn (by decide)) rfl rfl ⟨by decide, by decide⟩ (Nat.le_of_ble_eq_true rfl) ⟨rfl, rfl⟩ ⟨by decide, by decide⟩ ?_
          rintro r n' m' ⟨rfl, rfl, ⟨rfl, hx⟩ | ⟨rfl, hx⟩⟩
          · skip
            refine aE_if_ne (tgt := 56) dX11_morning_46 (by decide) (fun h46 => absurd (rfl) h46) (fun h46 => ?_)
            refine aE_aload_n dX11_morning_49 rfl rfl ?_
            refine aE_ldc dX11_morning_50 ct_X11_98 ?_
            refine aE_cVi dX11_morning_52 lk_X11_62 mv_X11_found (c_found _) rfl (lt_nn (by decide)) rfl rfl ⟨by decide, by decide⟩ (Nat.le_of_ble_eq_true rfl) ⟨rfl, rfl⟩ ⟨by decide, by decide⟩ ?_
            refine aE_iret dX11_morning_55 rfl ⟨by decide, by decide⟩ ?_
            exact hN2 K h1 hK2 hah hx
          · skip
            refine aE_if_ne (tgt := 56) dX11_morning_46 (by decide) (fun h46 => ?_) (fun h46 => absurd h46 (by decide))
            refine aE_aload_n dX11_morning_56 rfl rfl ?_
            refine aE_getf (v := .ref 90) dX11_morning_57 fw_X11_40 (lt_nn (by decide)) rfl rfl ?_
            refine aE_aload_n dX11_morning_60 rfl rfl ?_
            refine aE_getf (v := .ref 1) dX11_morning_61 fw_X11_10 (lt_nn (by decide)) rfl rfl ?_
            refine aE_aload_n dX11_morning_64 rfl rfl ?_
            refine aE_getf (v := .ref 54) dX11_morning_65 fw_X11_19 (lt_nn (by decide)) rfl rfl ?_
            refine aE_iload_n dX11_morning_68 rfl rfl ?_
            refine aE_iload_n dX11_morning_69 rfl rfl ?_
            refine aE_iload_n dX11_morning_70 rfl rfl ?_
            refine aE_cVq dX11_morning_71 lk_X11_280 mv_X4_drive (c_drive (Q := (fun (r : Option Value) (n' : Nat) (m' : aM) => n' = nn true ∧ ∃ X, m' = MM X sp true ∧ r = some (.int (drA (mpM d cs (RR d cs (alC I sp d) ns) (dTab fr to (I 5) (I 6) snow nstr) (fun s => I 26 s) d.2.2.2.1 route late) (nxG (fC I sp ns d cs) (RR d cs (alC I sp d) ns).length) (fun r => isF (nxG (fC I sp ns d cs) (RR d cs (alC I sp d) ns).length) r (RR d cs (alC I sp d) ns).length) (RR d cs (alC I sp d) ns).length (RR d cs (alC I sp d) ns).length (C, 0)).2) ∧ (∀ q i, q ≠ 91 → ¬ (q = 90 ∧ i = 0) → ¬ (17 ≤ q ∧ q < 25) → X q i = K q i) ∧ X 90 0 = nI (RR d cs (alC I sp d) ns).length ∧ (∀ r, r < (RR d cs (alC I sp d) ns).length → X 91 r = (drA (mpM d cs (RR d cs (alC I sp d) ns) (dTab fr to (I 5) (I 6) snow nstr) (fun s => I 26 s) d.2.2.2.1 route late) (nxG (fC I sp ns d cs) (RR d cs (alC I sp d) ns).length) (fun r => isF (nxG (fC I sp ns d cs) (RR d cs (alC I sp d) ns).length) r (RR d cs (alC I sp d) ns).length) (RR d cs (alC I sp d) ns).length (RR d cs (alC I sp d) ns).length (C, 0)).1 r))) kW hA kP kF.2.2.2.1 kF.2.1 (fC I sp ns d cs) kch dp hdp hdn route late snow (fun s hs => by rw [e5]; have := hmi s hs; rw [i_add (by omega) (by omega)]; omega) C (fun X a b c => by rw [e5, e6, e26] at c ⊢; exact ⟨rfl, X, rfl, rfl, a, b, c⟩)) rfl (lt_nn (by decide)) rfl rfl ⟨by decide, by decide⟩ (Nat.le_of_ble_eq_true rfl) ⟨rfl, rfl⟩ ⟨by decide, by decide⟩ ?_
            rintro r n' m' ⟨rfl, X, rfl, rfl, x1, x2, x3⟩
            refine aE_iret dX11_morning_74 rfl ⟨by decide, by decide⟩ ?_
            exact hO K X h1 hx hK2 hah x1 x2 x3
      · skip
        refine aE_aload_n dX11_morning_24 rfl rfl ?_
        refine aE_ldc dX11_morning_25 ct_X11_78 ?_
        refine aE_cVi dX11_morning_27 lk_X11_62 mv_X11_found (c_found _) rfl (lt_nn (by decide)) rfl rfl ⟨by decide, by decide⟩ (Nat.le_of_ble_eq_true rfl) ⟨rfl, rfl⟩ ⟨by decide, by decide⟩ ?_
        refine aE_iret dX11_morning_30 rfl ⟨by decide, by decide⟩ ?_
        first
          | exact absurd (Or.inl h1) hG
          | exact absurd (Or.inr (Or.inl h11)) hG
          | exact absurd (Or.inr (Or.inr h21)) hG
          | exact absurd (Or.inr (Or.inr (Classical.not_not.mp h21))) hG

set_option maxRecDepth 20000 in
theorem c_morning_b (route late snow : Int32) (dp : Nat → Nat) (C : Nat → Int32) (hW : CW I sp ns nstr nc d cs fr to) (hbe : ∀ s, s < ns → 0 ≤ (I 26 s).toInt ∧ (I 26 s).toInt ≤ 6) (hsl : 0 ≤ (I 1 8).toInt ∧ (I 1 8).toInt ≤ 30) (hch : ¬ I 0 8 = 0 → ¬ I 0 7 = 0 ∧ ChC I (fC I sp ns d cs) (RR d cs (alC I sp d) ns).length) (hdp : dpOK (nxG (fC I sp ns d cs) (RR d cs (alC I sp d) ns).length) (RR d cs (alC I sp d) ns).length dp) (hdn : ∀ r, r < (RR d cs (alC I sp d) ns).length → dp r < (RR d cs (alC I sp d) ns).length) (hmi : ∀ s, s < nstr → 0 ≤ (I 5 s).toInt ∧ (I 5 s).toInt ≤ 20) (hb : route < 0 ∨ wi late 0 60 = 0 ∨ wi snow 0 10 = 0) (hB : qi Q (-1000001) (fnd I) sp false) : aRuns mX11_morning (rK 7) [.ref 0, .int route, .int late, .int snow] (nn false) (MM I sp false) Q := by
  refine aRuns_of pn_X11_morning (Nat.le_of_ble_eq_true rfl) (fun z => aE_loc (ls' := [_, _, _, _]) rfl ?_)
  refine aE_iload_n dX11_morning_0 rfl rfl ?_
  refine aE_if_lt (tgt := 24) dX11_morning_1 (by decide) (fun h1 => ?_) (fun h1 => ?_)
  · skip
    refine aE_aload_n dX11_morning_24 rfl rfl ?_
    refine aE_ldc dX11_morning_25 ct_X11_78 ?_
    refine aE_cVi dX11_morning_27 lk_X11_62 mv_X11_found (c_found _) rfl (lt_nn (by decide)) rfl rfl ⟨by decide, by decide⟩ (Nat.le_of_ble_eq_true rfl) ⟨rfl, rfl⟩ ⟨by decide, by decide⟩ ?_
    refine aE_iret dX11_morning_30 rfl ⟨by decide, by decide⟩ ?_
    exact hB
  · skip
    refine aE_iload_n dX11_morning_4 rfl rfl ?_
    refine aE_iconst (v := 0) dX11_morning_5 rfl ?_
    refine aE_bipush (v := 60) dX11_morning_6 (by decide) ?_
    refine aE_cSi dX11_morning_8 lk_X11_74 ms_X11_within (c_within _ _ _) rfl rfl ⟨by decide, by decide⟩ (Nat.le_of_ble_eq_true rfl) ⟨rfl, rfl⟩ ⟨by decide, by decide⟩ ?_
    refine aE_if_eq (tgt := 24) dX11_morning_11 (by decide) (fun h11 => ?_) (fun h11 => ?_)
    · skip
      refine aE_aload_n dX11_morning_24 rfl rfl ?_
      refine aE_ldc dX11_morning_25 ct_X11_78 ?_
      refine aE_cVi dX11_morning_27 lk_X11_62 mv_X11_found (c_found _) rfl (lt_nn (by decide)) rfl rfl ⟨by decide, by decide⟩ (Nat.le_of_ble_eq_true rfl) ⟨rfl, rfl⟩ ⟨by decide, by decide⟩ ?_
      refine aE_iret dX11_morning_30 rfl ⟨by decide, by decide⟩ ?_
      exact hB
    · skip
      refine aE_iload_n dX11_morning_14 rfl rfl ?_
      refine aE_iconst (v := 0) dX11_morning_15 rfl ?_
      refine aE_bipush (v := 10) dX11_morning_16 (by decide) ?_
      refine aE_cSi dX11_morning_18 lk_X11_74 ms_X11_within (c_within _ _ _) rfl rfl ⟨by decide, by decide⟩ (Nat.le_of_ble_eq_true rfl) ⟨rfl, rfl⟩ ⟨by decide, by decide⟩ ?_
      refine aE_if_ne (tgt := 31) dX11_morning_21 (by decide) (fun h21 => ?_) (fun h21 => ?_)
      · skip
        exact absurd hb (fun q => by rcases q with q | q | q; exact h1 q; exact h11 q; exact h21 q)
      · skip
        refine aE_aload_n dX11_morning_24 rfl rfl ?_
        refine aE_ldc dX11_morning_25 ct_X11_78 ?_
        refine aE_cVi dX11_morning_27 lk_X11_62 mv_X11_found (c_found _) rfl (lt_nn (by decide)) rfl rfl ⟨by decide, by decide⟩ (Nat.le_of_ble_eq_true rfl) ⟨rfl, rfl⟩ ⟨by decide, by decide⟩ ?_
        refine aE_iret dX11_morning_30 rfl ⟨by decide, by decide⟩ ?_
        exact hB

theorem l_fa0 (hW : CW I sp ns nstr nc d cs fr to) (sc : Nat → Nat) (hsc : ∀ k, k < d.1 → sc k < ns ∧ I (sp k) 0 = nI (sc k)) (q : Int32) (hQ : qi Q (faF 0 (fun k => I (sp k) 3) q d.2.2.2.1 (fun k => rideL d cs k (RR d cs al ns)) (fun k => I (28 + 4 * sc k) 2 - I 26 (sc k)) d.1) I sp pl) : ∀ (e k : Nat), k + e = d.1 → aE z mX0_pupilsFrom (rK 1) Q 4 [some (.ref 1), some (.int q), some (.int (faF 0 (fun k => I (sp k) 3) q d.2.2.2.1 (fun k => rideL d cs k (RR d cs al ns)) (fun k => I (28 + 4 * sc k) 2 - I 26 (sc k)) k)), some (.int (nI k))] [] (nn pl) (MM I sp pl) 0 0 := by
  obtain ⟨hn, h10⟩ := hW.2.2.2.2.2.2.1
  have hsp := hW.2.2.2.2.2.2.2.1
  have hs4 := hW.1.2
  intro e
  induction e with
  | zero =>
    intro k hk
    have hk : k = d.1 := by omega
    subst hk
    refine aE_iload_n dX0_pupilsFrom_4 rfl rfl ?_
    refine aE_aload_n dX0_pupilsFrom_5 rfl rfl ?_
    refine aE_geti dX0_pupilsFrom_6 fw_X0_50 (lt_nn (by decide)) rfl (by decide) rfl ?_
    refine aE_icmp_ge (tgt := 43) dX0_pupilsFrom_9 (by decide) (fun h9 => ?_) (fun h9 => absurd (by rw [hn]; exact Int32.le_refl _) h9)
    refine aE_iload_n dX0_pupilsFrom_43 rfl rfl ?_
    refine aE_iret dX0_pupilsFrom_44 rfl ⟨by decide, by decide⟩ ?_
    exact hQ
  | succ e ih =>
    intro k hk
    have hpu := (hW.2.2.2.2.2.2.2.2.1 k (by omega)).2.2.1
    have hsk := (hsc k (by omega)).1
    have ih2 := ih (k + 1) (by omega)
    rw [faF_s] at ih2
    refine aE_iload_n dX0_pupilsFrom_4 rfl rfl ?_
    refine aE_aload_n dX0_pupilsFrom_5 rfl rfl ?_
    refine aE_geti dX0_pupilsFrom_6 fw_X0_50 (lt_nn (by decide)) rfl (by decide) rfl ?_
    refine aE_icmp_ge (tgt := 43) dX0_pupilsFrom_9 (by decide) (fun h9 => absurd h9 (by rw [hn]; exact nI_ge (by omega) (by omega))) (fun h9 => ?_)
    refine aE_aload_n dX0_pupilsFrom_12 rfl rfl ?_
    refine aE_getf (v := .ref 27) dX0_pupilsFrom_13 fw_X0_30 (lt_nn (by decide)) rfl rfl ?_
    refine aE_iload_n dX0_pupilsFrom_16 rfl rfl ?_
    refine aE_aald (t := 103) dX0_pupilsFrom_17 (lt_nn (by decide)) ⟨by decide, by decide⟩ rfl (by decide) rfl (show k < 10 by omega) mm_stop ?_
    refine aE_geti dX0_pupilsFrom_18 fw_X0_69 (lt_nn (by have := (hsp k (by omega)); omega)) (sh_stop (hsp k (by omega))) (mc_stop (i := 3) (hsp k (by omega))).1 (mc_stop (i := 3) (hsp k (by omega))).2 ?_
    refine aE_iload_n dX0_pupilsFrom_21 rfl rfl ?_
    refine aE_icmp_ne (tgt := 37) dX0_pupilsFrom_22 (by decide) (fun h22 => ?_) (fun h22 => ?_)
    · skip
      rw [if_neg h22] at ih2
      refine aE_iinc dX0_pupilsFrom_37 rfl (a_inc _) (by decide) rfl (aE_loc (ls' := [_, _, _, _]) rfl ?_)
      refine aE_goto (tgt := 4) dX0_pupilsFrom_40 (by decide) ?_
      exact ih2
    · skip
      rw [if_pos (by first | exact h22 | exact Classical.not_not.mp h22)] at ih2
      refine aE_iload_n dX0_pupilsFrom_25 rfl rfl ?_
      refine aE_aload_n dX0_pupilsFrom_26 rfl rfl ?_
      refine aE_getf (v := .ref 27) dX0_pupilsFrom_27 fw_X0_30 (lt_nn (by decide)) rfl rfl ?_
      refine aE_iload_n dX0_pupilsFrom_30 rfl rfl ?_
      refine aE_aald (t := 103) dX0_pupilsFrom_31 (lt_nn (by decide)) ⟨by decide, by decide⟩ rfl (by decide) rfl (show k < 10 by omega) mm_stop ?_
      refine aE_geti dX0_pupilsFrom_32 fw_X0_66 (lt_nn (by have := (hsp k (by omega)); omega)) (sh_stop (hsp k (by omega))) (mc_stop (i := 2) (hsp k (by omega))).1 (mc_stop (i := 2) (hsp k (by omega))).2 ?_
      refine aE_top hpu ?_
      refine aE_iadd dX0_pupilsFrom_35 ?_
      refine aE_istore_n dX0_pupilsFrom_36 rfl (by decide) rfl (aE_loc (ls' := [_, _, _, _]) rfl ?_)
      refine aE_iinc dX0_pupilsFrom_37 rfl (a_inc _) (by decide) rfl (aE_loc (ls' := [_, _, _, _]) rfl ?_)
      refine aE_goto (tgt := 4) dX0_pupilsFrom_40 (by decide) ?_
      exact ih2
theorem c_fa0 (hW : CW I sp ns nstr nc d cs fr to) (sc : Nat → Nat) (hsc : ∀ k, k < d.1 → sc k < ns ∧ I (sp k) 0 = nI (sc k)) (q : Int32) : aRuns mX0_pupilsFrom (rK 1) [.ref 1, .int q] (nn pl) (MM I sp pl) (a_ri (faF 0 (fun k => I (sp k) 3) q d.2.2.2.1 (fun k => rideL d cs k (RR d cs al ns)) (fun k => I (28 + 4 * sc k) 2 - I 26 (sc k)) d.1) (nn pl) (MM I sp pl)) := by
  refine aRuns_of pn_X0_pupilsFrom (Nat.le_of_ble_eq_true rfl) (fun z => aE_loc (ls' := [_, _, _, _]) rfl ?_)
  refine aE_iconst (v := 0) dX0_pupilsFrom_0 rfl ?_
  refine aE_istore_n dX0_pupilsFrom_1 rfl (by decide) rfl (aE_loc (ls' := [_, _, _, _]) rfl ?_)
  refine aE_iconst (v := 0) dX0_pupilsFrom_2 rfl ?_
  refine aE_istore_n dX0_pupilsFrom_3 rfl (by decide) rfl (aE_loc (ls' := [_, _, _, _]) rfl ?_)
  exact l_fa0 (al := al) hW sc hsc q ⟨rfl, rfl, rfl⟩ d.1 0 (by omega)
theorem l_fa3 (hW : CW I sp ns nstr nc d cs fr to) (sc : Nat → Nat) (hsc : ∀ k, k < d.1 → sc k < ns ∧ I (sp k) 0 = nI (sc k)) (q : Int32) (hQ : qi Q (faF 3 (fun k => I (sp k) 3) q d.2.2.2.1 (fun k => rideL d cs k (RR d cs al ns)) (fun k => I (28 + 4 * sc k) 2 - I 26 (sc k)) d.1) I sp pl) : ∀ (e k : Nat), k + e = d.1 → ∀ (l4 l5 : Option Value), aE z mX0_earlyFrom (rK 1) Q 4 [some (.ref 1), some (.int q), some (.int (faF 3 (fun k => I (sp k) 3) q d.2.2.2.1 (fun k => rideL d cs k (RR d cs al ns)) (fun k => I (28 + 4 * sc k) 2 - I 26 (sc k)) k)), some (.int (nI k)), l4, l5] [] (nn pl) (MM I sp pl) 0 0 := by
  obtain ⟨hn, h10⟩ := hW.2.2.2.2.2.2.1
  have hsp := hW.2.2.2.2.2.2.2.1
  have hs4 := hW.1.2
  intro e
  induction e with
  | zero =>
    intro k hk l4 l5
    have hk : k = d.1 := by omega
    subst hk
    refine aE_iload_n dX0_earlyFrom_4 rfl rfl ?_
    refine aE_aload_n dX0_earlyFrom_5 rfl rfl ?_
    refine aE_geti dX0_earlyFrom_6 fw_X0_50 (lt_nn (by decide)) rfl (by decide) rfl ?_
    refine aE_icmp_ge (tgt := 84) dX0_earlyFrom_9 (by decide) (fun h9 => ?_) (fun h9 => absurd (by rw [hn]; exact Int32.le_refl _) h9)
    refine aE_iload_n dX0_earlyFrom_84 rfl rfl ?_
    refine aE_iret dX0_earlyFrom_85 rfl ⟨by decide, by decide⟩ ?_
    exact hQ
  | succ e ih =>
    intro k hk l4 l5
    have hpu := (hW.2.2.2.2.2.2.2.2.1 k (by omega)).2.2.1
    have hsk := (hsc k (by omega)).1
    have ih2 := ih (k + 1) (by omega)
    rw [faF_s] at ih2
    refine aE_iload_n dX0_earlyFrom_4 rfl rfl ?_
    refine aE_aload_n dX0_earlyFrom_5 rfl rfl ?_
    refine aE_geti dX0_earlyFrom_6 fw_X0_50 (lt_nn (by decide)) rfl (by decide) rfl ?_
    refine aE_icmp_ge (tgt := 84) dX0_earlyFrom_9 (by decide) (fun h9 => absurd h9 (by rw [hn]; exact nI_ge (by omega) (by omega))) (fun h9 => ?_)
    refine aE_aload_n dX0_earlyFrom_12 rfl rfl ?_
    refine aE_getf (v := .ref 27) dX0_earlyFrom_13 fw_X0_30 (lt_nn (by decide)) rfl rfl ?_
    refine aE_iload_n dX0_earlyFrom_16 rfl rfl ?_
    refine aE_aald (t := 103) dX0_earlyFrom_17 (lt_nn (by decide)) ⟨by decide, by decide⟩ rfl (by decide) rfl (show k < 10 by omega) mm_stop ?_
    refine aE_geti dX0_earlyFrom_18 fw_X0_69 (lt_nn (by have := (hsp k (by omega)); omega)) (sh_stop (hsp k (by omega))) (mc_stop (i := 3) (hsp k (by omega))).1 (mc_stop (i := 3) (hsp k (by omega))).2 ?_
    refine aE_iload_n dX0_earlyFrom_21 rfl rfl ?_
    refine aE_icmp_ne (tgt := 78) dX0_earlyFrom_22 (by decide) (fun h22 => ?_) (fun h22 => ?_)
    · skip
      rw [if_neg h22] at ih2
      refine aE_iinc dX0_earlyFrom_78 rfl (a_inc _) (by decide) rfl (aE_loc (ls' := [_, _, _, _, _, _]) rfl ?_)
      refine aE_goto (tgt := 4) dX0_earlyFrom_81 (by decide) ?_
      exact ih2 _ _
    · skip
      rw [if_pos (by first | exact h22 | exact Classical.not_not.mp h22)] at ih2
      refine aE_aload_n dX0_earlyFrom_25 rfl rfl ?_
      refine aE_getf (v := .ref 27) dX0_earlyFrom_26 fw_X0_30 (lt_nn (by decide)) rfl rfl ?_
      refine aE_iload_n dX0_earlyFrom_29 rfl rfl ?_
      refine aE_aald (t := 103) dX0_earlyFrom_30 (lt_nn (by decide)) ⟨by decide, by decide⟩ rfl (by decide) rfl (show k < 10 by omega) mm_stop ?_
      refine aE_geti dX0_earlyFrom_31 fw_X0_62 (lt_nn (by have := (hsp k (by omega)); omega)) (sh_stop (hsp k (by omega))) (mc_stop (i := 0) (hsp k (by omega))).1 (mc_stop (i := 0) (hsp k (by omega))).2 ?_
      refine aE_top (hsc k (by omega)).2 ?_
      refine aE_istore dX0_earlyFrom_34 (by decide) rfl (aE_loc (ls' := [_, _, _, _, _, _]) rfl ?_)
      refine aE_iconst (v := 0) dX0_earlyFrom_36 rfl ?_
      refine aE_aload_n dX0_earlyFrom_37 rfl rfl ?_
      refine aE_getf (v := .ref 25) dX0_earlyFrom_38 fw_X0_20 (lt_nn (by decide)) rfl rfl ?_
      refine aE_iload dX0_earlyFrom_41 rfl ?_
      refine aE_aald (t := 102) dX0_earlyFrom_43 (lt_nn (by decide)) ⟨by decide, by decide⟩ rfl (by decide) rfl (show sc k < 4 by omega) (mm_schs (show sc k < 4 by omega)) ?_
      refine aE_geti dX0_earlyFrom_44 fw_X0_59 (lt_nn (by omega)) (sh_sch (show sc k < 4 by omega)) (mc_sch (i := 2) (show sc k < 4 by omega) (by decide)).1 (mc_sch (i := 2) (show sc k < 4 by omega) (by decide)).2 ?_
      refine aE_aload_n dX0_earlyFrom_47 rfl rfl ?_
      refine aE_getf (v := .ref 26) dX0_earlyFrom_48 fw_X0_24 (lt_nn (by decide)) rfl rfl ?_
      refine aE_iload dX0_earlyFrom_51 rfl ?_
      refine aE_ildM dX0_earlyFrom_53 (lt_nn (by decide)) rfl (by decide) rfl (by omega) ?_
      refine aE_isub dX0_earlyFrom_54 ?_
      refine aE_max dX0_earlyFrom_55 mm_X0_101 ⟨by decide, by decide⟩ ⟨by decide, by decide⟩ (Nat.le_of_ble_eq_true rfl) ?_
      refine aE_istore dX0_earlyFrom_58 (by decide) rfl (aE_loc (ls' := [_, _, _, _, _, _]) rfl ?_)
      refine aE_iload_n dX0_earlyFrom_60 rfl rfl ?_
      refine aE_aload_n dX0_earlyFrom_61 rfl rfl ?_
      refine aE_getf (v := .ref 27) dX0_earlyFrom_62 fw_X0_30 (lt_nn (by decide)) rfl rfl ?_
      refine aE_iload_n dX0_earlyFrom_65 rfl rfl ?_
      refine aE_aald (t := 103) dX0_earlyFrom_66 (lt_nn (by decide)) ⟨by decide, by decide⟩ rfl (by decide) rfl (show k < 10 by omega) mm_stop ?_
      refine aE_geti dX0_earlyFrom_67 fw_X0_66 (lt_nn (by have := (hsp k (by omega)); omega)) (sh_stop (hsp k (by omega))) (mc_stop (i := 2) (hsp k (by omega))).1 (mc_stop (i := 2) (hsp k (by omega))).2 ?_
      refine aE_top hpu ?_
      refine aE_bipush (v := 20) dX0_earlyFrom_70 (by decide) ?_
      refine aE_imul dX0_earlyFrom_72 ?_
      refine aE_iload dX0_earlyFrom_73 rfl ?_
      refine aE_imul dX0_earlyFrom_75 ?_
      refine aE_iadd dX0_earlyFrom_76 ?_
      refine aE_top (faS_3 _ _ _ ((fun k => rideL d cs k (RR d cs al ns)) k)) ?_
      refine aE_istore_n dX0_earlyFrom_77 rfl (by decide) rfl (aE_loc (ls' := [_, _, _, _, _, _]) rfl ?_)
      refine aE_iinc dX0_earlyFrom_78 rfl (a_inc _) (by decide) rfl (aE_loc (ls' := [_, _, _, _, _, _]) rfl ?_)
      refine aE_goto (tgt := 4) dX0_earlyFrom_81 (by decide) ?_
      exact ih2 _ _
theorem c_fa3 (hW : CW I sp ns nstr nc d cs fr to) (sc : Nat → Nat) (hsc : ∀ k, k < d.1 → sc k < ns ∧ I (sp k) 0 = nI (sc k)) (q : Int32) : aRuns mX0_earlyFrom (rK 1) [.ref 1, .int q] (nn pl) (MM I sp pl) (a_ri (faF 3 (fun k => I (sp k) 3) q d.2.2.2.1 (fun k => rideL d cs k (RR d cs al ns)) (fun k => I (28 + 4 * sc k) 2 - I 26 (sc k)) d.1) (nn pl) (MM I sp pl)) := by
  refine aRuns_of pn_X0_earlyFrom (Nat.le_of_ble_eq_true rfl) (fun z => aE_loc (ls' := [_, _, _, _, _, _]) rfl ?_)
  refine aE_iconst (v := 0) dX0_earlyFrom_0 rfl ?_
  refine aE_istore_n dX0_earlyFrom_1 rfl (by decide) rfl (aE_loc (ls' := [_, _, _, _, _, _]) rfl ?_)
  refine aE_iconst (v := 0) dX0_earlyFrom_2 rfl ?_
  refine aE_istore_n dX0_earlyFrom_3 rfl (by decide) rfl (aE_loc (ls' := [_, _, _, _, _, _]) rfl ?_)
  exact l_fa3 (al := al) hW sc hsc q ⟨rfl, rfl, rfl⟩ d.1 0 (by omega) _ _
theorem l_fa1 {I0 : Nat → Nat → Int32} (hW : CW I0 sp ns nstr nc d cs fr to) (sc : Nat → Nat) (hsc : ∀ k, k < d.1 → sc k < ns ∧ I0 (sp k) 0 = nI (sc k)) (q : Int32) (hA : AlOK d cs al ns) (hP : PCs I0 ns d cs al) (hot : ∀ k, k < d.1 → ∀ s', s' < ns → s' ≠ sc k → (al s').testBit k = false) (hQ : ∀ J, (∀ q w, ¬ (8 ≤ q ∧ q < 16) → ¬ (q = 2 ∧ w = 8) → J q w = I0 q w) → CW J sp ns nstr nc d cs fr to → qi Q (faF 1 (fun k => I0 (sp k) 3) q d.2.2.2.1 (fun k => rideL d cs k (RR d cs al ns)) (fun k => I0 (28 + 4 * sc k) 2 - I0 26 (sc k)) d.1) J sp pl) : ∀ (e k : Nat), k + e = d.1 → ∀ (I : Nat → Nat → Int32), (∀ q w, ¬ (8 ≤ q ∧ q < 16) → ¬ (q = 2 ∧ w = 8) → I q w = I0 q w) → CW I sp ns nstr nc d cs fr to → aE z mX0_ridesFrom (rK 4) Q 4 [some (.ref 1), some (.int q), some (.int (faF 1 (fun k => I0 (sp k) 3) q d.2.2.2.1 (fun k => rideL d cs k (RR d cs al ns)) (fun k => I0 (28 + 4 * sc k) 2 - I0 26 (sc k)) k)), some (.int (nI k))] [] (nn pl) (MM I sp pl) 0 0 := by
  obtain ⟨hn, h10⟩ := hW.2.2.2.2.2.2.1
  have hsp := hW.2.2.2.2.2.2.2.1
  have hs4 := hW.1.2
  intro e
  induction e with
  | zero =>
    intro k hk I hfr hWI
    have hk : k = d.1 := by omega
    subst hk
    refine aE_iload_n dX0_ridesFrom_4 rfl rfl ?_
    refine aE_aload_n dX0_ridesFrom_5 rfl rfl ?_
    refine aE_geti dX0_ridesFrom_6 fw_X0_50 (lt_nn (by decide)) rfl (by decide) rfl ?_
    refine aE_icmp_ge (tgt := 49) dX0_ridesFrom_9 (by decide) (fun h9 => ?_) (fun h9 => absurd (by rw [hWI.2.2.2.2.2.2.1.1]; exact Int32.le_refl _) h9)
    refine aE_iload_n dX0_ridesFrom_49 rfl rfl ?_
    refine aE_iret dX0_ridesFrom_50 rfl ⟨by decide, by decide⟩ ?_
    exact hQ I hfr hWI
  | succ e ih =>
    intro k hk I hfr hWI
    have hpu := (hWI.2.2.2.2.2.2.2.2.1 k (by omega)).2.2.1
    have hsI : ∀ k i, k < 10 → I (sp k) i = I0 (sp k) i := fun k i hk => hfr _ _ (by have := hsp k hk; omega) (by have := hsp k hk; omega)
    have hrs : (fun k => rideL d cs k (RR d cs al ns)) k = rideS d (cs (sc k)) k (RLs d (cs (sc k)) (al (sc k))) := rideL_s2 hA.1 (hot k (by omega)) (hsc k (by omega)).1
    have ih2 := ih (k + 1) (by omega)
    rw [faF_s] at ih2
    refine aE_iload_n dX0_ridesFrom_4 rfl rfl ?_
    refine aE_aload_n dX0_ridesFrom_5 rfl rfl ?_
    refine aE_geti dX0_ridesFrom_6 fw_X0_50 (lt_nn (by decide)) rfl (by decide) rfl ?_
    refine aE_icmp_ge (tgt := 49) dX0_ridesFrom_9 (by decide) (fun h9 => absurd h9 (by rw [hWI.2.2.2.2.2.2.1.1]; exact nI_ge (by omega) (by omega))) (fun h9 => ?_)
    refine aE_aload_n dX0_ridesFrom_12 rfl rfl ?_
    refine aE_getf (v := .ref 27) dX0_ridesFrom_13 fw_X0_30 (lt_nn (by decide)) rfl rfl ?_
    refine aE_iload_n dX0_ridesFrom_16 rfl rfl ?_
    refine aE_aald (t := 103) dX0_ridesFrom_17 (lt_nn (by decide)) ⟨by decide, by decide⟩ rfl (by decide) rfl (show k < 10 by omega) mm_stop ?_
    refine aE_geti dX0_ridesFrom_18 fw_X0_69 (lt_nn (by have := (hsp k (by omega)); omega)) (sh_stop (hsp k (by omega))) (mc_stop (i := 3) (hsp k (by omega))).1 (mc_stop (i := 3) (hsp k (by omega))).2 ?_
    refine aE_top (hsI k 3 (by omega)) ?_
    refine aE_iload_n dX0_ridesFrom_21 rfl rfl ?_
    refine aE_icmp_ne (tgt := 43) dX0_ridesFrom_22 (by decide) (fun h22 => ?_) (fun h22 => ?_)
    · skip
      have ih3 := ih2 I hfr hWI
      rw [if_neg h22] at ih3
      refine aE_iinc dX0_ridesFrom_43 rfl (a_inc _) (by decide) rfl (aE_loc (ls' := [_, _, _, _]) rfl ?_)
      refine aE_goto (tgt := 4) dX0_ridesFrom_46 (by decide) ?_
      exact ih3
    · skip
      rw [if_pos (by first | exact h22 | exact Classical.not_not.mp h22)] at ih2
      refine aE_iload_n dX0_ridesFrom_25 rfl rfl ?_
      refine aE_aload_n dX0_ridesFrom_26 rfl rfl ?_
      refine aE_getf (v := .ref 27) dX0_ridesFrom_27 fw_X0_30 (lt_nn (by decide)) rfl rfl ?_
      refine aE_iload_n dX0_ridesFrom_30 rfl rfl ?_
      refine aE_aald (t := 103) dX0_ridesFrom_31 (lt_nn (by decide)) ⟨by decide, by decide⟩ rfl (by decide) rfl (show k < 10 by omega) mm_stop ?_
      refine aE_geti dX0_ridesFrom_32 fw_X0_66 (lt_nn (by have := (hsp k (by omega)); omega)) (sh_stop (hsp k (by omega))) (mc_stop (i := 2) (hsp k (by omega))).1 (mc_stop (i := 2) (hsp k (by omega))).2 ?_
      refine aE_top hpu ?_
      refine aE_aload_n dX0_ridesFrom_35 rfl rfl ?_
      refine aE_iload_n dX0_ridesFrom_36 rfl rfl ?_
      refine aE_cVq dX0_ridesFrom_37 lk_X0_98 mv_X0_rideOf (c_rideOf (Q := (fun (r : Option Value) (n' : Nat) (m' : aM) => n' = nn pl ∧ ∃ X, m' = MM X sp pl ∧ r = some (.int (rideS d (cs (sc k)) k (RLs d (cs (sc k)) (al (sc k))))) ∧ (∀ q w, ¬ (8 ≤ q ∧ q < 16) → ¬ (q = 2 ∧ w = 8) → X q w = I q w) ∧ CW X sp ns nstr nc d cs fr to)) hWI hA (PCs_fr hs4 hP (fun q i h => hfr q i (by omega) (by omega))) (sc k) k (hsc k (by omega)).1 (by omega) ((hsI k 0 (by omega)).trans (hsc k (by omega)).2) (fun X a b => ⟨rfl, X, rfl, rfl, a, b⟩)) rfl (lt_nn (by decide)) rfl rfl ⟨by decide, by decide⟩ (Nat.le_of_ble_eq_true rfl) ⟨rfl, rfl⟩ ⟨by decide, by decide⟩ ?_
      rintro r n' m' ⟨rfl, X, rfl, rfl, x1, x2⟩
      rw [← hrs]
      refine aE_imul dX0_ridesFrom_40 ?_
      refine aE_iadd dX0_ridesFrom_41 ?_
      refine aE_istore_n dX0_ridesFrom_42 rfl (by decide) rfl (aE_loc (ls' := [_, _, _, _]) rfl ?_)
      refine aE_iinc dX0_ridesFrom_43 rfl (a_inc _) (by decide) rfl (aE_loc (ls' := [_, _, _, _]) rfl ?_)
      refine aE_goto (tgt := 4) dX0_ridesFrom_46 (by decide) ?_
      exact ih2 X (fun q w a b => (x1 q w a b).trans (hfr q w a b)) x2
theorem c_fa1 (hW : CW I sp ns nstr nc d cs fr to) (sc : Nat → Nat) (hsc : ∀ k, k < d.1 → sc k < ns ∧ I (sp k) 0 = nI (sc k)) (q : Int32) (hA : AlOK d cs al ns) (hP : PCs I ns d cs al) (hot : ∀ k, k < d.1 → ∀ s', s' < ns → s' ≠ sc k → (al s').testBit k = false) (hQ : ∀ J, (∀ q w, ¬ (8 ≤ q ∧ q < 16) → ¬ (q = 2 ∧ w = 8) → J q w = I q w) → CW J sp ns nstr nc d cs fr to → qi Q (faF 1 (fun k => I (sp k) 3) q d.2.2.2.1 (fun k => rideL d cs k (RR d cs al ns)) (fun k => I (28 + 4 * sc k) 2 - I 26 (sc k)) d.1) J sp pl) : aRuns mX0_ridesFrom (rK 4) [.ref 1, .int q] (nn pl) (MM I sp pl) Q := by
  refine aRuns_of pn_X0_ridesFrom (Nat.le_of_ble_eq_true rfl) (fun z => aE_loc (ls' := [_, _, _, _]) rfl ?_)
  refine aE_iconst (v := 0) dX0_ridesFrom_0 rfl ?_
  refine aE_istore_n dX0_ridesFrom_1 rfl (by decide) rfl (aE_loc (ls' := [_, _, _, _]) rfl ?_)
  refine aE_iconst (v := 0) dX0_ridesFrom_2 rfl ?_
  refine aE_istore_n dX0_ridesFrom_3 rfl (by decide) rfl (aE_loc (ls' := [_, _, _, _]) rfl ?_)
  exact l_fa1 (I0 := I) hW sc hsc q hA hP hot hQ d.1 0 (by omega) I (fun _ _ _ _ => rfl) hW
theorem l_fa2 {I0 : Nat → Nat → Int32} (hW : CW I0 sp ns nstr nc d cs fr to) (sc : Nat → Nat) (hsc : ∀ k, k < d.1 → sc k < ns ∧ I0 (sp k) 0 = nI (sc k)) (q : Int32) (hA : AlOK d cs al ns) (hP : PCs I0 ns d cs al) (hot : ∀ k, k < d.1 → ∀ s', s' < ns → s' ≠ sc k → (al s').testBit k = false) (hQ : ∀ J, (∀ q w, ¬ (8 ≤ q ∧ q < 16) → ¬ (q = 2 ∧ w = 8) → J q w = I0 q w) → CW J sp ns nstr nc d cs fr to → qi Q (faF 2 (fun k => I0 (sp k) 3) q d.2.2.2.1 (fun k => rideL d cs k (RR d cs al ns)) (fun k => I0 (28 + 4 * sc k) 2 - I0 26 (sc k)) d.1) J sp pl) : ∀ (e k : Nat), k + e = d.1 → ∀ (I : Nat → Nat → Int32), (∀ q w, ¬ (8 ≤ q ∧ q < 16) → ¬ (q = 2 ∧ w = 8) → I q w = I0 q w) → CW I sp ns nstr nc d cs fr to → aE z mX0_greatestRide (rK 4) Q 4 [some (.ref 1), some (.int q), some (.int (faF 2 (fun k => I0 (sp k) 3) q d.2.2.2.1 (fun k => rideL d cs k (RR d cs al ns)) (fun k => I0 (28 + 4 * sc k) 2 - I0 26 (sc k)) k)), some (.int (nI k))] [] (nn pl) (MM I sp pl) 0 0 := by
  obtain ⟨hn, h10⟩ := hW.2.2.2.2.2.2.1
  have hsp := hW.2.2.2.2.2.2.2.1
  have hs4 := hW.1.2
  intro e
  induction e with
  | zero =>
    intro k hk I hfr hWI
    have hk : k = d.1 := by omega
    subst hk
    refine aE_iload_n dX0_greatestRide_4 rfl rfl ?_
    refine aE_aload_n dX0_greatestRide_5 rfl rfl ?_
    refine aE_geti dX0_greatestRide_6 fw_X0_50 (lt_nn (by decide)) rfl (by decide) rfl ?_
    refine aE_icmp_ge (tgt := 41) dX0_greatestRide_9 (by decide) (fun h9 => ?_) (fun h9 => absurd (by rw [hWI.2.2.2.2.2.2.1.1]; exact Int32.le_refl _) h9)
    refine aE_iload_n dX0_greatestRide_41 rfl rfl ?_
    refine aE_iret dX0_greatestRide_42 rfl ⟨by decide, by decide⟩ ?_
    exact hQ I hfr hWI
  | succ e ih =>
    intro k hk I hfr hWI
    have hpu := (hWI.2.2.2.2.2.2.2.2.1 k (by omega)).2.2.1
    have hsI : ∀ k i, k < 10 → I (sp k) i = I0 (sp k) i := fun k i hk => hfr _ _ (by have := hsp k hk; omega) (by have := hsp k hk; omega)
    have hrs : (fun k => rideL d cs k (RR d cs al ns)) k = rideS d (cs (sc k)) k (RLs d (cs (sc k)) (al (sc k))) := rideL_s2 hA.1 (hot k (by omega)) (hsc k (by omega)).1
    have ih2 := ih (k + 1) (by omega)
    rw [faF_s] at ih2
    refine aE_iload_n dX0_greatestRide_4 rfl rfl ?_
    refine aE_aload_n dX0_greatestRide_5 rfl rfl ?_
    refine aE_geti dX0_greatestRide_6 fw_X0_50 (lt_nn (by decide)) rfl (by decide) rfl ?_
    refine aE_icmp_ge (tgt := 41) dX0_greatestRide_9 (by decide) (fun h9 => absurd h9 (by rw [hWI.2.2.2.2.2.2.1.1]; exact nI_ge (by omega) (by omega))) (fun h9 => ?_)
    refine aE_aload_n dX0_greatestRide_12 rfl rfl ?_
    refine aE_getf (v := .ref 27) dX0_greatestRide_13 fw_X0_30 (lt_nn (by decide)) rfl rfl ?_
    refine aE_iload_n dX0_greatestRide_16 rfl rfl ?_
    refine aE_aald (t := 103) dX0_greatestRide_17 (lt_nn (by decide)) ⟨by decide, by decide⟩ rfl (by decide) rfl (show k < 10 by omega) mm_stop ?_
    refine aE_geti dX0_greatestRide_18 fw_X0_69 (lt_nn (by have := (hsp k (by omega)); omega)) (sh_stop (hsp k (by omega))) (mc_stop (i := 3) (hsp k (by omega))).1 (mc_stop (i := 3) (hsp k (by omega))).2 ?_
    refine aE_top (hsI k 3 (by omega)) ?_
    refine aE_iload_n dX0_greatestRide_21 rfl rfl ?_
    refine aE_icmp_ne (tgt := 35) dX0_greatestRide_22 (by decide) (fun h22 => ?_) (fun h22 => ?_)
    · skip
      have ih3 := ih2 I hfr hWI
      rw [if_neg h22] at ih3
      refine aE_iinc dX0_greatestRide_35 rfl (a_inc _) (by decide) rfl (aE_loc (ls' := [_, _, _, _]) rfl ?_)
      refine aE_goto (tgt := 4) dX0_greatestRide_38 (by decide) ?_
      exact ih3
    · skip
      rw [if_pos (by first | exact h22 | exact Classical.not_not.mp h22)] at ih2
      refine aE_iload_n dX0_greatestRide_25 rfl rfl ?_
      refine aE_aload_n dX0_greatestRide_26 rfl rfl ?_
      refine aE_iload_n dX0_greatestRide_27 rfl rfl ?_
      refine aE_cVq dX0_greatestRide_28 lk_X0_98 mv_X0_rideOf (c_rideOf (Q := (fun (r : Option Value) (n' : Nat) (m' : aM) => n' = nn pl ∧ ∃ X, m' = MM X sp pl ∧ r = some (.int (rideS d (cs (sc k)) k (RLs d (cs (sc k)) (al (sc k))))) ∧ (∀ q w, ¬ (8 ≤ q ∧ q < 16) → ¬ (q = 2 ∧ w = 8) → X q w = I q w) ∧ CW X sp ns nstr nc d cs fr to)) hWI hA (PCs_fr hs4 hP (fun q i h => hfr q i (by omega) (by omega))) (sc k) k (hsc k (by omega)).1 (by omega) ((hsI k 0 (by omega)).trans (hsc k (by omega)).2) (fun X a b => ⟨rfl, X, rfl, rfl, a, b⟩)) rfl (lt_nn (by decide)) rfl rfl ⟨by decide, by decide⟩ (Nat.le_of_ble_eq_true rfl) ⟨rfl, rfl⟩ ⟨by decide, by decide⟩ ?_
      rintro r n' m' ⟨rfl, X, rfl, rfl, x1, x2⟩
      rw [← hrs]
      refine aE_max dX0_greatestRide_31 mm_X0_101 ⟨by decide, by decide⟩ ⟨by decide, by decide⟩ (Nat.le_of_ble_eq_true rfl) ?_
      refine aE_istore_n dX0_greatestRide_34 rfl (by decide) rfl (aE_loc (ls' := [_, _, _, _]) rfl ?_)
      refine aE_iinc dX0_greatestRide_35 rfl (a_inc _) (by decide) rfl (aE_loc (ls' := [_, _, _, _]) rfl ?_)
      refine aE_goto (tgt := 4) dX0_greatestRide_38 (by decide) ?_
      exact ih2 X (fun q w a b => (x1 q w a b).trans (hfr q w a b)) x2
theorem c_fa2 (hW : CW I sp ns nstr nc d cs fr to) (sc : Nat → Nat) (hsc : ∀ k, k < d.1 → sc k < ns ∧ I (sp k) 0 = nI (sc k)) (q : Int32) (hA : AlOK d cs al ns) (hP : PCs I ns d cs al) (hot : ∀ k, k < d.1 → ∀ s', s' < ns → s' ≠ sc k → (al s').testBit k = false) (hQ : ∀ J, (∀ q w, ¬ (8 ≤ q ∧ q < 16) → ¬ (q = 2 ∧ w = 8) → J q w = I q w) → CW J sp ns nstr nc d cs fr to → qi Q (faF 2 (fun k => I (sp k) 3) q d.2.2.2.1 (fun k => rideL d cs k (RR d cs al ns)) (fun k => I (28 + 4 * sc k) 2 - I 26 (sc k)) d.1) J sp pl) : aRuns mX0_greatestRide (rK 4) [.ref 1, .int q] (nn pl) (MM I sp pl) Q := by
  refine aRuns_of pn_X0_greatestRide (Nat.le_of_ble_eq_true rfl) (fun z => aE_loc (ls' := [_, _, _, _]) rfl ?_)
  refine aE_iconst (v := 0) dX0_greatestRide_0 rfl ?_
  refine aE_istore_n dX0_greatestRide_1 rfl (by decide) rfl (aE_loc (ls' := [_, _, _, _]) rfl ?_)
  refine aE_iconst (v := 0) dX0_greatestRide_2 rfl ?_
  refine aE_istore_n dX0_greatestRide_3 rfl (by decide) rfl (aE_loc (ls' := [_, _, _, _]) rfl ?_)
  exact l_fa2 (I0 := I) hW sc hsc q hA hP hot hQ d.1 0 (by omega) I (fun _ _ _ _ => rfl) hW
end CFAIR
