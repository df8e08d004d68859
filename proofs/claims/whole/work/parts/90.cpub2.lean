section CPUB2
variable {z : Nat × (Nat → Int32)} {n : Nat} {mem : aM} {I : Nat → Nat → Int32} {sp : Nat → Nat} {pl : Bool} {Q : Option Value → Nat → aM → Prop} {R : Room}variable {ns nstr nc : Nat} {d : pD} {cs : Nat → pC} {fr to : Nat → Nat}

set_option maxRecDepth 20000 in
theorem c_routes_t (v : Int32) (hW : CW I sp ns nstr nc d cs fr to)  (hst : ¬ I 0 7 = 0 → PCs I ns d cs (alC I sp d) ∧ FlC I ns d cs (alC I sp d) (I 1 8)) (hB : (wi v 0 (I 1 4 - 1) = 0) → qi Q (-1000001) (fnd I) sp true) (hN : ∀ s J, s < ns → v = nI s → DP I J sp ns nstr nc d cs fr to → ¬ (pS d (cs s) ((alC I sp d) s)).1 < 1000000 → qi Q (-1000004) (fnd J) sp true) (hO : ∀ s J, s < ns → v = nI s → DP I J sp ns nstr nc d cs fr to → (pS d (cs s) ((alC I sp d) s)).1 < 1000000 → qi Q (pS d (cs s) ((alC I sp d) s)).1 J sp true) : aRuns mX11_routes (rK 6) [.ref 0, .int v] (nn true) (MM I sp true) Q := by
  refine aRuns_of pn_X11_routes (Nat.le_of_ble_eq_true rfl) (fun z => aE_loc (ls' := [_, _, _]) rfl ?_)
  refine aE_aload_n dX11_routes_0 rfl rfl ?_
  refine aE_getf (v := .ref 1) dX11_routes_1 fw_X11_10 (lt_nn (by decide)) rfl rfl ?_
  refine aE_iload_n dX11_routes_4 rfl rfl ?_
  refine aE_cVi dX11_routes_5 lk_X11_106 mv_X0_hasSchool (c_hasSchool _) rfl (lt_nn (by decide)) rfl rfl ⟨by decide, by decide⟩ (Nat.le_of_ble_eq_true rfl) ⟨rfl, rfl⟩ ⟨by decide, by decide⟩ ?_
  refine aE_if_ne (tgt := 18) dX11_routes_8 (by decide) (fun h8 => ?_) (fun h8 => ?_)
  · skip
    obtain ⟨s, hs, rfl⟩ := wi_ix (m := ns) (by have := hW.1.2; omega) (hW.1.1 ▸ h8)
    have hs4 : s < 4 := by have := hW.1.2; omega
    refine aE_aload_n dX11_routes_18 rfl rfl ?_
    refine aE_cVq dX11_routes_19 lk_X11_181 mv_X11_drawPlans (c_drawPlans_t (Q := (fun (r : Option Value) (n' : Nat) (m' : aM) => r = none ∧ n' = nn true ∧ ∃ J, m' = MM J sp true ∧ DP I J sp ns nstr nc d cs fr to)) hW hst (fun J a b c e f g => ⟨rfl, rfl, J, rfl, a, b, c, e, f, g⟩)) rfl (lt_nn (by decide)) rfl rfl ⟨by decide, by decide⟩ (Nat.le_of_ble_eq_true rfl) ⟨rfl, rfl⟩ ⟨by decide, by decide⟩ ?_
    rintro r n' m' ⟨rfl, rfl, J, rfl, hJ⟩
    have hWJ := hJ.2.2.1
    have hP := hJ.2.2.2.2.1
    have hF := hJ.2.2.2.2.2
    have hA := CW_al hW
    have hpl := (hP s hs).1
    have hrc := (hP s hs).2.1
    have hal := hA.1 s
    refine aE_aload_n dX11_routes_22 rfl rfl ?_
    refine aE_getf (v := .ref 1) dX11_routes_23 fw_X11_10 (lt_nn (by decide)) rfl rfl ?_
    refine aE_getf (v := .ref 25) dX11_routes_26 fw_X11_109 (lt_nn (by decide)) rfl rfl ?_
    refine aE_iload_n dX11_routes_29 rfl rfl ?_
    refine aE_aald (t := 102) dX11_routes_30 (lt_nn (by decide)) ⟨by decide, by decide⟩ rfl (by decide) rfl hs4 (mm_schs hs4) ?_
    refine aE_astore_n dX11_routes_31 rfl (by decide) rfl (aE_loc (ls' := [_, _, _]) rfl ?_)
    refine aE_aload_n dX11_routes_32 rfl rfl ?_
    refine aE_geti dX11_routes_33 fw_X11_184 (lt_nn (by omega)) (sh_sch hs4) (mc_sch (i := 3) hs4 (by decide)).1 (mc_sch (i := 3) hs4 (by decide)).2 ?_
    refine aE_if_eq (tgt := 46) dX11_routes_36 (by decide) (fun h36 => ?_) (fun h36 => ?_)
    · skip
      refine aE_aload_n dX11_routes_46 rfl rfl ?_
      refine aE_ldc dX11_routes_47 ct_X11_98 ?_
      refine aE_cVi dX11_routes_49 lk_X11_62 mv_X11_found (c_found _) rfl (lt_nn (by decide)) rfl rfl ⟨by decide, by decide⟩ (Nat.le_of_ble_eq_true rfl) ⟨rfl, rfl⟩ ⟨by decide, by decide⟩ ?_
      refine aE_iret dX11_routes_52 rfl ⟨by decide, by decide⟩ ?_
      first
        | (have hp : ¬ (pS d (cs s) ((alC I sp d) s)).1 < 1000000 := fun q => by rw [if_pos q] at hpl; rw [hpl] at h36; exact absurd h36 (by decide)
           exact hN s J hs rfl hJ hp)
        | (have hp : (pS d (cs s) ((alC I sp d) s)).1 < 1000000 := Classical.byContradiction fun q => by rw [if_neg q] at hpl; exact h36 hpl
           rw [hrc, ← RLs_len hal hp]
           exact hO s J hs rfl hJ hp)
    · skip
      refine aE_aload_n dX11_routes_39 rfl rfl ?_
      refine aE_geti dX11_routes_40 fw_X11_187 (lt_nn (by omega)) (sh_sch hs4) (mc_sch (i := 4) hs4 (by decide)).1 (mc_sch (i := 4) hs4 (by decide)).2 ?_
      refine aE_goto (tgt := 52) dX11_routes_43 (by decide) ?_
      refine aE_iret dX11_routes_52 rfl ⟨by decide, by decide⟩ ?_
      first
        | (have hp : ¬ (pS d (cs s) ((alC I sp d) s)).1 < 1000000 := fun q => by rw [if_pos q] at hpl; rw [hpl] at h36; exact absurd h36 (by decide)
           exact hN s J hs rfl hJ hp)
        | (have hp : (pS d (cs s) ((alC I sp d) s)).1 < 1000000 := Classical.byContradiction fun q => by rw [if_neg q] at hpl; exact h36 hpl
           rw [hrc, ← RLs_len hal hp]
           exact hO s J hs rfl hJ hp)
  · skip
    refine aE_aload_n dX11_routes_11 rfl rfl ?_
    refine aE_ldc dX11_routes_12 ct_X11_78 ?_
    refine aE_cVi dX11_routes_14 lk_X11_62 mv_X11_found (c_found _) rfl (lt_nn (by decide)) rfl rfl ⟨by decide, by decide⟩ (Nat.le_of_ble_eq_true rfl) ⟨rfl, rfl⟩ ⟨by decide, by decide⟩ ?_
    refine aE_iret dX11_routes_17 rfl ⟨by decide, by decide⟩ ?_
    first
      | exact hB (h8)
      | exact hB (Classical.not_not.mp h8)

set_option maxRecDepth 20000 in
theorem c_routes_f (v : Int32) (hW : CW I sp ns nstr nc d cs fr to)  (h07 : I 0 7 = 0) (hG : ¬ (wi v 0 (I 1 4 - 1) = 0)) (hN : ∀ s J, s < ns → v = nI s → DP I J sp ns nstr nc d cs fr to → ¬ (pS d (cs s) ((alC I sp d) s)).1 < 1000000 → qi Q (-1000004) (fnd J) sp true) (hO : ∀ s J, s < ns → v = nI s → DP I J sp ns nstr nc d cs fr to → (pS d (cs s) ((alC I sp d) s)).1 < 1000000 → qi Q (pS d (cs s) ((alC I sp d) s)).1 J sp true) : aRuns mX11_routes (rP 6) [.ref 0, .int v] (nn false) (MM I sp false) Q := by
  refine aRuns_of pn_X11_routes (Nat.le_of_ble_eq_true rfl) (fun z => aE_loc (ls' := [_, _, _]) rfl ?_)
  refine aE_aload_n dX11_routes_0 rfl rfl ?_
  refine aE_getf (v := .ref 1) dX11_routes_1 fw_X11_10 (lt_nn (by decide)) rfl rfl ?_
  refine aE_iload_n dX11_routes_4 rfl rfl ?_
  refine aE_cVi dX11_routes_5 lk_X11_106 mv_X0_hasSchool (c_hasSchool _) rfl (lt_nn (by decide)) rfl rfl ⟨by decide, by decide⟩ (Nat.le_of_ble_eq_true rfl) ⟨rfl, rfl⟩ ⟨by decide, by decide⟩ ?_
  refine aE_if_ne (tgt := 18) dX11_routes_8 (by decide) (fun h8 => ?_) (fun h8 => ?_)
  · skip
    obtain ⟨s, hs, rfl⟩ := wi_ix (m := ns) (by have := hW.1.2; omega) (hW.1.1 ▸ h8)
    have hs4 : s < 4 := by have := hW.1.2; omega
    refine aE_aload_n dX11_routes_18 rfl rfl ?_
    refine aE_callV dX11_routes_19 lk_X11_181 mv_X11_drawPlans (c_drawPlans_f (Q := (fun (r : Option Value) (n' : Nat) (m' : aM) => r = none ∧ n' = nn true ∧ ∃ J, m' = MM J sp true ∧ DP I J sp ns nstr nc d cs fr to)) hW h07 (fun J a b c e f g => ⟨rfl, rfl, J, rfl, a, b, c, e, f, g⟩)) rfl (lt_nn (by decide)) rfl rfl ⟨by decide, by decide⟩ (Nat.le_of_ble_eq_true rfl) ⟨by decide, by decide⟩ ?_
    rintro r n' m' ⟨rfl, rfl, J, rfl, hJ⟩
    have hWJ := hJ.2.2.1
    have hP := hJ.2.2.2.2.1
    have hF := hJ.2.2.2.2.2
    have hA := CW_al hW
    have hpl := (hP s hs).1
    have hrc := (hP s hs).2.1
    have hal := hA.1 s
    refine aE_aload_n dX11_routes_22 rfl rfl ?_
    refine aE_getf (v := .ref 1) dX11_routes_23 fw_X11_10 (lt_nn (by decide)) rfl rfl ?_
    refine aE_getf (v := .ref 25) dX11_routes_26 fw_X11_109 (lt_nn (by decide)) rfl rfl ?_
    refine aE_iload_n dX11_routes_29 rfl rfl ?_
    refine aE_aald (t := 102) dX11_routes_30 (lt_nn (by decide)) ⟨by decide, by decide⟩ rfl (by decide) rfl hs4 (mm_schs hs4) ?_
    refine aE_astore_n dX11_routes_31 rfl (by decide) rfl (aE_loc (ls' := [_, _, _]) rfl ?_)
    refine aE_aload_n dX11_routes_32 rfl rfl ?_
    refine aE_geti dX11_routes_33 fw_X11_184 (lt_nn (by omega)) (sh_sch hs4) (mc_sch (i := 3) hs4 (by decide)).1 (mc_sch (i := 3) hs4 (by decide)).2 ?_
    refine aE_if_eq (tgt := 46) dX11_routes_36 (by decide) (fun h36 => ?_) (fun h36 => ?_)
    · skip
      refine aE_aload_n dX11_routes_46 rfl rfl ?_
      refine aE_ldc dX11_routes_47 ct_X11_98 ?_
      refine aE_cVi dX11_routes_49 lk_X11_62 mv_X11_found (c_found _) rfl (lt_nn (by decide)) rfl rfl ⟨by decide, by decide⟩ (Nat.le_of_ble_eq_true rfl) ⟨rfl, rfl⟩ ⟨by decide, by decide⟩ ?_
      refine aE_iret dX11_routes_52 rfl ⟨by decide, by decide⟩ ?_
      first
        | (have hp : ¬ (pS d (cs s) ((alC I sp d) s)).1 < 1000000 := fun q => by rw [if_pos q] at hpl; rw [hpl] at h36; exact absurd h36 (by decide)
           exact hN s J hs rfl hJ hp)
        | (have hp : (pS d (cs s) ((alC I sp d) s)).1 < 1000000 := Classical.byContradiction fun q => by rw [if_neg q] at hpl; exact h36 hpl
           rw [hrc, ← RLs_len hal hp]
           exact hO s J hs rfl hJ hp)
    · skip
      refine aE_aload_n dX11_routes_39 rfl rfl ?_
      refine aE_geti dX11_routes_40 fw_X11_187 (lt_nn (by omega)) (sh_sch hs4) (mc_sch (i := 4) hs4 (by decide)).1 (mc_sch (i := 4) hs4 (by decide)).2 ?_
      refine aE_goto (tgt := 52) dX11_routes_43 (by decide) ?_
      refine aE_iret dX11_routes_52 rfl ⟨by decide, by decide⟩ ?_
      first
        | (have hp : ¬ (pS d (cs s) ((alC I sp d) s)).1 < 1000000 := fun q => by rw [if_pos q] at hpl; rw [hpl] at h36; exact absurd h36 (by decide)
           exact hN s J hs rfl hJ hp)
        | (have hp : (pS d (cs s) ((alC I sp d) s)).1 < 1000000 := Classical.byContradiction fun q => by rw [if_neg q] at hpl; exact h36 hpl
           rw [hrc, ← RLs_len hal hp]
           exact hO s J hs rfl hJ hp)
  · skip
    refine aE_aload_n dX11_routes_11 rfl rfl ?_
    refine aE_ldc dX11_routes_12 ct_X11_78 ?_
    refine aE_cVi dX11_routes_14 lk_X11_62 mv_X11_found (c_found _) rfl (lt_nn (by decide)) rfl rfl ⟨by decide, by decide⟩ (Nat.le_of_ble_eq_true rfl) ⟨rfl, rfl⟩ ⟨by decide, by decide⟩ ?_
    refine aE_iret dX11_routes_17 rfl ⟨by decide, by decide⟩ ?_
    first
      | exact absurd (h8) hG
      | exact absurd (Classical.not_not.mp h8) hG

set_option maxRecDepth 20000 in
theorem c_routes_b (v : Int32) (hW : CW I sp ns nstr nc d cs fr to)  (hb : wi v 0 (I 1 4 - 1) = 0) (hB : qi Q (-1000001) (fnd I) sp false) : aRuns mX11_routes (rK 6) [.ref 0, .int v] (nn false) (MM I sp false) Q := by
  refine aRuns_of pn_X11_routes (Nat.le_of_ble_eq_true rfl) (fun z => aE_loc (ls' := [_, _, _]) rfl ?_)
  refine aE_aload_n dX11_routes_0 rfl rfl ?_
  refine aE_getf (v := .ref 1) dX11_routes_1 fw_X11_10 (lt_nn (by decide)) rfl rfl ?_
  refine aE_iload_n dX11_routes_4 rfl rfl ?_
  refine aE_cVi dX11_routes_5 lk_X11_106 mv_X0_hasSchool (c_hasSchool _) rfl (lt_nn (by decide)) rfl rfl ⟨by decide, by decide⟩ (Nat.le_of_ble_eq_true rfl) ⟨rfl, rfl⟩ ⟨by decide, by decide⟩ ?_
  refine aE_if_ne (tgt := 18) dX11_routes_8 (by decide) (fun h8 => ?_) (fun h8 => ?_)
  · skip
    exact absurd hb h8
  · skip
    refine aE_aload_n dX11_routes_11 rfl rfl ?_
    refine aE_ldc dX11_routes_12 ct_X11_78 ?_
    refine aE_cVi dX11_routes_14 lk_X11_62 mv_X11_found (c_found _) rfl (lt_nn (by decide)) rfl rfl ⟨by decide, by decide⟩ (Nat.le_of_ble_eq_true rfl) ⟨rfl, rfl⟩ ⟨by decide, by decide⟩ ?_
    refine aE_iret dX11_routes_17 rfl ⟨by decide, by decide⟩ ?_
    exact hB

set_option maxRecDepth 20000 in
theorem c_route_t (v i k : Int32) (hW : CW I sp ns nstr nc d cs fr to)  (hst : ¬ I 0 7 = 0 → PCs I ns d cs (alC I sp d) ∧ FlC I ns d cs (alC I sp d) (I 1 8)) (hB : (wi v 0 (I 1 4 - 1) = 0 ∨ i < 0 ∨ k < -1) → qi Q (-1000001) (fnd I) sp true) (hN : ∀ s J, s < ns → v = nI s → ¬ i < 0 → ¬ k < -1 → DP I J sp ns nstr nc d cs fr to → (¬ (pS d (cs s) ((alC I sp d) s)).1 < 1000000 ∨ (pS d (cs s) ((alC I sp d) s)).1 ≤ i) → qi Q (-1000004) (fnd J) sp true) (hL : ∀ s J ii S, s < ns → v = nI s → i = nI ii → DP I J sp ns nstr nc d cs fr to → (RLs d (cs s) ((alC I sp d) s))[ii]? = some S → k = -1 → qi Q (lS d (cs s) S) J sp true) (hO : ∀ s J ii S kk, s < ns → v = nI s → i = nI ii → k = nI kk → DP I J sp ns nstr nc d cs fr to → (RLs d (cs s) ((alC I sp d) s))[ii]? = some S → qi Q (rv (oS d (cs s) S (min kk 10)).2) J sp true) : aRuns mX11_route (rK 6) [.ref 0, .int v, .int i, .int k] (nn true) (MM I sp true) Q := by
  refine aRuns_of pn_X11_route (Nat.le_of_ble_eq_true rfl) (fun z => aE_loc (ls' := [_, _, _, _, _]) rfl ?_)
  refine aE_aload_n dX11_route_0 rfl rfl ?_
  refine aE_getf (v := .ref 1) dX11_route_1 fw_X11_10 (lt_nn (by decide)) rfl rfl ?_
  refine aE_iload_n dX11_route_4 rfl rfl ?_
  refine aE_cVi dX11_route_5 lk_X11_106 mv_X0_hasSchool (c_hasSchool _) rfl (lt_nn (by decide)) rfl rfl ⟨by decide, by decide⟩ (Nat.le_of_ble_eq_true rfl) ⟨rfl, rfl⟩ ⟨by decide, by decide⟩ ?_
  refine aE_if_eq (tgt := 20) dX11_route_8 (by decide) (fun h8 => ?_) (fun h8 => ?_)
  · skip
    refine aE_aload_n dX11_route_20 rfl rfl ?_
    refine aE_ldc dX11_route_21 ct_X11_78 ?_
    refine aE_cVi dX11_route_23 lk_X11_62 mv_X11_found (c_found _) rfl (lt_nn (by decide)) rfl rfl ⟨by decide, by decide⟩ (Nat.le_of_ble_eq_true rfl) ⟨rfl, rfl⟩ ⟨by decide, by decide⟩ ?_
    refine aE_iret dX11_route_26 rfl ⟨by decide, by decide⟩ ?_
    first
      | exact hB (Or.inl h8)
      | exact hB (Or.inr (Or.inl h12))
      | exact hB (Or.inr (Or.inr (Int32.not_le.mp h17)))
  · skip
    refine aE_iload_n dX11_route_11 rfl rfl ?_
    refine aE_if_lt (tgt := 20) dX11_route_12 (by decide) (fun h12 => ?_) (fun h12 => ?_)
    · skip
      refine aE_aload_n dX11_route_20 rfl rfl ?_
      refine aE_ldc dX11_route_21 ct_X11_78 ?_
      refine aE_cVi dX11_route_23 lk_X11_62 mv_X11_found (c_found _) rfl (lt_nn (by decide)) rfl rfl ⟨by decide, by decide⟩ (Nat.le_of_ble_eq_true rfl) ⟨rfl, rfl⟩ ⟨by decide, by decide⟩ ?_
      refine aE_iret dX11_route_26 rfl ⟨by decide, by decide⟩ ?_
      first
        | exact hB (Or.inl h8)
        | exact hB (Or.inr (Or.inl h12))
        | exact hB (Or.inr (Or.inr (Int32.not_le.mp h17)))
    · skip
      refine aE_iload_n dX11_route_15 rfl rfl ?_
      refine aE_iconst (v := -1) dX11_route_16 rfl ?_
      refine aE_icmp_ge (tgt := 27) dX11_route_17 (by decide) (fun h17 => ?_) (fun h17 => ?_)
      · skip
        obtain ⟨s, hs, rfl⟩ := wi_ix (m := ns) (by have := hW.1.2; omega) (hW.1.1 ▸ h8)
        have hs4 : s < 4 := by have := hW.1.2; omega
        refine aE_aload_n dX11_route_27 rfl rfl ?_
        refine aE_cVq dX11_route_28 lk_X11_181 mv_X11_drawPlans (c_drawPlans_t (Q := (fun (r : Option Value) (n' : Nat) (m' : aM) => r = none ∧ n' = nn true ∧ ∃ J, m' = MM J sp true ∧ DP I J sp ns nstr nc d cs fr to)) hW hst (fun J a b c e f g => ⟨rfl, rfl, J, rfl, a, b, c, e, f, g⟩)) rfl (lt_nn (by decide)) rfl rfl ⟨by decide, by decide⟩ (Nat.le_of_ble_eq_true rfl) ⟨rfl, rfl⟩ ⟨by decide, by decide⟩ ?_
        rintro r n' m' ⟨rfl, rfl, J, rfl, hJ⟩
        have hWJ := hJ.2.2.1
        have hP := hJ.2.2.2.2.1
        have hF := hJ.2.2.2.2.2
        have hA := CW_al hW
        have hpl := (hP s hs).1
        have hrc := (hP s hs).2.1
        have hal := hA.1 s
        refine aE_aload_n dX11_route_31 rfl rfl ?_
        refine aE_getf (v := .ref 1) dX11_route_32 fw_X11_10 (lt_nn (by decide)) rfl rfl ?_
        refine aE_getf (v := .ref 25) dX11_route_35 fw_X11_109 (lt_nn (by decide)) rfl rfl ?_
        refine aE_iload_n dX11_route_38 rfl rfl ?_
        refine aE_aald (t := 102) dX11_route_39 (lt_nn (by decide)) ⟨by decide, by decide⟩ rfl (by decide) rfl hs4 (mm_schs hs4) ?_
        refine aE_astore dX11_route_40 (by decide) rfl (aE_loc (ls' := [_, _, _, _, _]) rfl ?_)
        refine aE_aload dX11_route_42 rfl ?_
        refine aE_geti dX11_route_44 fw_X11_184 (lt_nn (by omega)) (sh_sch hs4) (mc_sch (i := 3) hs4 (by decide)).1 (mc_sch (i := 3) hs4 (by decide)).2 ?_
        refine aE_if_eq (tgt := 59) dX11_route_47 (by decide) (fun h47 => ?_) (fun h47 => ?_)
        · skip
          refine aE_aload_n dX11_route_59 rfl rfl ?_
          refine aE_ldc dX11_route_60 ct_X11_98 ?_
          refine aE_cVi dX11_route_62 lk_X11_62 mv_X11_found (c_found _) rfl (lt_nn (by decide)) rfl rfl ⟨by decide, by decide⟩ (Nat.le_of_ble_eq_true rfl) ⟨rfl, rfl⟩ ⟨by decide, by decide⟩ ?_
          refine aE_iret dX11_route_65 rfl ⟨by decide, by decide⟩ ?_
          first
            | (have hp : ¬ (pS d (cs s) ((alC I sp d) s)).1 < 1000000 := fun q => by rw [if_pos q] at hpl; rw [hpl] at h47; exact absurd h47 (by decide)
               exact hN s J hs rfl h12 (Int32.not_lt.mpr h17) hJ (Or.inl hp))
            | exact hN s J hs rfl h12 (Int32.not_lt.mpr h17) hJ (Or.inr (by rw [hpm, ← hrc]; exact Int32.not_lt.mp h56))
        · skip
          have hp : (pS d (cs s) ((alC I sp d) s)).1 < 1000000 := Classical.byContradiction fun q => by rw [if_neg q] at hpl; exact h47 hpl
          have hpm := RLs_len hal hp
          have hcd := RLs_card (d := d) (c := cs s) hal
          have hcb := cdB_bound ((alC I sp d) s) 10
          refine aE_iload_n dX11_route_50 rfl rfl ?_
          refine aE_aload dX11_route_51 rfl ?_
          refine aE_geti dX11_route_53 fw_X11_187 (lt_nn (by omega)) (sh_sch hs4) (mc_sch (i := 4) hs4 (by decide)).1 (mc_sch (i := 4) hs4 (by decide)).2 ?_
          refine aE_icmp_lt (tgt := 66) dX11_route_56 (by decide) (fun h56 => ?_) (fun h56 => ?_)
          · skip
            obtain ⟨ii, hi31, rfl⟩ := nI_of h12
            have him : ii < (RLs d (cs s) ((alC I sp d) s)).length := (nI_ltI hi31 (by omega)).mp (by rw [← hrc]; exact h56)
            obtain ⟨S, hS⟩ : ∃ S, (RLs d (cs s) ((alC I sp d) s))[ii]? = some S := ⟨_, List.getElem?_eq_getElem him⟩
            have hRow := (hP s hs).2
            have hbl := bgn_le hal hS
            have h10 := hW.2.2.2.2.2.2.1.2
            have hSs : bdiff S ((alC I sp d) s) = 0 := by
              have hS2 := hS
              unfold RLs at hS2
              rw [if_pos hp] at hS2
              exact (rtL_mem 10 _ S hal hp (List.mem_of_getElem? hS2)).1
            have hSb : ∀ g, S.testBit g = true → g < d.1 := fun g hg => hA.2.2 s g (bsub_tb hSs hg)
            have hcS := cdB_bound S 10
            refine aE_iload_n dX11_route_66 rfl rfl ?_
            refine aE_iconst (v := -1) dX11_route_67 rfl ?_
            refine aE_icmp_ne (tgt := 79) dX11_route_68 (by decide) (fun h68 => ?_) (fun h68 => ?_)
            · skip
              obtain ⟨kk, hk31, rfl⟩ := nI_of (fun q => h68 (m1_of (Int32.not_lt.mpr h17) q))
              refine aE_iload_n dX11_route_79 rfl rfl ?_
              refine aE_aload dX11_route_80 rfl ?_
              refine aE_iload_n dX11_route_82 rfl rfl ?_
              refine aE_cVi dX11_route_83 lk_X11_193 mv_X7_stopsIn (c_stopsIn hWJ hA hP s ii S hs hS) rfl (lt_nn (by omega)) (sh_sch hs4) rfl ⟨by decide, by decide⟩ (Nat.le_of_ble_eq_true rfl) ⟨rfl, rfl⟩ ⟨by decide, by decide⟩ ?_
              refine aE_icmp_ge (tgt := 107) dX11_route_86 (by decide) (fun h86 => ?_) (fun h86 => ?_)
              · skip
                have hkk : cdB S 10 ≤ kk := (nI_leI (by omega) hk31).mp h86
                have hn := oS_none (c := cs s) (S := S) (k := min kk 10) h10 (by omega)
                refine aE_iconst (v := -1) dX11_route_107 rfl ?_
                refine aE_iret dX11_route_108 rfl ⟨by decide, by decide⟩ ?_
                first
                  | (have e : nI g = rv (oS d (cs s) S (min kk 10)).2 := by rw [Nat.min_eq_left (by omega), hg]; rfl
                     show qi Q (nI g) J sp true
                     rw [e]
                     exact hO s J ii S kk hs rfl rfl rfl hJ hS)
                  | (have e : (-1 : Int32) = rv (oS d (cs s) S (min kk 10)).2 := by rw [hn]; rfl
                     show qi Q (-1) J sp true
                     rw [e]
                     exact hO s J ii S kk hs rfl rfl rfl hJ hS)
              · skip
                have hkk : kk < cdB S 10 := (nI_ltI hk31 (by omega)).mp (Int32.not_le.mp h86)
                obtain ⟨g, hg⟩ := oS_ex (c := cs s) (k := kk) h10 hSb hkk
                refine aE_aload dX11_route_89 rfl ?_
                refine aE_getf dX11_route_91 fw_X11_196 (lt_nn (by omega)) (sh_sch hs4) (mm_ord hs4) ?_
                refine aE_aload dX11_route_94 rfl ?_
                refine aE_getf dX11_route_96 fw_X11_199 (lt_nn (by omega)) (sh_sch hs4) (mm_beg hs4) ?_
                refine aE_iload_n dX11_route_99 rfl rfl ?_
                refine aE_ildM dX11_route_100 (lt_nn (by omega)) (sh_beg hs4) (by decide) rfl (by omega) ?_
                refine aE_top (hRow.2.1 ii (by omega)) ?_
                refine aE_iload_n dX11_route_101 rfl rfl ?_
                refine aE_iadd dX11_route_102 ?_
                refine aE_top (nI_add _ _) ?_
                refine aE_ildM dX11_route_103 (lt_nn (by omega)) (sh_ord hs4) (by decide) rfl (by omega) ?_
                refine aE_top ((hRow.2.2 ii S hS).2 kk g hg) ?_
                refine aE_goto (tgt := 108) dX11_route_104 (by decide) ?_
                refine aE_iret dX11_route_108 rfl ⟨by decide, by decide⟩ ?_
                first
                  | (have e : nI g = rv (oS d (cs s) S (min kk 10)).2 := by rw [Nat.min_eq_left (by omega), hg]; rfl
                     show qi Q (nI g) J sp true
                     rw [e]
                     exact hO s J ii S kk hs rfl rfl rfl hJ hS)
                  | (have e : (-1 : Int32) = rv (oS d (cs s) S (min kk 10)).2 := by rw [hn]; rfl
                     show qi Q (-1) J sp true
                     rw [e]
                     exact hO s J ii S kk hs rfl rfl rfl hJ hS)
            · skip
              have hk1 : k = -1 := by first | exact h68 | exact Classical.not_not.mp h68
              refine aE_aload dX11_route_71 rfl ?_
              refine aE_getf dX11_route_73 fw_X11_190 (lt_nn (by omega)) (sh_sch hs4) (mm_len hs4) ?_
              refine aE_iload_n dX11_route_76 rfl rfl ?_
              refine aE_ildM dX11_route_77 (lt_nn (by omega)) (sh_len hs4) (by decide) rfl (by omega) ?_
              refine aE_top (hRow.2.2 ii S hS).1 ?_
              refine aE_iret dX11_route_78 rfl ⟨by decide, by decide⟩ ?_
              exact hL s J ii S hs rfl rfl hJ hS hk1
          · skip
            refine aE_aload_n dX11_route_59 rfl rfl ?_
            refine aE_ldc dX11_route_60 ct_X11_98 ?_
            refine aE_cVi dX11_route_62 lk_X11_62 mv_X11_found (c_found _) rfl (lt_nn (by decide)) rfl rfl ⟨by decide, by decide⟩ (Nat.le_of_ble_eq_true rfl) ⟨rfl, rfl⟩ ⟨by decide, by decide⟩ ?_
            refine aE_iret dX11_route_65 rfl ⟨by decide, by decide⟩ ?_
            first
              | (have hp : ¬ (pS d (cs s) ((alC I sp d) s)).1 < 1000000 := fun q => by rw [if_pos q] at hpl; rw [hpl] at h47; exact absurd h47 (by decide)
                 exact hN s J hs rfl h12 (Int32.not_lt.mpr h17) hJ (Or.inl hp))
              | exact hN s J hs rfl h12 (Int32.not_lt.mpr h17) hJ (Or.inr (by rw [hpm, ← hrc]; exact Int32.not_lt.mp h56))
      · skip
        refine aE_aload_n dX11_route_20 rfl rfl ?_
        refine aE_ldc dX11_route_21 ct_X11_78 ?_
        refine aE_cVi dX11_route_23 lk_X11_62 mv_X11_found (c_found _) rfl (lt_nn (by decide)) rfl rfl ⟨by decide, by decide⟩ (Nat.le_of_ble_eq_true rfl) ⟨rfl, rfl⟩ ⟨by decide, by decide⟩ ?_
        refine aE_iret dX11_route_26 rfl ⟨by decide, by decide⟩ ?_
        first
          | exact hB (Or.inl h8)
          | exact hB (Or.inr (Or.inl h12))
          | exact hB (Or.inr (Or.inr (Int32.not_le.mp h17)))

set_option maxRecDepth 20000 in
theorem c_route_f (v i k : Int32) (hW : CW I sp ns nstr nc d cs fr to)  (h07 : I 0 7 = 0) (hG : ¬ (wi v 0 (I 1 4 - 1) = 0 ∨ i < 0 ∨ k < -1)) (hN : ∀ s J, s < ns → v = nI s → ¬ i < 0 → ¬ k < -1 → DP I J sp ns nstr nc d cs fr to → (¬ (pS d (cs s) ((alC I sp d) s)).1 < 1000000 ∨ (pS d (cs s) ((alC I sp d) s)).1 ≤ i) → qi Q (-1000004) (fnd J) sp true) (hL : ∀ s J ii S, s < ns → v = nI s → i = nI ii → DP I J sp ns nstr nc d cs fr to → (RLs d (cs s) ((alC I sp d) s))[ii]? = some S → k = -1 → qi Q (lS d (cs s) S) J sp true) (hO : ∀ s J ii S kk, s < ns → v = nI s → i = nI ii → k = nI kk → DP I J sp ns nstr nc d cs fr to → (RLs d (cs s) ((alC I sp d) s))[ii]? = some S → qi Q (rv (oS d (cs s) S (min kk 10)).2) J sp true) : aRuns mX11_route (rP 6) [.ref 0, .int v, .int i, .int k] (nn false) (MM I sp false) Q := by
  refine aRuns_of pn_X11_route (Nat.le_of_ble_eq_true rfl) (fun z => aE_loc (ls' := [_, _, _, _, _]) rfl ?_)
  refine aE_aload_n dX11_route_0 rfl rfl ?_
  refine aE_getf (v := .ref 1) dX11_route_1 fw_X11_10 (lt_nn (by decide)) rfl rfl ?_
  refine aE_iload_n dX11_route_4 rfl rfl ?_
  refine aE_cVi dX11_route_5 lk_X11_106 mv_X0_hasSchool (c_hasSchool _) rfl (lt_nn (by decide)) rfl rfl ⟨by decide, by decide⟩ (Nat.le_of_ble_eq_true rfl) ⟨rfl, rfl⟩ ⟨by decide, by decide⟩ ?_
  refine aE_if_eq (tgt := 20) dX11_route_8 (by decide) (fun h8 => ?_) (fun h8 => ?_)
  · skip
    refine aE_aload_n dX11_route_20 rfl rfl ?_
    refine aE_ldc dX11_route_21 ct_X11_78 ?_
    refine aE_cVi dX11_route_23 lk_X11_62 mv_X11_found (c_found _) rfl (lt_nn (by decide)) rfl rfl ⟨by decide, by decide⟩ (Nat.le_of_ble_eq_true rfl) ⟨rfl, rfl⟩ ⟨by decide, by decide⟩ ?_
    refine aE_iret dX11_route_26 rfl ⟨by decide, by decide⟩ ?_
    first
      | exact absurd (Or.inl h8) hG
      | exact absurd (Or.inr (Or.inl h12)) hG
      | exact absurd (Or.inr (Or.inr (Int32.not_le.mp h17))) hG
  · skip
    refine aE_iload_n dX11_route_11 rfl rfl ?_
    refine aE_if_lt (tgt := 20) dX11_route_12 (by decide) (fun h12 => ?_) (fun h12 => ?_)
    · skip
      refine aE_aload_n dX11_route_20 rfl rfl ?_
      refine aE_ldc dX11_route_21 ct_X11_78 ?_
      refine aE_cVi dX11_route_23 lk_X11_62 mv_X11_found (c_found _) rfl (lt_nn (by decide)) rfl rfl ⟨by decide, by decide⟩ (Nat.le_of_ble_eq_true rfl) ⟨rfl, rfl⟩ ⟨by decide, by decide⟩ ?_
      refine aE_iret dX11_route_26 rfl ⟨by decide, by decide⟩ ?_
      first
        | exact absurd (Or.inl h8) hG
        | exact absurd (Or.inr (Or.inl h12)) hG
        | exact absurd (Or.inr (Or.inr (Int32.not_le.mp h17))) hG
    · skip
      refine aE_iload_n dX11_route_15 rfl rfl ?_
      refine aE_iconst (v := -1) dX11_route_16 rfl ?_
      refine aE_icmp_ge (tgt := 27) dX11_route_17 (by decide) (fun h17 => ?_) (fun h17 => ?_)
      · skip
        obtain ⟨s, hs, rfl⟩ := wi_ix (m := ns) (by have := hW.1.2; omega) (hW.1.1 ▸ h8)
        have hs4 : s < 4 := by have := hW.1.2; omega
        refine aE_aload_n dX11_route_27 rfl rfl ?_
        refine aE_callV dX11_route_28 lk_X11_181 mv_X11_drawPlans (c_drawPlans_f (Q := (fun (r : Option Value) (n' : Nat) (m' : aM) => r = none ∧ n' = nn true ∧ ∃ J, m' = MM J sp true ∧ DP I J sp ns nstr nc d cs fr to)) hW h07 (fun J a b c e f g => ⟨rfl, rfl, J, rfl, a, b, c, e, f, g⟩)) rfl (lt_nn (by decide)) rfl rfl ⟨by decide, by decide⟩ (Nat.le_of_ble_eq_true rfl) ⟨by decide, by decide⟩ ?_
        rintro r n' m' ⟨rfl, rfl, J, rfl, hJ⟩
        have hWJ := hJ.2.2.1
        have hP := hJ.2.2.2.2.1
        have hF := hJ.2.2.2.2.2
        have hA := CW_al hW
        have hpl := (hP s hs).1
        have hrc := (hP s hs).2.1
        have hal := hA.1 s
        refine aE_aload_n dX11_route_31 rfl rfl ?_
        refine aE_getf (v := .ref 1) dX11_route_32 fw_X11_10 (lt_nn (by decide)) rfl rfl ?_
        refine aE_getf (v := .ref 25) dX11_route_35 fw_X11_109 (lt_nn (by decide)) rfl rfl ?_
        refine aE_iload_n dX11_route_38 rfl rfl ?_
        refine aE_aald (t := 102) dX11_route_39 (lt_nn (by decide)) ⟨by decide, by decide⟩ rfl (by decide) rfl hs4 (mm_schs hs4) ?_
        refine aE_astore dX11_route_40 (by decide) rfl (aE_loc (ls' := [_, _, _, _, _]) rfl ?_)
        refine aE_aload dX11_route_42 rfl ?_
        refine aE_geti dX11_route_44 fw_X11_184 (lt_nn (by omega)) (sh_sch hs4) (mc_sch (i := 3) hs4 (by decide)).1 (mc_sch (i := 3) hs4 (by decide)).2 ?_
        refine aE_if_eq (tgt := 59) dX11_route_47 (by decide) (fun h47 => ?_) (fun h47 => ?_)
        · skip
          refine aE_aload_n dX11_route_59 rfl rfl ?_
          refine aE_ldc dX11_route_60 ct_X11_98 ?_
          refine aE_cVi dX11_route_62 lk_X11_62 mv_X11_found (c_found _) rfl (lt_nn (by decide)) rfl rfl ⟨by decide, by decide⟩ (Nat.le_of_ble_eq_true rfl) ⟨rfl, rfl⟩ ⟨by decide, by decide⟩ ?_
          refine aE_iret dX11_route_65 rfl ⟨by decide, by decide⟩ ?_
          first
            | (have hp : ¬ (pS d (cs s) ((alC I sp d) s)).1 < 1000000 := fun q => by rw [if_pos q] at hpl; rw [hpl] at h47; exact absurd h47 (by decide)
               exact hN s J hs rfl h12 (Int32.not_lt.mpr h17) hJ (Or.inl hp))
            | exact hN s J hs rfl h12 (Int32.not_lt.mpr h17) hJ (Or.inr (by rw [hpm, ← hrc]; exact Int32.not_lt.mp h56))
        · skip
          have hp : (pS d (cs s) ((alC I sp d) s)).1 < 1000000 := Classical.byContradiction fun q => by rw [if_neg q] at hpl; exact h47 hpl
          have hpm := RLs_len hal hp
          have hcd := RLs_card (d := d) (c := cs s) hal
          have hcb := cdB_bound ((alC I sp d) s) 10
          refine aE_iload_n dX11_route_50 rfl rfl ?_
          refine aE_aload dX11_route_51 rfl ?_
          refine aE_geti dX11_route_53 fw_X11_187 (lt_nn (by omega)) (sh_sch hs4) (mc_sch (i := 4) hs4 (by decide)).1 (mc_sch (i := 4) hs4 (by decide)).2 ?_
          refine aE_icmp_lt (tgt := 66) dX11_route_56 (by decide) (fun h56 => ?_) (fun h56 => ?_)
          · skip
            obtain ⟨ii, hi31, rfl⟩ := nI_of h12
            have him : ii < (RLs d (cs s) ((alC I sp d) s)).length := (nI_ltI hi31 (by omega)).mp (by rw [← hrc]; exact h56)
            obtain ⟨S, hS⟩ : ∃ S, (RLs d (cs s) ((alC I sp d) s))[ii]? = some S := ⟨_, List.getElem?_eq_getElem him⟩
            have hRow := (hP s hs).2
            have hbl := bgn_le hal hS
            have h10 := hW.2.2.2.2.2.2.1.2
            have hSs : bdiff S ((alC I sp d) s) = 0 := by
              have hS2 := hS
              unfold RLs at hS2
              rw [if_pos hp] at hS2
              exact (rtL_mem 10 _ S hal hp (List.mem_of_getElem? hS2)).1
            have hSb : ∀ g, S.testBit g = true → g < d.1 := fun g hg => hA.2.2 s g (bsub_tb hSs hg)
            have hcS := cdB_bound S 10
            refine aE_iload_n dX11_route_66 rfl rfl ?_
            refine aE_iconst (v := -1) dX11_route_67 rfl ?_
            refine aE_icmp_ne (tgt := 79) dX11_route_68 (by decide) (fun h68 => ?_) (fun h68 => ?_)
            · skip
              obtain ⟨kk, hk31, rfl⟩ := nI_of (fun q => h68 (m1_of (Int32.not_lt.mpr h17) q))
              refine aE_iload_n dX11_route_79 rfl rfl ?_
              refine aE_aload dX11_route_80 rfl ?_
              refine aE_iload_n dX11_route_82 rfl rfl ?_
              refine aE_cVi dX11_route_83 lk_X11_193 mv_X7_stopsIn (c_stopsIn hWJ hA hP s ii S hs hS) rfl (lt_nn (by omega)) (sh_sch hs4) rfl ⟨by decide, by decide⟩ (Nat.le_of_ble_eq_true rfl) ⟨rfl, rfl⟩ ⟨by decide, by decide⟩ ?_
              refine aE_icmp_ge (tgt := 107) dX11_route_86 (by decide) (fun h86 => ?_) (fun h86 => ?_)
              · skip
                have hkk : cdB S 10 ≤ kk := (nI_leI (by omega) hk31).mp h86
                have hn := oS_none (c := cs s) (S := S) (k := min kk 10) h10 (by omega)
                refine aE_iconst (v := -1) dX11_route_107 rfl ?_
                refine aE_iret dX11_route_108 rfl ⟨by decide, by decide⟩ ?_
                first
                  | (have e : nI g = rv (oS d (cs s) S (min kk 10)).2 := by rw [Nat.min_eq_left (by omega), hg]; rfl
                     show qi Q (nI g) J sp true
                     rw [e]
                     exact hO s J ii S kk hs rfl rfl rfl hJ hS)
                  | (have e : (-1 : Int32) = rv (oS d (cs s) S (min kk 10)).2 := by rw [hn]; rfl
                     show qi Q (-1) J sp true
                     rw [e]
                     exact hO s J ii S kk hs rfl rfl rfl hJ hS)
              · skip
                have hkk : kk < cdB S 10 := (nI_ltI hk31 (by omega)).mp (Int32.not_le.mp h86)
                obtain ⟨g, hg⟩ := oS_ex (c := cs s) (k := kk) h10 hSb hkk
                refine aE_aload dX11_route_89 rfl ?_
                refine aE_getf dX11_route_91 fw_X11_196 (lt_nn (by omega)) (sh_sch hs4) (mm_ord hs4) ?_
                refine aE_aload dX11_route_94 rfl ?_
                refine aE_getf dX11_route_96 fw_X11_199 (lt_nn (by omega)) (sh_sch hs4) (mm_beg hs4) ?_
                refine aE_iload_n dX11_route_99 rfl rfl ?_
                refine aE_ildM dX11_route_100 (lt_nn (by omega)) (sh_beg hs4) (by decide) rfl (by omega) ?_
                refine aE_top (hRow.2.1 ii (by omega)) ?_
                refine aE_iload_n dX11_route_101 rfl rfl ?_
                refine aE_iadd dX11_route_102 ?_
                refine aE_top (nI_add _ _) ?_
                refine aE_ildM dX11_route_103 (lt_nn (by omega)) (sh_ord hs4) (by decide) rfl (by omega) ?_
                refine aE_top ((hRow.2.2 ii S hS).2 kk g hg) ?_
                refine aE_goto (tgt := 108) dX11_route_104 (by decide) ?_
                refine aE_iret dX11_route_108 rfl ⟨by decide, by decide⟩ ?_
                first
                  | (have e : nI g = rv (oS d (cs s) S (min kk 10)).2 := by rw [Nat.min_eq_left (by omega), hg]; rfl
                     show qi Q (nI g) J sp true
                     rw [e]
                     exact hO s J ii S kk hs rfl rfl rfl hJ hS)
                  | (have e : (-1 : Int32) = rv (oS d (cs s) S (min kk 10)).2 := by rw [hn]; rfl
                     show qi Q (-1) J sp true
                     rw [e]
                     exact hO s J ii S kk hs rfl rfl rfl hJ hS)
            · skip
              have hk1 : k = -1 := by first | exact h68 | exact Classical.not_not.mp h68
              refine aE_aload dX11_route_71 rfl ?_
              refine aE_getf dX11_route_73 fw_X11_190 (lt_nn (by omega)) (sh_sch hs4) (mm_len hs4) ?_
              refine aE_iload_n dX11_route_76 rfl rfl ?_
              refine aE_ildM dX11_route_77 (lt_nn (by omega)) (sh_len hs4) (by decide) rfl (by omega) ?_
              refine aE_top (hRow.2.2 ii S hS).1 ?_
              refine aE_iret dX11_route_78 rfl ⟨by decide, by decide⟩ ?_
              exact hL s J ii S hs rfl rfl hJ hS hk1
          · skip
            refine aE_aload_n dX11_route_59 rfl rfl ?_
            refine aE_ldc dX11_route_60 ct_X11_98 ?_
            refine aE_cVi dX11_route_62 lk_X11_62 mv_X11_found (c_found _) rfl (lt_nn (by decide)) rfl rfl ⟨by decide, by decide⟩ (Nat.le_of_ble_eq_true rfl) ⟨rfl, rfl⟩ ⟨by decide, by decide⟩ ?_
            refine aE_iret dX11_route_65 rfl ⟨by decide, by decide⟩ ?_
            first
              | (have hp : ¬ (pS d (cs s) ((alC I sp d) s)).1 < 1000000 := fun q => by rw [if_pos q] at hpl; rw [hpl] at h47; exact absurd h47 (by decide)
                 exact hN s J hs rfl h12 (Int32.not_lt.mpr h17) hJ (Or.inl hp))
              | exact hN s J hs rfl h12 (Int32.not_lt.mpr h17) hJ (Or.inr (by rw [hpm, ← hrc]; exact Int32.not_lt.mp h56))
      · skip
        refine aE_aload_n dX11_route_20 rfl rfl ?_
        refine aE_ldc dX11_route_21 ct_X11_78 ?_
        refine aE_cVi dX11_route_23 lk_X11_62 mv_X11_found (c_found _) rfl (lt_nn (by decide)) rfl rfl ⟨by decide, by decide⟩ (Nat.le_of_ble_eq_true rfl) ⟨rfl, rfl⟩ ⟨by decide, by decide⟩ ?_
        refine aE_iret dX11_route_26 rfl ⟨by decide, by decide⟩ ?_
        first
          | exact absurd (Or.inl h8) hG
          | exact absurd (Or.inr (Or.inl h12)) hG
          | exact absurd (Or.inr (Or.inr (Int32.not_le.mp h17))) hG

set_option maxRecDepth 20000 in
theorem c_route_b (v i k : Int32) (hW : CW I sp ns nstr nc d cs fr to)  (hb : wi v 0 (I 1 4 - 1) = 0 ∨ i < 0 ∨ k < -1) (hB : qi Q (-1000001) (fnd I) sp false) : aRuns mX11_route (rK 6) [.ref 0, .int v, .int i, .int k] (nn false) (MM I sp false) Q := by
  refine aRuns_of pn_X11_route (Nat.le_of_ble_eq_true rfl) (fun z => aE_loc (ls' := [_, _, _, _, _]) rfl ?_)
  refine aE_aload_n dX11_route_0 rfl rfl ?_
  refine aE_getf (v := .ref 1) dX11_route_1 fw_X11_10 (lt_nn (by decide)) rfl rfl ?_
  refine aE_iload_n dX11_route_4 rfl rfl ?_
  refine aE_cVi dX11_route_5 lk_X11_106 mv_X0_hasSchool (c_hasSchool _) rfl (lt_nn (by decide)) rfl rfl ⟨by decide, by decide⟩ (Nat.le_of_ble_eq_true rfl) ⟨rfl, rfl⟩ ⟨by decide, by decide⟩ ?_
  refine aE_if_eq (tgt := 20) dX11_route_8 (by decide) (fun h8 => ?_) (fun h8 => ?_)
  · skip
    refine aE_aload_n dX11_route_20 rfl rfl ?_
    refine aE_ldc dX11_route_21 ct_X11_78 ?_
    refine aE_cVi dX11_route_23 lk_X11_62 mv_X11_found (c_found _) rfl (lt_nn (by decide)) rfl rfl ⟨by decide, by decide⟩ (Nat.le_of_ble_eq_true rfl) ⟨rfl, rfl⟩ ⟨by decide, by decide⟩ ?_
    refine aE_iret dX11_route_26 rfl ⟨by decide, by decide⟩ ?_
    exact hB
  · skip
    refine aE_iload_n dX11_route_11 rfl rfl ?_
    refine aE_if_lt (tgt := 20) dX11_route_12 (by decide) (fun h12 => ?_) (fun h12 => ?_)
    · skip
      refine aE_aload_n dX11_route_20 rfl rfl ?_
      refine aE_ldc dX11_route_21 ct_X11_78 ?_
      refine aE_cVi dX11_route_23 lk_X11_62 mv_X11_found (c_found _) rfl (lt_nn (by decide)) rfl rfl ⟨by decide, by decide⟩ (Nat.le_of_ble_eq_true rfl) ⟨rfl, rfl⟩ ⟨by decide, by decide⟩ ?_
      refine aE_iret dX11_route_26 rfl ⟨by decide, by decide⟩ ?_
      exact hB
    · skip
      refine aE_iload_n dX11_route_15 rfl rfl ?_
      refine aE_iconst (v := -1) dX11_route_16 rfl ?_
      refine aE_icmp_ge (tgt := 27) dX11_route_17 (by decide) (fun h17 => ?_) (fun h17 => ?_)
      · skip
        exact absurd hb (fun q => by rcases q with q | q | q; exact h8 q; exact h12 q; exact Int32.not_le.mpr q h17)
      · skip
        refine aE_aload_n dX11_route_20 rfl rfl ?_
        refine aE_ldc dX11_route_21 ct_X11_78 ?_
        refine aE_cVi dX11_route_23 lk_X11_62 mv_X11_found (c_found _) rfl (lt_nn (by decide)) rfl rfl ⟨by decide, by decide⟩ (Nat.le_of_ble_eq_true rfl) ⟨rfl, rfl⟩ ⟨by decide, by decide⟩ ?_
        refine aE_iret dX11_route_26 rfl ⟨by decide, by decide⟩ ?_
        exact hB

set_option maxRecDepth 20000 in
theorem c_ride_t (v : Int32) (sc : Nat → Nat) (hW : CW I sp ns nstr nc d cs fr to) (hsc : ∀ k, k < d.1 → sc k < ns ∧ I (sp k) 0 = nI (sc k)) (hst : ¬ I 0 7 = 0 → PCs I ns d cs (alC I sp d) ∧ FlC I ns d cs (alC I sp d) (I 1 8)) (hB : (wi v 0 (I 1 5 - 1) = 0) → qi Q (-1000001) (fnd I) sp true) (hN : ∀ t J, t < d.1 → v = nI t → DP I J sp ns nstr nc d cs fr to → ¬ (pS d (cs (sc t)) ((alC I sp d) (sc t))).1 < 1000000 → qi Q (-1000004) (fnd J) sp true) (hO : ∀ t J K, t < d.1 → v = nI t → DP I J sp ns nstr nc d cs fr to → (pS d (cs (sc t)) ((alC I sp d) (sc t))).1 < 1000000 → (∀ q w, ¬ (8 ≤ q ∧ q < 16) → ¬ (q = 2 ∧ w = 8) → K q w = J q w) → CW K sp ns nstr nc d cs fr to → qi Q (rideS d (cs (sc t)) t (RLs d (cs (sc t)) ((alC I sp d) (sc t)))) K sp true) : aRuns mX11_ride (rK 6) [.ref 0, .int v] (nn true) (MM I sp true) Q := by
  refine aRuns_of pn_X11_ride (Nat.le_of_ble_eq_true rfl) (fun z => aE_loc (ls' := [_, _]) rfl ?_)
  refine aE_aload_n dX11_ride_0 rfl rfl ?_
  refine aE_getf (v := .ref 1) dX11_ride_1 fw_X11_10 (lt_nn (by decide)) rfl rfl ?_
  refine aE_iload_n dX11_ride_4 rfl rfl ?_
  refine aE_cVi dX11_ride_5 lk_X11_156 mv_X0_hasStop (c_hasStop _) rfl (lt_nn (by decide)) rfl rfl ⟨by decide, by decide⟩ (Nat.le_of_ble_eq_true rfl) ⟨rfl, rfl⟩ ⟨by decide, by decide⟩ ?_
  refine aE_if_ne (tgt := 18) dX11_ride_8 (by decide) (fun h8 => ?_) (fun h8 => ?_)
  · skip
    obtain ⟨t, ht, rfl⟩ := wi_ix (m := d.1) (by have := hW.2.2.2.2.2.2.1.2; omega) (hW.2.2.2.2.2.2.1.1 ▸ h8)
    have ht10 : t < 10 := by have := hW.2.2.2.2.2.2.1.2; omega
    have hsp := hW.2.2.2.2.2.2.2.1
    refine aE_aload_n dX11_ride_18 rfl rfl ?_
    refine aE_cVq dX11_ride_19 lk_X11_181 mv_X11_drawPlans (c_drawPlans_t (Q := (fun (r : Option Value) (n' : Nat) (m' : aM) => r = none ∧ n' = nn true ∧ ∃ J, m' = MM J sp true ∧ DP I J sp ns nstr nc d cs fr to)) hW hst (fun J a b c e f g => ⟨rfl, rfl, J, rfl, a, b, c, e, f, g⟩)) rfl (lt_nn (by decide)) rfl rfl ⟨by decide, by decide⟩ (Nat.le_of_ble_eq_true rfl) ⟨rfl, rfl⟩ ⟨by decide, by decide⟩ ?_
    rintro r n' m' ⟨rfl, rfl, J, rfl, hJ⟩
    have hWJ := hJ.2.2.1
    have hP := hJ.2.2.2.2.1
    have hF := hJ.2.2.2.2.2
    have hA := CW_al hW
    have hsc2 : J (sp t) 0 = nI (sc t) := (hJ.1 _ 0 (by have := hsp t ht10; omega) (by have := hsp t ht10; omega) (by have := hsp t ht10; omega) (by have := hsp t ht10; omega) (by have := hsp t ht10; omega) (by have := hsp t ht10; omega) (by have := hsp t ht10; omega) (by have := hsp t ht10; omega) (by have := hsp t ht10; omega)).trans (hsc t ht).2
    have hpl := (hP (sc t) (hsc t ht).1).1
    have hs4 : sc t < 4 := by have := hW.1.2; have := (hsc t ht).1; omega
    refine aE_aload_n dX11_ride_22 rfl rfl ?_
    refine aE_getf (v := .ref 1) dX11_ride_23 fw_X11_10 (lt_nn (by decide)) rfl rfl ?_
    refine aE_getf (v := .ref 25) dX11_ride_26 fw_X11_109 (lt_nn (by decide)) rfl rfl ?_
    refine aE_aload_n dX11_ride_29 rfl rfl ?_
    refine aE_getf (v := .ref 1) dX11_ride_30 fw_X11_10 (lt_nn (by decide)) rfl rfl ?_
    refine aE_getf (v := .ref 27) dX11_ride_33 fw_X11_159 (lt_nn (by decide)) rfl rfl ?_
    refine aE_iload_n dX11_ride_36 rfl rfl ?_
    refine aE_aald (t := 103) dX11_ride_37 (lt_nn (by decide)) ⟨by decide, by decide⟩ rfl (by decide) rfl ht10 mm_stop ?_
    refine aE_geti dX11_ride_38 fw_X11_202 (lt_nn (by have := (hsp t ht10); omega)) (sh_stop (hsp t ht10)) (mc_stop (i := 0) (hsp t ht10)).1 (mc_stop (i := 0) (hsp t ht10)).2 ?_
    refine aE_top hsc2 ?_
    refine aE_aald (t := 102) dX11_ride_41 (lt_nn (by decide)) ⟨by decide, by decide⟩ rfl (by decide) rfl hs4 (mm_schs hs4) ?_
    refine aE_geti dX11_ride_42 fw_X11_184 (lt_nn (by omega)) (sh_sch hs4) (mc_sch (i := 3) hs4 (by decide)).1 (mc_sch (i := 3) hs4 (by decide)).2 ?_
    refine aE_if_ne (tgt := 55) dX11_ride_45 (by decide) (fun h45 => ?_) (fun h45 => ?_)
    · skip
      refine aE_aload_n dX11_ride_55 rfl rfl ?_
      refine aE_getf (v := .ref 1) dX11_ride_56 fw_X11_10 (lt_nn (by decide)) rfl rfl ?_
      refine aE_iload_n dX11_ride_59 rfl rfl ?_
      refine aE_cVq dX11_ride_60 lk_X11_205 mv_X0_rideOf (c_rideOf (Q := (fun (r : Option Value) (n' : Nat) (m' : aM) => n' = nn true ∧ ∃ K, m' = MM K sp true ∧ r = some (.int (rideS d (cs (sc t)) t (RLs d (cs (sc t)) ((alC I sp d) (sc t))))) ∧ (∀ q w, ¬ (8 ≤ q ∧ q < 16) → ¬ (q = 2 ∧ w = 8) → K q w = J q w) ∧ CW K sp ns nstr nc d cs fr to)) hWJ hA hP (sc t) t (hsc t ht).1 ht hsc2 (fun K a b => ⟨rfl, K, rfl, rfl, a, b⟩)) rfl (lt_nn (by decide)) rfl rfl ⟨by decide, by decide⟩ (Nat.le_of_ble_eq_true rfl) ⟨rfl, rfl⟩ ⟨by decide, by decide⟩ ?_
      rintro r n' m' ⟨rfl, K, rfl, rfl, k1, k2⟩
      refine aE_iret dX11_ride_63 rfl ⟨by decide, by decide⟩ ?_
      have hp : (pS d (cs (sc t)) ((alC I sp d) (sc t))).1 < 1000000 := Classical.byContradiction fun q => by rw [if_neg q] at hpl; exact h45 hpl
      exact hO t J K ht rfl hJ hp k1 k2
    · skip
      refine aE_aload_n dX11_ride_48 rfl rfl ?_
      refine aE_ldc dX11_ride_49 ct_X11_98 ?_
      refine aE_cVi dX11_ride_51 lk_X11_62 mv_X11_found (c_found _) rfl (lt_nn (by decide)) rfl rfl ⟨by decide, by decide⟩ (Nat.le_of_ble_eq_true rfl) ⟨rfl, rfl⟩ ⟨by decide, by decide⟩ ?_
      refine aE_iret dX11_ride_54 rfl ⟨by decide, by decide⟩ ?_
      have hp : ¬ (pS d (cs (sc t)) ((alC I sp d) (sc t))).1 < 1000000 := fun q => by rw [if_pos q] at hpl; rw [hpl] at h45; exact absurd h45 (by decide)
      exact hN t J ht rfl hJ hp
  · skip
    refine aE_aload_n dX11_ride_11 rfl rfl ?_
    refine aE_ldc dX11_ride_12 ct_X11_78 ?_
    refine aE_cVi dX11_ride_14 lk_X11_62 mv_X11_found (c_found _) rfl (lt_nn (by decide)) rfl rfl ⟨by decide, by decide⟩ (Nat.le_of_ble_eq_true rfl) ⟨rfl, rfl⟩ ⟨by decide, by decide⟩ ?_
    refine aE_iret dX11_ride_17 rfl ⟨by decide, by decide⟩ ?_
    first
      | exact hB (h8)
      | exact hB (Classical.not_not.mp h8)

set_option maxRecDepth 20000 in
theorem c_ride_f (v : Int32) (sc : Nat → Nat) (hW : CW I sp ns nstr nc d cs fr to) (hsc : ∀ k, k < d.1 → sc k < ns ∧ I (sp k) 0 = nI (sc k)) (h07 : I 0 7 = 0) (hG : ¬ (wi v 0 (I 1 5 - 1) = 0)) (hN : ∀ t J, t < d.1 → v = nI t → DP I J sp ns nstr nc d cs fr to → ¬ (pS d (cs (sc t)) ((alC I sp d) (sc t))).1 < 1000000 → qi Q (-1000004) (fnd J) sp true) (hO : ∀ t J K, t < d.1 → v = nI t → DP I J sp ns nstr nc d cs fr to → (pS d (cs (sc t)) ((alC I sp d) (sc t))).1 < 1000000 → (∀ q w, ¬ (8 ≤ q ∧ q < 16) → ¬ (q = 2 ∧ w = 8) → K q w = J q w) → CW K sp ns nstr nc d cs fr to → qi Q (rideS d (cs (sc t)) t (RLs d (cs (sc t)) ((alC I sp d) (sc t)))) K sp true) : aRuns mX11_ride (rP 6) [.ref 0, .int v] (nn false) (MM I sp false) Q := by
  refine aRuns_of pn_X11_ride (Nat.le_of_ble_eq_true rfl) (fun z => aE_loc (ls' := [_, _]) rfl ?_)
  refine aE_aload_n dX11_ride_0 rfl rfl ?_
  refine aE_getf (v := .ref 1) dX11_ride_1 fw_X11_10 (lt_nn (by decide)) rfl rfl ?_
  refine aE_iload_n dX11_ride_4 rfl rfl ?_
  refine aE_cVi dX11_ride_5 lk_X11_156 mv_X0_hasStop (c_hasStop _) rfl (lt_nn (by decide)) rfl rfl ⟨by decide, by decide⟩ (Nat.le_of_ble_eq_true rfl) ⟨rfl, rfl⟩ ⟨by decide, by decide⟩ ?_
  refine aE_if_ne (tgt := 18) dX11_ride_8 (by decide) (fun h8 => ?_) (fun h8 => ?_)
  · skip
    obtain ⟨t, ht, rfl⟩ := wi_ix (m := d.1) (by have := hW.2.2.2.2.2.2.1.2; omega) (hW.2.2.2.2.2.2.1.1 ▸ h8)
    have ht10 : t < 10 := by have := hW.2.2.2.2.2.2.1.2; omega
    have hsp := hW.2.2.2.2.2.2.2.1
    refine aE_aload_n dX11_ride_18 rfl rfl ?_
    refine aE_callV dX11_ride_19 lk_X11_181 mv_X11_drawPlans (c_drawPlans_f (Q := (fun (r : Option Value) (n' : Nat) (m' : aM) => r = none ∧ n' = nn true ∧ ∃ J, m' = MM J sp true ∧ DP I J sp ns nstr nc d cs fr to)) hW h07 (fun J a b c e f g => ⟨rfl, rfl, J, rfl, a, b, c, e, f, g⟩)) rfl (lt_nn (by decide)) rfl rfl ⟨by decide, by decide⟩ (Nat.le_of_ble_eq_true rfl) ⟨by decide, by decide⟩ ?_
    rintro r n' m' ⟨rfl, rfl, J, rfl, hJ⟩
    have hWJ := hJ.2.2.1
    have hP := hJ.2.2.2.2.1
    have hF := hJ.2.2.2.2.2
    have hA := CW_al hW
    have hsc2 : J (sp t) 0 = nI (sc t) := (hJ.1 _ 0 (by have := hsp t ht10; omega) (by have := hsp t ht10; omega) (by have := hsp t ht10; omega) (by have := hsp t ht10; omega) (by have := hsp t ht10; omega) (by have := hsp t ht10; omega) (by have := hsp t ht10; omega) (by have := hsp t ht10; omega) (by have := hsp t ht10; omega)).trans (hsc t ht).2
    have hpl := (hP (sc t) (hsc t ht).1).1
    have hs4 : sc t < 4 := by have := hW.1.2; have := (hsc t ht).1; omega
    refine aE_aload_n dX11_ride_22 rfl rfl ?_
    refine aE_getf (v := .ref 1) dX11_ride_23 fw_X11_10 (lt_nn (by decide)) rfl rfl ?_
    refine aE_getf (v := .ref 25) dX11_ride_26 fw_X11_109 (lt_nn (by decide)) rfl rfl ?_
    refine aE_aload_n dX11_ride_29 rfl rfl ?_
    refine aE_getf (v := .ref 1) dX11_ride_30 fw_X11_10 (lt_nn (by decide)) rfl rfl ?_
    refine aE_getf (v := .ref 27) dX11_ride_33 fw_X11_159 (lt_nn (by decide)) rfl rfl ?_
    refine aE_iload_n dX11_ride_36 rfl rfl ?_
    refine aE_aald (t := 103) dX11_ride_37 (lt_nn (by decide)) ⟨by decide, by decide⟩ rfl (by decide) rfl ht10 mm_stop ?_
    refine aE_geti dX11_ride_38 fw_X11_202 (lt_nn (by have := (hsp t ht10); omega)) (sh_stop (hsp t ht10)) (mc_stop (i := 0) (hsp t ht10)).1 (mc_stop (i := 0) (hsp t ht10)).2 ?_
    refine aE_top hsc2 ?_
    refine aE_aald (t := 102) dX11_ride_41 (lt_nn (by decide)) ⟨by decide, by decide⟩ rfl (by decide) rfl hs4 (mm_schs hs4) ?_
    refine aE_geti dX11_ride_42 fw_X11_184 (lt_nn (by omega)) (sh_sch hs4) (mc_sch (i := 3) hs4 (by decide)).1 (mc_sch (i := 3) hs4 (by decide)).2 ?_
    refine aE_if_ne (tgt := 55) dX11_ride_45 (by decide) (fun h45 => ?_) (fun h45 => ?_)
    · skip
      refine aE_aload_n dX11_ride_55 rfl rfl ?_
      refine aE_getf (v := .ref 1) dX11_ride_56 fw_X11_10 (lt_nn (by decide)) rfl rfl ?_
      refine aE_iload_n dX11_ride_59 rfl rfl ?_
      refine aE_cVq dX11_ride_60 lk_X11_205 mv_X0_rideOf (c_rideOf (Q := (fun (r : Option Value) (n' : Nat) (m' : aM) => n' = nn true ∧ ∃ K, m' = MM K sp true ∧ r = some (.int (rideS d (cs (sc t)) t (RLs d (cs (sc t)) ((alC I sp d) (sc t))))) ∧ (∀ q w, ¬ (8 ≤ q ∧ q < 16) → ¬ (q = 2 ∧ w = 8) → K q w = J q w) ∧ CW K sp ns nstr nc d cs fr to)) hWJ hA hP (sc t) t (hsc t ht).1 ht hsc2 (fun K a b => ⟨rfl, K, rfl, rfl, a, b⟩)) rfl (lt_nn (by decide)) rfl rfl ⟨by decide, by decide⟩ (Nat.le_of_ble_eq_true rfl) ⟨rfl, rfl⟩ ⟨by decide, by decide⟩ ?_
      rintro r n' m' ⟨rfl, K, rfl, rfl, k1, k2⟩
      refine aE_iret dX11_ride_63 rfl ⟨by decide, by decide⟩ ?_
      have hp : (pS d (cs (sc t)) ((alC I sp d) (sc t))).1 < 1000000 := Classical.byContradiction fun q => by rw [if_neg q] at hpl; exact h45 hpl
      exact hO t J K ht rfl hJ hp k1 k2
    · skip
      refine aE_aload_n dX11_ride_48 rfl rfl ?_
      refine aE_ldc dX11_ride_49 ct_X11_98 ?_
      refine aE_cVi dX11_ride_51 lk_X11_62 mv_X11_found (c_found _) rfl (lt_nn (by decide)) rfl rfl ⟨by decide, by decide⟩ (Nat.le_of_ble_eq_true rfl) ⟨rfl, rfl⟩ ⟨by decide, by decide⟩ ?_
      refine aE_iret dX11_ride_54 rfl ⟨by decide, by decide⟩ ?_
      have hp : ¬ (pS d (cs (sc t)) ((alC I sp d) (sc t))).1 < 1000000 := fun q => by rw [if_pos q] at hpl; rw [hpl] at h45; exact absurd h45 (by decide)
      exact hN t J ht rfl hJ hp
  · skip
    refine aE_aload_n dX11_ride_11 rfl rfl ?_
    refine aE_ldc dX11_ride_12 ct_X11_78 ?_
    refine aE_cVi dX11_ride_14 lk_X11_62 mv_X11_found (c_found _) rfl (lt_nn (by decide)) rfl rfl ⟨by decide, by decide⟩ (Nat.le_of_ble_eq_true rfl) ⟨rfl, rfl⟩ ⟨by decide, by decide⟩ ?_
    refine aE_iret dX11_ride_17 rfl ⟨by decide, by decide⟩ ?_
    first
      | exact absurd (h8) hG
      | exact absurd (Classical.not_not.mp h8) hG

set_option maxRecDepth 20000 in
theorem c_ride_b (v : Int32) (sc : Nat → Nat) (hW : CW I sp ns nstr nc d cs fr to) (hsc : ∀ k, k < d.1 → sc k < ns ∧ I (sp k) 0 = nI (sc k)) (hb : wi v 0 (I 1 5 - 1) = 0) (hB : qi Q (-1000001) (fnd I) sp false) : aRuns mX11_ride (rK 6) [.ref 0, .int v] (nn false) (MM I sp false) Q := by
  refine aRuns_of pn_X11_ride (Nat.le_of_ble_eq_true rfl) (fun z => aE_loc (ls' := [_, _]) rfl ?_)
  refine aE_aload_n dX11_ride_0 rfl rfl ?_
  refine aE_getf (v := .ref 1) dX11_ride_1 fw_X11_10 (lt_nn (by decide)) rfl rfl ?_
  refine aE_iload_n dX11_ride_4 rfl rfl ?_
  refine aE_cVi dX11_ride_5 lk_X11_156 mv_X0_hasStop (c_hasStop _) rfl (lt_nn (by decide)) rfl rfl ⟨by decide, by decide⟩ (Nat.le_of_ble_eq_true rfl) ⟨rfl, rfl⟩ ⟨by decide, by decide⟩ ?_
  refine aE_if_ne (tgt := 18) dX11_ride_8 (by decide) (fun h8 => ?_) (fun h8 => ?_)
  · skip
    exact absurd hb h8
  · skip
    refine aE_aload_n dX11_ride_11 rfl rfl ?_
    refine aE_ldc dX11_ride_12 ct_X11_78 ?_
    refine aE_cVi dX11_ride_14 lk_X11_62 mv_X11_found (c_found _) rfl (lt_nn (by decide)) rfl rfl ⟨by decide, by decide⟩ (Nat.le_of_ble_eq_true rfl) ⟨rfl, rfl⟩ ⟨by decide, by decide⟩ ?_
    refine aE_iret dX11_ride_17 rfl ⟨by decide, by decide⟩ ?_
    exact hB

set_option maxRecDepth 20000 in
theorem c_all_t  (hW : CW I sp ns nstr nc d cs fr to)  (hst : ¬ I 0 7 = 0 → PCs I ns d cs (alC I sp d) ∧ FlC I ns d cs (alC I sp d) (I 1 8)) (hN : ∀ J, DP I J sp ns nstr nc d cs fr to → allH d cs (alC I sp d) ns = false → qi Q (-1000004) (fnd J) sp true) (hO : ∀ J, DP I J sp ns nstr nc d cs fr to → allH d cs (alC I sp d) ns = true → qi Q (nI (RR d cs (alC I sp d) ns).length) J sp true) : aRuns mX11_all (rK 6) [.ref 0] (nn true) (MM I sp true) Q := by
  refine aRuns_of pn_X11_all (Nat.le_of_ble_eq_true rfl) (fun z => aE_loc (ls' := [_]) rfl ?_)
  refine aE_aload_n dX11_all_0 rfl rfl ?_
  refine aE_cVq dX11_all_1 lk_X11_181 mv_X11_drawPlans (c_drawPlans_t (Q := (fun (r : Option Value) (n' : Nat) (m' : aM) => r = none ∧ n' = nn true ∧ ∃ J, m' = MM J sp true ∧ DP I J sp ns nstr nc d cs fr to)) hW hst (fun J a b c e f g => ⟨rfl, rfl, J, rfl, a, b, c, e, f, g⟩)) rfl (lt_nn (by decide)) rfl rfl ⟨by decide, by decide⟩ (Nat.le_of_ble_eq_true rfl) ⟨rfl, rfl⟩ ⟨by decide, by decide⟩ ?_
  rintro r n' m' ⟨rfl, rfl, J, rfl, hJ⟩
  have hWJ := hJ.2.2.1
  have hP := hJ.2.2.2.2.1
  have hF := hJ.2.2.2.2.2
  have hA := CW_al hW
  refine aE_aload_n dX11_all_4 rfl rfl ?_
  refine aE_getf (v := .ref 54) dX11_all_5 fw_X11_19 (lt_nn (by decide)) rfl rfl ?_
  refine aE_geti dX11_all_8 fw_X11_208 (lt_nn (by decide)) rfl (by decide) rfl ?_
  refine aE_if_eq (tgt := 24) dX11_all_11 (by decide) (fun h11 => ?_) (fun h11 => ?_)
  · skip
    refine aE_aload_n dX11_all_24 rfl rfl ?_
    refine aE_ldc dX11_all_25 ct_X11_98 ?_
    refine aE_cVi dX11_all_27 lk_X11_62 mv_X11_found (c_found _) rfl (lt_nn (by decide)) rfl rfl ⟨by decide, by decide⟩ (Nat.le_of_ble_eq_true rfl) ⟨rfl, rfl⟩ ⟨by decide, by decide⟩ ?_
    refine aE_iret dX11_all_30 rfl ⟨by decide, by decide⟩ ?_
    first
      | (have ha : allH d cs (alC I sp d) ns = false := by
           cases q : allH d cs (alC I sp d) ns with
           | false => rfl
           | true => have := hF.1; rw [q, h11] at this; exact absurd this (by decide)
         exact hN J hJ ha)
      | (have ha : allH d cs (alC I sp d) ns = true := by
           cases q : allH d cs (alC I sp d) ns with
           | true => rfl
           | false => have := hF.1; rw [q] at this; exact absurd this h11
         rw [hF.2.1]
         exact hO J hJ ha)
  · skip
    refine aE_aload_n dX11_all_14 rfl rfl ?_
    refine aE_getf (v := .ref 54) dX11_all_15 fw_X11_19 (lt_nn (by decide)) rfl rfl ?_
    refine aE_geti dX11_all_18 fw_X11_211 (lt_nn (by decide)) rfl (by decide) rfl ?_
    refine aE_goto (tgt := 30) dX11_all_21 (by decide) ?_
    refine aE_iret dX11_all_30 rfl ⟨by decide, by decide⟩ ?_
    first
      | (have ha : allH d cs (alC I sp d) ns = false := by
           cases q : allH d cs (alC I sp d) ns with
           | false => rfl
           | true => have := hF.1; rw [q, h11] at this; exact absurd this (by decide)
         exact hN J hJ ha)
      | (have ha : allH d cs (alC I sp d) ns = true := by
           cases q : allH d cs (alC I sp d) ns with
           | true => rfl
           | false => have := hF.1; rw [q] at this; exact absurd this h11
         rw [hF.2.1]
         exact hO J hJ ha)

set_option maxRecDepth 20000 in
theorem c_all_f  (hW : CW I sp ns nstr nc d cs fr to)  (h07 : I 0 7 = 0) (hN : ∀ J, DP I J sp ns nstr nc d cs fr to → allH d cs (alC I sp d) ns = false → qi Q (-1000004) (fnd J) sp true) (hO : ∀ J, DP I J sp ns nstr nc d cs fr to → allH d cs (alC I sp d) ns = true → qi Q (nI (RR d cs (alC I sp d) ns).length) J sp true) : aRuns mX11_all (rP 6) [.ref 0] (nn false) (MM I sp false) Q := by
  refine aRuns_of pn_X11_all (Nat.le_of_ble_eq_true rfl) (fun z => aE_loc (ls' := [_]) rfl ?_)
  refine aE_aload_n dX11_all_0 rfl rfl ?_
  refine aE_callV dX11_all_1 lk_X11_181 mv_X11_drawPlans (c_drawPlans_f (Q := (fun (r : Option Value) (n' : Nat) (m' : aM) => r = none ∧ n' = nn true ∧ ∃ J, m' = MM J sp true ∧ DP I J sp ns nstr nc d cs fr to)) hW h07 (fun J a b c e f g => ⟨rfl, rfl, J, rfl, a, b, c, e, f, g⟩)) rfl (lt_nn (by decide)) rfl rfl ⟨by decide, by decide⟩ (Nat.le_of_ble_eq_true rfl) ⟨by decide, by decide⟩ ?_
  rintro r n' m' ⟨rfl, rfl, J, rfl, hJ⟩
  have hWJ := hJ.2.2.1
  have hP := hJ.2.2.2.2.1
  have hF := hJ.2.2.2.2.2
  have hA := CW_al hW
  refine aE_aload_n dX11_all_4 rfl rfl ?_
  refine aE_getf (v := .ref 54) dX11_all_5 fw_X11_19 (lt_nn (by decide)) rfl rfl ?_
  refine aE_geti dX11_all_8 fw_X11_208 (lt_nn (by decide)) rfl (by decide) rfl ?_
  refine aE_if_eq (tgt := 24) dX11_all_11 (by decide) (fun h11 => ?_) (fun h11 => ?_)
  · skip
    refine aE_aload_n dX11_all_24 rfl rfl ?_
    refine aE_ldc dX11_all_25 ct_X11_98 ?_
    refine aE_cVi dX11_all_27 lk_X11_62 mv_X11_found (c_found _) rfl (lt_nn (by decide)) rfl rfl ⟨by decide, by decide⟩ (Nat.le_of_ble_eq_true rfl) ⟨rfl, rfl⟩ ⟨by decide, by decide⟩ ?_
    refine aE_iret dX11_all_30 rfl ⟨by decide, by decide⟩ ?_
    first
      | (have ha : allH d cs (alC I sp d) ns = false := by
           cases q : allH d cs (alC I sp d) ns with
           | false => rfl
           | true => have := hF.1; rw [q, h11] at this; exact absurd this (by decide)
         exact hN J hJ ha)
      | (have ha : allH d cs (alC I sp d) ns = true := by
           cases q : allH d cs (alC I sp d) ns with
           | true => rfl
           | false => have := hF.1; rw [q] at this; exact absurd this h11
         rw [hF.2.1]
         exact hO J hJ ha)
  · skip
    refine aE_aload_n dX11_all_14 rfl rfl ?_
    refine aE_getf (v := .ref 54) dX11_all_15 fw_X11_19 (lt_nn (by decide)) rfl rfl ?_
    refine aE_geti dX11_all_18 fw_X11_211 (lt_nn (by decide)) rfl (by decide) rfl ?_
    refine aE_goto (tgt := 30) dX11_all_21 (by decide) ?_
    refine aE_iret dX11_all_30 rfl ⟨by decide, by decide⟩ ?_
    first
      | (have ha : allH d cs (alC I sp d) ns = false := by
           cases q : allH d cs (alC I sp d) ns with
           | false => rfl
           | true => have := hF.1; rw [q, h11] at this; exact absurd this (by decide)
         exact hN J hJ ha)
      | (have ha : allH d cs (alC I sp d) ns = true := by
           cases q : allH d cs (alC I sp d) ns with
           | true => rfl
           | false => have := hF.1; rw [q] at this; exact absurd this h11
         rw [hF.2.1]
         exact hO J hJ ha)

set_option maxRecDepth 20000 in
theorem c_start_t (v : Int32) (hW : CW I sp ns nstr nc d cs fr to)  (hst : ¬ I 0 7 = 0 → PCs I ns d cs (alC I sp d) ∧ FlC I ns d cs (alC I sp d) (I 1 8)) (hB : (v < 0) → qi Q (-1000001) (fnd I) sp true) (hN : ∀ J, 0 ≤ v → DP I J sp ns nstr nc d cs fr to → (allH d cs (alC I sp d) ns = false ∨ nI (RR d cs (alC I sp d) ns).length ≤ v) → qi Q (-1000004) (fnd J) sp true) (hO : ∀ r s S J, v = nI r → (RR d cs (alC I sp d) ns)[r]? = some (s, S) → DP I J sp ns nstr nc d cs fr to → allH d cs (alC I sp d) ns = true → qi Q (st1 d cs (fun s => J 26 s) (s, S)) J sp true) : aRuns mX11_start (rK 6) [.ref 0, .int v] (nn true) (MM I sp true) Q := by
  refine aRuns_of pn_X11_start (Nat.le_of_ble_eq_true rfl) (fun z => aE_loc (ls' := [_, _]) rfl ?_)
  refine aE_iload_n dX11_start_0 rfl rfl ?_
  refine aE_if_ge (tgt := 11) dX11_start_1 (by decide) (fun h1 => ?_) (fun h1 => ?_)
  · skip
    refine aE_aload_n dX11_start_11 rfl rfl ?_
    refine aE_cVq dX11_start_12 lk_X11_181 mv_X11_drawPlans (c_drawPlans_t (Q := (fun (r : Option Value) (n' : Nat) (m' : aM) => r = none ∧ n' = nn true ∧ ∃ J, m' = MM J sp true ∧ DP I J sp ns nstr nc d cs fr to)) hW hst (fun J a b c e f g => ⟨rfl, rfl, J, rfl, a, b, c, e, f, g⟩)) rfl (lt_nn (by decide)) rfl rfl ⟨by decide, by decide⟩ (Nat.le_of_ble_eq_true rfl) ⟨rfl, rfl⟩ ⟨by decide, by decide⟩ ?_
    rintro r n' m' ⟨rfl, rfl, J, rfl, hJ⟩
    have hWJ := hJ.2.2.1
    have hP := hJ.2.2.2.2.1
    have hF := hJ.2.2.2.2.2
    have hA := CW_al hW
    refine aE_aload_n dX11_start_15 rfl rfl ?_
    refine aE_getf (v := .ref 54) dX11_start_16 fw_X11_19 (lt_nn (by decide)) rfl rfl ?_
    refine aE_iload_n dX11_start_19 rfl rfl ?_
    refine aE_cVq dX11_start_20 lk_X11_214 mv_X1_has (c_fhas (Q := (fun (r : Option Value) (n' : Nat) (m' : aM) => n' = nn true ∧ m' = MM J sp true ∧ ((r = some (.int 0) ∧ (allH d cs (alC I sp d) ns = false ∨ nI (RR d cs (alC I sp d) ns).length ≤ v)) ∨ (r = some (.int 1) ∧ allH d cs (alC I sp d) ns = true ∧ ∃ j, j < (RR d cs (alC I sp d) ns).length ∧ v = nI j)))) v (RR d cs (alC I sp d) ns).length hF.2.1 hA.2.1 (fun q => ⟨rfl, rfl, Or.inl ⟨rfl, by
        rcases q with q | q
        · refine Or.inl ?_
          cases w : allH d cs (alC I sp d) ns with
          | false => rfl
          | true => have := hF.1; rw [w, q] at this; exact absurd this (by decide)
        · refine Or.inr ?_
          exact Int32.not_lt.mp (fun w => wi_0 q ⟨Int32.not_lt.mp (Int32.not_lt.mpr h1), by
            obtain ⟨x, hx, rfl⟩ := nI_of (Int32.not_lt.mpr h1)
            have hx2 := (nI_ltI hx (by have := hA.2.1; omega)).mp w
            obtain ⟨y, hy⟩ : ∃ y, (RR d cs (alC I sp d) ns).length = y + 1 := ⟨(RR d cs (alC I sp d) ns).length - 1, by omega⟩
            rw [hy, nI_pred]
            exact (nI_leI hx (by have := hA.2.1; omega)).mpr (by omega)⟩)⟩⟩) (fun q w => ⟨rfl, rfl, Or.inr ⟨rfl, by
        cases u : allH d cs (alC I sp d) ns with
        | true => rfl
        | false => have := hF.1; rw [u] at this; exact absurd this q, wi_ix (by have := hA.2.1; omega) w⟩⟩)) rfl (lt_nn (by decide)) rfl rfl ⟨by decide, by decide⟩ (Nat.le_of_ble_eq_true rfl) ⟨rfl, rfl⟩ ⟨by decide, by decide⟩ ?_
    rintro r n' m' ⟨rfl, rfl, ⟨rfl, hx⟩ | ⟨rfl, hx⟩⟩
    · skip
      refine aE_if_eq (tgt := 41) dX11_start_23 (by decide) (fun h23 => ?_) (fun h23 => absurd (rfl) h23)
      refine aE_aload_n dX11_start_41 rfl rfl ?_
      refine aE_ldc dX11_start_42 ct_X11_98 ?_
      refine aE_cVi dX11_start_44 lk_X11_62 mv_X11_found (c_found _) rfl (lt_nn (by decide)) rfl rfl ⟨by decide, by decide⟩ (Nat.le_of_ble_eq_true rfl) ⟨rfl, rfl⟩ ⟨by decide, by decide⟩ ?_
      refine aE_iret dX11_start_47 rfl ⟨by decide, by decide⟩ ?_
      exact hN J h1 hJ hx
    · obtain ⟨hah, r, hr, rfl⟩ := hx
      obtain ⟨s, S, hrt⟩ : ∃ s S, (RR d cs (alC I sp d) ns)[r]? = some (s, S) := ⟨_, _, List.getElem?_eq_getElem hr⟩
      refine aE_if_eq (tgt := 41) dX11_start_23 (by decide) (fun h23 => absurd h23 (by decide)) (fun h23 => ?_)
      refine aE_aload_n dX11_start_26 rfl rfl ?_
      refine aE_getf (v := .ref 54) dX11_start_27 fw_X11_19 (lt_nn (by decide)) rfl rfl ?_
      refine aE_aload_n dX11_start_30 rfl rfl ?_
      refine aE_getf (v := .ref 1) dX11_start_31 fw_X11_10 (lt_nn (by decide)) rfl rfl ?_
      refine aE_iload_n dX11_start_34 rfl rfl ?_
      refine aE_cVi dX11_start_35 lk_X11_217 mv_X1_startOf (c_startOf hA hW.1.2 hP hF.2.2.2.1 r s S hrt) rfl (lt_nn (by decide)) rfl rfl ⟨by decide, by decide⟩ (Nat.le_of_ble_eq_true rfl) ⟨rfl, rfl⟩ ⟨by decide, by decide⟩ ?_
      refine aE_goto (tgt := 47) dX11_start_38 (by decide) ?_
      refine aE_iret dX11_start_47 rfl ⟨by decide, by decide⟩ ?_
      exact hO r s S J rfl hrt hJ hah
  · skip
    refine aE_aload_n dX11_start_4 rfl rfl ?_
    refine aE_ldc dX11_start_5 ct_X11_78 ?_
    refine aE_cVi dX11_start_7 lk_X11_62 mv_X11_found (c_found _) rfl (lt_nn (by decide)) rfl rfl ⟨by decide, by decide⟩ (Nat.le_of_ble_eq_true rfl) ⟨rfl, rfl⟩ ⟨by decide, by decide⟩ ?_
    refine aE_iret dX11_start_10 rfl ⟨by decide, by decide⟩ ?_
    first
      | exact hB (Int32.not_le.mp h1)

set_option maxRecDepth 20000 in
theorem c_start_f (v : Int32) (hW : CW I sp ns nstr nc d cs fr to)  (h07 : I 0 7 = 0) (hG : ¬ (v < 0)) (hN : ∀ J, 0 ≤ v → DP I J sp ns nstr nc d cs fr to → (allH d cs (alC I sp d) ns = false ∨ nI (RR d cs (alC I sp d) ns).length ≤ v) → qi Q (-1000004) (fnd J) sp true) (hO : ∀ r s S J, v = nI r → (RR d cs (alC I sp d) ns)[r]? = some (s, S) → DP I J sp ns nstr nc d cs fr to → allH d cs (alC I sp d) ns = true → qi Q (st1 d cs (fun s => J 26 s) (s, S)) J sp true) : aRuns mX11_start (rP 6) [.ref 0, .int v] (nn false) (MM I sp false) Q := by
  refine aRuns_of pn_X11_start (Nat.le_of_ble_eq_true rfl) (fun z => aE_loc (ls' := [_, _]) rfl ?_)
  refine aE_iload_n dX11_start_0 rfl rfl ?_
  refine aE_if_ge (tgt := 11) dX11_start_1 (by decide) (fun h1 => ?_) (fun h1 => ?_)
  · skip
    refine aE_aload_n dX11_start_11 rfl rfl ?_
    refine aE_callV dX11_start_12 lk_X11_181 mv_X11_drawPlans (c_drawPlans_f (Q := (fun (r : Option Value) (n' : Nat) (m' : aM) => r = none ∧ n' = nn true ∧ ∃ J, m' = MM J sp true ∧ DP I J sp ns nstr nc d cs fr to)) hW h07 (fun J a b c e f g => ⟨rfl, rfl, J, rfl, a, b, c, e, f, g⟩)) rfl (lt_nn (by decide)) rfl rfl ⟨by decide, by decide⟩ (Nat.le_of_ble_eq_true rfl) ⟨by decide, by decide⟩ ?_
    rintro r n' m' ⟨rfl, rfl, J, rfl, hJ⟩
    have hWJ := hJ.2.2.1
    have hP := hJ.2.2.2.2.1
    have hF := hJ.2.2.2.2.2
    have hA := CW_al hW
    refine aE_aload_n dX11_start_15 rfl rfl ?_
    refine aE_getf (v := .ref 54) dX11_start_16 fw_X11_19 (lt_nn (by decide)) rfl rfl ?_
    refine aE_iload_n dX11_start_19 rfl rfl ?_
    refine aE_cVq dX11_start_20 lk_X11_214 mv_X1_has (c_fhas (Q := (fun (r : Option Value) (n' : Nat) (m' : aM) => n' = nn true ∧ m' = MM J sp true ∧ ((r = some (.int 0) ∧ (allH d cs (alC I sp d) ns = false ∨ nI (RR d cs (alC I sp d) ns).length ≤ v)) ∨ (r = some (.int 1) ∧ allH d cs (alC I sp d) ns = true ∧ ∃ j, j < (RR d cs (alC I sp d) ns).length ∧ v = nI j)))) v (RR d cs (alC I sp d) ns).length hF.2.1 hA.2.1 (fun q => ⟨rfl, rfl, Or.inl ⟨rfl, by
        rcases q with q | q
        · refine Or.inl ?_
          cases w : allH d cs (alC I sp d) ns with
          | false => rfl
          | true => have := hF.1; rw [w, q] at this; exact absurd this (by decide)
        · refine Or.inr ?_
          exact Int32.not_lt.mp (fun w => wi_0 q ⟨Int32.not_lt.mp (Int32.not_lt.mpr h1), by
            obtain ⟨x, hx, rfl⟩ := nI_of (Int32.not_lt.mpr h1)
            have hx2 := (nI_ltI hx (by have := hA.2.1; omega)).mp w
            obtain ⟨y, hy⟩ : ∃ y, (RR d cs (alC I sp d) ns).length = y + 1 := ⟨(RR d cs (alC I sp d) ns).length - 1, by omega⟩
            rw [hy, nI_pred]
            exact (nI_leI hx (by have := hA.2.1; omega)).mpr (by omega)⟩)⟩⟩) (fun q w => ⟨rfl, rfl, Or.inr ⟨rfl, by
        cases u : allH d cs (alC I sp d) ns with
        | true => rfl
        | false => have := hF.1; rw [u] at this; exact absurd this q, wi_ix (by have := hA.2.1; omega) w⟩⟩)) rfl (lt_nn (by decide)) rfl rfl ⟨by decide, by decide⟩ (Nat.le_of_ble_eq_true rfl) ⟨rfl, rfl⟩ ⟨by decide, by decide⟩ ?_
    rintro r n' m' ⟨rfl, rfl, ⟨rfl, hx⟩ | ⟨rfl, hx⟩⟩
    · skip
      refine aE_if_eq (tgt := 41) dX11_start_23 (by decide) (fun h23 => ?_) (fun h23 => absurd (rfl) h23)
      refine aE_aload_n dX11_start_41 rfl rfl ?_
      refine aE_ldc dX11_start_42 ct_X11_98 ?_
      refine aE_cVi dX11_start_44 lk_X11_62 mv_X11_found (c_found _) rfl (lt_nn (by decide)) rfl rfl ⟨by decide, by decide⟩ (Nat.le_of_ble_eq_true rfl) ⟨rfl, rfl⟩ ⟨by decide, by decide⟩ ?_
      refine aE_iret dX11_start_47 rfl ⟨by decide, by decide⟩ ?_
      exact hN J h1 hJ hx
    · obtain ⟨hah, r, hr, rfl⟩ := hx
      obtain ⟨s, S, hrt⟩ : ∃ s S, (RR d cs (alC I sp d) ns)[r]? = some (s, S) := ⟨_, _, List.getElem?_eq_getElem hr⟩
      refine aE_if_eq (tgt := 41) dX11_start_23 (by decide) (fun h23 => absurd h23 (by decide)) (fun h23 => ?_)
      refine aE_aload_n dX11_start_26 rfl rfl ?_
      refine aE_getf (v := .ref 54) dX11_start_27 fw_X11_19 (lt_nn (by decide)) rfl rfl ?_
      refine aE_aload_n dX11_start_30 rfl rfl ?_
      refine aE_getf (v := .ref 1) dX11_start_31 fw_X11_10 (lt_nn (by decide)) rfl rfl ?_
      refine aE_iload_n dX11_start_34 rfl rfl ?_
      refine aE_cVi dX11_start_35 lk_X11_217 mv_X1_startOf (c_startOf hA hW.1.2 hP hF.2.2.2.1 r s S hrt) rfl (lt_nn (by decide)) rfl rfl ⟨by decide, by decide⟩ (Nat.le_of_ble_eq_true rfl) ⟨rfl, rfl⟩ ⟨by decide, by decide⟩ ?_
      refine aE_goto (tgt := 47) dX11_start_38 (by decide) ?_
      refine aE_iret dX11_start_47 rfl ⟨by decide, by decide⟩ ?_
      exact hO r s S J rfl hrt hJ hah
  · skip
    refine aE_aload_n dX11_start_4 rfl rfl ?_
    refine aE_ldc dX11_start_5 ct_X11_78 ?_
    refine aE_cVi dX11_start_7 lk_X11_62 mv_X11_found (c_found _) rfl (lt_nn (by decide)) rfl rfl ⟨by decide, by decide⟩ (Nat.le_of_ble_eq_true rfl) ⟨rfl, rfl⟩ ⟨by decide, by decide⟩ ?_
    refine aE_iret dX11_start_10 rfl ⟨by decide, by decide⟩ ?_
    first
      | exact absurd (Int32.not_le.mp h1) hG

set_option maxRecDepth 20000 in
theorem c_start_b (v : Int32) (hW : CW I sp ns nstr nc d cs fr to)  (hb : v < 0) (hB : qi Q (-1000001) (fnd I) sp false) : aRuns mX11_start (rK 6) [.ref 0, .int v] (nn false) (MM I sp false) Q := by
  refine aRuns_of pn_X11_start (Nat.le_of_ble_eq_true rfl) (fun z => aE_loc (ls' := [_, _]) rfl ?_)
  refine aE_iload_n dX11_start_0 rfl rfl ?_
  refine aE_if_ge (tgt := 11) dX11_start_1 (by decide) (fun h1 => ?_) (fun h1 => ?_)
  · skip
    exact absurd hb (Int32.not_lt.mpr h1)
  · skip
    refine aE_aload_n dX11_start_4 rfl rfl ?_
    refine aE_ldc dX11_start_5 ct_X11_78 ?_
    refine aE_cVi dX11_start_7 lk_X11_62 mv_X11_found (c_found _) rfl (lt_nn (by decide)) rfl rfl ⟨by decide, by decide⟩ (Nat.le_of_ble_eq_true rfl) ⟨rfl, rfl⟩ ⟨by decide, by decide⟩ ?_
    refine aE_iret dX11_start_10 rfl ⟨by decide, by decide⟩ ?_
    exact hB

set_option maxRecDepth 20000 in
theorem c_follows_t (a b : Int32) (hW : CW I sp ns nstr nc d cs fr to)  (hst : ¬ I 0 7 = 0 → PCs I ns d cs (alC I sp d) ∧ FlC I ns d cs (alC I sp d) (I 1 8)) (hB : (a < 0 ∨ b < 0 ∨ a = b) → qi Q (-1000001) (fnd I) sp true) (hN : ∀ J, ¬ a < 0 → ¬ b < 0 → ¬ a = b → DP I J sp ns nstr nc d cs fr to → (allH d cs (alC I sp d) ns = false ∨ nI (RR d cs (alC I sp d) ns).length ≤ a ∨ nI (RR d cs (alC I sp d) ns).length ≤ b) → qi Q (-1000004) (fnd J) sp true) (hO : ∀ r u s S s' S' v J, a = nI r → b = nI u → ¬ a = b → (RR d cs (alC I sp d) ns)[r]? = some (s, S) → (RR d cs (alC I sp d) ns)[u]? = some (s', S') → DP I J sp ns nstr nc d cs fr to → allH d cs (alC I sp d) ns = true → v = (if decide (gapF d cs (I 1 8) (RR d cs (alC I sp d) ns) r u ≤ 20 * (J 26 s' - J 26 s)) then (1 : Int32) else 0) → qi Q v J sp true) : aRuns mX11_follows (rK 6) [.ref 0, .int a, .int b] (nn true) (MM I sp true) Q := by
  refine aRuns_of pn_X11_follows (Nat.le_of_ble_eq_true rfl) (fun z => aE_loc (ls' := [_, _, _]) rfl ?_)
  refine aE_iload_n dX11_follows_0 rfl rfl ?_
  refine aE_if_lt (tgt := 13) dX11_follows_1 (by decide) (fun h1 => ?_) (fun h1 => ?_)
  · skip
    refine aE_aload_n dX11_follows_13 rfl rfl ?_
    refine aE_ldc dX11_follows_14 ct_X11_78 ?_
    refine aE_cVi dX11_follows_16 lk_X11_62 mv_X11_found (c_found _) rfl (lt_nn (by decide)) rfl rfl ⟨by decide, by decide⟩ (Nat.le_of_ble_eq_true rfl) ⟨rfl, rfl⟩ ⟨by decide, by decide⟩ ?_
    refine aE_iret dX11_follows_19 rfl ⟨by decide, by decide⟩ ?_
    first
      | exact hB (Or.inl h1)
      | exact hB (Or.inr (Or.inl h5))
      | exact hB (Or.inr (Or.inr h10))
      | exact hB (Or.inr (Or.inr (Classical.not_not.mp h10)))
  · skip
    refine aE_iload_n dX11_follows_4 rfl rfl ?_
    refine aE_if_lt (tgt := 13) dX11_follows_5 (by decide) (fun h5 => ?_) (fun h5 => ?_)
    · skip
      refine aE_aload_n dX11_follows_13 rfl rfl ?_
      refine aE_ldc dX11_follows_14 ct_X11_78 ?_
      refine aE_cVi dX11_follows_16 lk_X11_62 mv_X11_found (c_found _) rfl (lt_nn (by decide)) rfl rfl ⟨by decide, by decide⟩ (Nat.le_of_ble_eq_true rfl) ⟨rfl, rfl⟩ ⟨by decide, by decide⟩ ?_
      refine aE_iret dX11_follows_19 rfl ⟨by decide, by decide⟩ ?_
      first
        | exact hB (Or.inl h1)
        | exact hB (Or.inr (Or.inl h5))
        | exact hB (Or.inr (Or.inr h10))
        | exact hB (Or.inr (Or.inr (Classical.not_not.mp h10)))
    · skip
      refine aE_iload_n dX11_follows_8 rfl rfl ?_
      refine aE_iload_n dX11_follows_9 rfl rfl ?_
      refine aE_icmp_ne (tgt := 20) dX11_follows_10 (by decide) (fun h10 => ?_) (fun h10 => ?_)
      · skip
        refine aE_aload_n dX11_follows_20 rfl rfl ?_
        refine aE_cVq dX11_follows_21 lk_X11_181 mv_X11_drawPlans (c_drawPlans_t (Q := (fun (r : Option Value) (n' : Nat) (m' : aM) => r = none ∧ n' = nn true ∧ ∃ J, m' = MM J sp true ∧ DP I J sp ns nstr nc d cs fr to)) hW hst (fun J a b c e f g => ⟨rfl, rfl, J, rfl, a, b, c, e, f, g⟩)) rfl (lt_nn (by decide)) rfl rfl ⟨by decide, by decide⟩ (Nat.le_of_ble_eq_true rfl) ⟨rfl, rfl⟩ ⟨by decide, by decide⟩ ?_
        rintro r n' m' ⟨rfl, rfl, J, rfl, hJ⟩
        have hWJ := hJ.2.2.1
        have hP := hJ.2.2.2.2.1
        have hF := hJ.2.2.2.2.2
        have hA := CW_al hW
        refine aE_aload_n dX11_follows_24 rfl rfl ?_
        refine aE_getf (v := .ref 54) dX11_follows_25 fw_X11_19 (lt_nn (by decide)) rfl rfl ?_
        refine aE_iload_n dX11_follows_28 rfl rfl ?_
        refine aE_cVq dX11_follows_29 lk_X11_214 mv_X1_has (c_fhas (Q := (fun (r : Option Value) (n' : Nat) (m' : aM) => n' = nn true ∧ m' = MM J sp true ∧ ((r = some (.int 0) ∧ (allH d cs (alC I sp d) ns = false ∨ nI (RR d cs (alC I sp d) ns).length ≤ a)) ∨ (r = some (.int 1) ∧ allH d cs (alC I sp d) ns = true ∧ ∃ j, j < (RR d cs (alC I sp d) ns).length ∧ a = nI j)))) a (RR d cs (alC I sp d) ns).length hF.2.1 hA.2.1 (fun q => ⟨rfl, rfl, Or.inl ⟨rfl, by
            rcases q with q | q
            · refine Or.inl ?_
              cases w : allH d cs (alC I sp d) ns with
              | false => rfl
              | true => have := hF.1; rw [w, q] at this; exact absurd this (by decide)
            · refine Or.inr ?_
              exact Int32.not_lt.mp (fun w => wi_0 q ⟨Int32.not_lt.mp (h1), by
                obtain ⟨x, hx, rfl⟩ := nI_of (h1)
                have hx2 := (nI_ltI hx (by have := hA.2.1; omega)).mp w
                obtain ⟨y, hy⟩ : ∃ y, (RR d cs (alC I sp d) ns).length = y + 1 := ⟨(RR d cs (alC I sp d) ns).length - 1, by omega⟩
                rw [hy, nI_pred]
                exact (nI_leI hx (by have := hA.2.1; omega)).mpr (by omega)⟩)⟩⟩) (fun q w => ⟨rfl, rfl, Or.inr ⟨rfl, by
            cases u : allH d cs (alC I sp d) ns with
            | true => rfl
            | false => have := hF.1; rw [u] at this; exact absurd this q, wi_ix (by have := hA.2.1; omega) w⟩⟩)) rfl (lt_nn (by decide)) rfl rfl ⟨by decide, by decide⟩ (Nat.le_of_ble_eq_true rfl) ⟨rfl, rfl⟩ ⟨by decide, by decide⟩ ?_
        rintro r n' m' ⟨rfl, rfl, ⟨rfl, hx⟩ | ⟨rfl, hx⟩⟩
        · skip
          refine aE_if_eq (tgt := 46) dX11_follows_32 (by decide) (fun h32 => ?_) (fun h32 => absurd (rfl) h32)
          refine aE_aload_n dX11_follows_46 rfl rfl ?_
          refine aE_ldc dX11_follows_47 ct_X11_98 ?_
          refine aE_cVi dX11_follows_49 lk_X11_62 mv_X11_found (c_found _) rfl (lt_nn (by decide)) rfl rfl ⟨by decide, by decide⟩ (Nat.le_of_ble_eq_true rfl) ⟨rfl, rfl⟩ ⟨by decide, by decide⟩ ?_
          refine aE_iret dX11_follows_52 rfl ⟨by decide, by decide⟩ ?_
          exact hN J h1 h5 h10 hJ (by rcases hx with q | q; exact Or.inl q; exact Or.inr (Or.inl q))
        · skip
          refine aE_if_eq (tgt := 46) dX11_follows_32 (by decide) (fun h32 => absurd h32 (by decide)) (fun h32 => ?_)
          refine aE_aload_n dX11_follows_35 rfl rfl ?_
          refine aE_getf (v := .ref 54) dX11_follows_36 fw_X11_19 (lt_nn (by decide)) rfl rfl ?_
          refine aE_iload_n dX11_follows_39 rfl rfl ?_
          refine aE_cVq dX11_follows_40 lk_X11_214 mv_X1_has (c_fhas (Q := (fun (r : Option Value) (n' : Nat) (m' : aM) => n' = nn true ∧ m' = MM J sp true ∧ ((r = some (.int 0) ∧ (allH d cs (alC I sp d) ns = false ∨ nI (RR d cs (alC I sp d) ns).length ≤ b)) ∨ (r = some (.int 1) ∧ allH d cs (alC I sp d) ns = true ∧ ∃ j, j < (RR d cs (alC I sp d) ns).length ∧ b = nI j)))) b (RR d cs (alC I sp d) ns).length hF.2.1 hA.2.1 (fun q => ⟨rfl, rfl, Or.inl ⟨rfl, by
              rcases q with q | q
              · refine Or.inl ?_
                cases w : allH d cs (alC I sp d) ns with
                | false => rfl
                | true => have := hF.1; rw [w, q] at this; exact absurd this (by decide)
              · refine Or.inr ?_
                exact Int32.not_lt.mp (fun w => wi_0 q ⟨Int32.not_lt.mp (h5), by
                  obtain ⟨x, hx, rfl⟩ := nI_of (h5)
                  have hx2 := (nI_ltI hx (by have := hA.2.1; omega)).mp w
                  obtain ⟨y, hy⟩ : ∃ y, (RR d cs (alC I sp d) ns).length = y + 1 := ⟨(RR d cs (alC I sp d) ns).length - 1, by omega⟩
                  rw [hy, nI_pred]
                  exact (nI_leI hx (by have := hA.2.1; omega)).mpr (by omega)⟩)⟩⟩) (fun q w => ⟨rfl, rfl, Or.inr ⟨rfl, by
              cases u : allH d cs (alC I sp d) ns with
              | true => rfl
              | false => have := hF.1; rw [u] at this; exact absurd this q, wi_ix (by have := hA.2.1; omega) w⟩⟩)) rfl (lt_nn (by decide)) rfl rfl ⟨by decide, by decide⟩ (Nat.le_of_ble_eq_true rfl) ⟨rfl, rfl⟩ ⟨by decide, by decide⟩ ?_
          rintro r n' m' ⟨rfl, rfl, ⟨rfl, hy⟩ | ⟨rfl, hy⟩⟩
          · skip
            refine aE_if_ne (tgt := 53) dX11_follows_43 (by decide) (fun h43 => absurd (rfl) h43) (fun h43 => ?_)
            refine aE_aload_n dX11_follows_46 rfl rfl ?_
            refine aE_ldc dX11_follows_47 ct_X11_98 ?_
            refine aE_cVi dX11_follows_49 lk_X11_62 mv_X11_found (c_found _) rfl (lt_nn (by decide)) rfl rfl ⟨by decide, by decide⟩ (Nat.le_of_ble_eq_true rfl) ⟨rfl, rfl⟩ ⟨by decide, by decide⟩ ?_
            refine aE_iret dX11_follows_52 rfl ⟨by decide, by decide⟩ ?_
            exact hN J h1 h5 h10 hJ (by rcases hy with q | q; exact Or.inl q; exact Or.inr (Or.inr q))
          · obtain ⟨hah, r, hr, rfl⟩ := hx
            obtain ⟨-, u, hu, rfl⟩ := hy
            obtain ⟨s, S, hrt⟩ : ∃ s S, (RR d cs (alC I sp d) ns)[r]? = some (s, S) := ⟨_, _, List.getElem?_eq_getElem hr⟩
            obtain ⟨s', S', hut⟩ : ∃ s S, (RR d cs (alC I sp d) ns)[u]? = some (s, S) := ⟨_, _, List.getElem?_eq_getElem hu⟩
            have hv : (if decide (gapF d cs (I 1 8) (RR d cs (alC I sp d) ns) r u ≤ 20 * (J 26 s' - J 26 s)) then (1 : Int32) else 0) = 0 ∨ (if decide (gapF d cs (I 1 8) (RR d cs (alC I sp d) ns) r u ≤ 20 * (J 26 s' - J 26 s)) then (1 : Int32) else 0) = 1 := by
              cases decide (gapF d cs (I 1 8) (RR d cs (alC I sp d) ns) r u ≤ 20 * (J 26 s' - J 26 s))
              · exact Or.inl rfl
              · exact Or.inr rfl
            refine aE_if_ne (tgt := 53) dX11_follows_43 (by decide) (fun h43 => ?_) (fun h43 => absurd h43 (by decide))
            refine aE_aload_n dX11_follows_53 rfl rfl ?_
            refine aE_getf (v := .ref 54) dX11_follows_54 fw_X11_19 (lt_nn (by decide)) rfl rfl ?_
            refine aE_aload_n dX11_follows_57 rfl rfl ?_
            refine aE_getf (v := .ref 1) dX11_follows_58 fw_X11_10 (lt_nn (by decide)) rfl rfl ?_
            refine aE_getf (v := .ref 26) dX11_follows_61 fw_X11_126 (lt_nn (by decide)) rfl rfl ?_
            refine aE_iload_n dX11_follows_64 rfl rfl ?_
            refine aE_iload_n dX11_follows_65 rfl rfl ?_
            refine aE_cVi dX11_follows_66 lk_X11_221 mv_X1_canFollow (c_canFollow 26 (Or.inl rfl) hA hW.1.2 hF.2.2.2.1 r u s S s' S' hrt hut (I 1 8) (hF.2.2.2.2 hah r u hr hu)) rfl (lt_nn (by decide)) rfl rfl ⟨by decide, by decide⟩ (Nat.le_of_ble_eq_true rfl) ⟨rfl, rfl⟩ ⟨by decide, by decide⟩ ?_
            refine aE_if_eq (tgt := 76) dX11_follows_69 (by decide) (fun h69 => ?_) (fun h69 => ?_)
            · skip
              refine aE_iconst (v := 0) dX11_follows_76 rfl ?_
              refine aE_iret dX11_follows_77 rfl ⟨by decide, by decide⟩ ?_
              first
                | exact hO r u s S s' S' 0 J rfl rfl h10 hrt hut hJ hah (by rw [h69])
                | exact hO r u s S s' S' 1 J rfl rfl h10 hrt hut hJ hah (by rcases hv with q | q; exact absurd q h69; exact q.symm)
            · skip
              refine aE_iconst (v := 1) dX11_follows_72 rfl ?_
              refine aE_goto (tgt := 77) dX11_follows_73 (by decide) ?_
              refine aE_iret dX11_follows_77 rfl ⟨by decide, by decide⟩ ?_
              first
                | exact hO r u s S s' S' 0 J rfl rfl h10 hrt hut hJ hah (by rw [h69])
                | exact hO r u s S s' S' 1 J rfl rfl h10 hrt hut hJ hah (by rcases hv with q | q; exact absurd q h69; exact q.symm)
      · skip
        refine aE_aload_n dX11_follows_13 rfl rfl ?_
        refine aE_ldc dX11_follows_14 ct_X11_78 ?_
        refine aE_cVi dX11_follows_16 lk_X11_62 mv_X11_found (c_found _) rfl (lt_nn (by decide)) rfl rfl ⟨by decide, by decide⟩ (Nat.le_of_ble_eq_true rfl) ⟨rfl, rfl⟩ ⟨by decide, by decide⟩ ?_
        refine aE_iret dX11_follows_19 rfl ⟨by decide, by decide⟩ ?_
        first
          | exact hB (Or.inl h1)
          | exact hB (Or.inr (Or.inl h5))
          | exact hB (Or.inr (Or.inr h10))
          | exact hB (Or.inr (Or.inr (Classical.not_not.mp h10)))

set_option maxRecDepth 20000 in
theorem c_follows_f (a b : Int32) (hW : CW I sp ns nstr nc d cs fr to)  (h07 : I 0 7 = 0) (hG : ¬ (a < 0 ∨ b < 0 ∨ a = b)) (hN : ∀ J, ¬ a < 0 → ¬ b < 0 → ¬ a = b → DP I J sp ns nstr nc d cs fr to → (allH d cs (alC I sp d) ns = false ∨ nI (RR d cs (alC I sp d) ns).length ≤ a ∨ nI (RR d cs (alC I sp d) ns).length ≤ b) → qi Q (-1000004) (fnd J) sp true) (hO : ∀ r u s S s' S' v J, a = nI r → b = nI u → ¬ a = b → (RR d cs (alC I sp d) ns)[r]? = some (s, S) → (RR d cs (alC I sp d) ns)[u]? = some (s', S') → DP I J sp ns nstr nc d cs fr to → allH d cs (alC I sp d) ns = true → v = (if decide (gapF d cs (I 1 8) (RR d cs (alC I sp d) ns) r u ≤ 20 * (J 26 s' - J 26 s)) then (1 : Int32) else 0) → qi Q v J sp true) : aRuns mX11_follows (rP 6) [.ref 0, .int a, .int b] (nn false) (MM I sp false) Q := by
  refine aRuns_of pn_X11_follows (Nat.le_of_ble_eq_true rfl) (fun z => aE_loc (ls' := [_, _, _]) rfl ?_)
  refine aE_iload_n dX11_follows_0 rfl rfl ?_
  refine aE_if_lt (tgt := 13) dX11_follows_1 (by decide) (fun h1 => ?_) (fun h1 => ?_)
  · skip
    refine aE_aload_n dX11_follows_13 rfl rfl ?_
    refine aE_ldc dX11_follows_14 ct_X11_78 ?_
    refine aE_cVi dX11_follows_16 lk_X11_62 mv_X11_found (c_found _) rfl (lt_nn (by decide)) rfl rfl ⟨by decide, by decide⟩ (Nat.le_of_ble_eq_true rfl) ⟨rfl, rfl⟩ ⟨by decide, by decide⟩ ?_
    refine aE_iret dX11_follows_19 rfl ⟨by decide, by decide⟩ ?_
    first
      | exact absurd (Or.inl h1) hG
      | exact absurd (Or.inr (Or.inl h5)) hG
      | exact absurd (Or.inr (Or.inr h10)) hG
      | exact absurd (Or.inr (Or.inr (Classical.not_not.mp h10))) hG
  · skip
    refine aE_iload_n dX11_follows_4 rfl rfl ?_
    refine aE_if_lt (tgt := 13) dX11_follows_5 (by decide) (fun h5 => ?_) (fun h5 => ?_)
    · skip
      refine aE_aload_n dX11_follows_13 rfl rfl ?_
      refine aE_ldc dX11_follows_14 ct_X11_78 ?_
      refine aE_cVi dX11_follows_16 lk_X11_62 mv_X11_found (c_found _) rfl (lt_nn (by decide)) rfl rfl ⟨by decide, by decide⟩ (Nat.le_of_ble_eq_true rfl) ⟨rfl, rfl⟩ ⟨by decide, by decide⟩ ?_
      refine aE_iret dX11_follows_19 rfl ⟨by decide, by decide⟩ ?_
      first
        | exact absurd (Or.inl h1) hG
        | exact absurd (Or.inr (Or.inl h5)) hG
        | exact absurd (Or.inr (Or.inr h10)) hG
        | exact absurd (Or.inr (Or.inr (Classical.not_not.mp h10))) hG
    · skip
      refine aE_iload_n dX11_follows_8 rfl rfl ?_
      refine aE_iload_n dX11_follows_9 rfl rfl ?_
      refine aE_icmp_ne (tgt := 20) dX11_follows_10 (by decide) (fun h10 => ?_) (fun h10 => ?_)
      · skip
        refine aE_aload_n dX11_follows_20 rfl rfl ?_
        refine aE_callV dX11_follows_21 lk_X11_181 mv_X11_drawPlans (c_drawPlans_f (Q := (fun (r : Option Value) (n' : Nat) (m' : aM) => r = none ∧ n' = nn true ∧ ∃ J, m' = MM J sp true ∧ DP I J sp ns nstr nc d cs fr to)) hW h07 (fun J a b c e f g => ⟨rfl, rfl, J, rfl, a, b, c, e, f, g⟩)) rfl (lt_nn (by decide)) rfl rfl ⟨by decide, by decide⟩ (Nat.le_of_ble_eq_true rfl) ⟨by decide, by decide⟩ ?_
        rintro r n' m' ⟨rfl, rfl, J, rfl, hJ⟩
        have hWJ := hJ.2.2.1
        have hP := hJ.2.2.2.2.1
        have hF := hJ.2.2.2.2.2
        have hA := CW_al hW
        refine aE_aload_n dX11_follows_24 rfl rfl ?_
        refine aE_getf (v := .ref 54) dX11_follows_25 fw_X11_19 (lt_nn (by decide)) rfl rfl ?_
        refine aE_iload_n dX11_follows_28 rfl rfl ?_
        refine aE_cVq dX11_follows_29 lk_X11_214 mv_X1_has (c_fhas (Q := (fun (r : Option Value) (n' : Nat) (m' : aM) => n' = nn true ∧ m' = MM J sp true ∧ ((r = some (.int 0) ∧ (allH d cs (alC I sp d) ns = false ∨ nI (RR d cs (alC I sp d) ns).length ≤ a)) ∨ (r = some (.int 1) ∧ allH d cs (alC I sp d) ns = true ∧ ∃ j, j < (RR d cs (alC I sp d) ns).length ∧ a = nI j)))) a (RR d cs (alC I sp d) ns).length hF.2.1 hA.2.1 (fun q => ⟨rfl, rfl, Or.inl ⟨rfl, by
            rcases q with q | q
            · refine Or.inl ?_
              cases w : allH d cs (alC I sp d) ns with
              | false => rfl
              | true => have := hF.1; rw [w, q] at this; exact absurd this (by decide)
            · refine Or.inr ?_
              exact Int32.not_lt.mp (fun w => wi_0 q ⟨Int32.not_lt.mp (h1), by
                obtain ⟨x, hx, rfl⟩ := nI_of (h1)
                have hx2 := (nI_ltI hx (by have := hA.2.1; omega)).mp w
                obtain ⟨y, hy⟩ : ∃ y, (RR d cs (alC I sp d) ns).length = y + 1 := ⟨(RR d cs (alC I sp d) ns).length - 1, by omega⟩
                rw [hy, nI_pred]
                exact (nI_leI hx (by have := hA.2.1; omega)).mpr (by omega)⟩)⟩⟩) (fun q w => ⟨rfl, rfl, Or.inr ⟨rfl, by
            cases u : allH d cs (alC I sp d) ns with
            | true => rfl
            | false => have := hF.1; rw [u] at this; exact absurd this q, wi_ix (by have := hA.2.1; omega) w⟩⟩)) rfl (lt_nn (by decide)) rfl rfl ⟨by decide, by decide⟩ (Nat.le_of_ble_eq_true rfl) ⟨rfl, rfl⟩ ⟨by decide, by decide⟩ ?_
        rintro r n' m' ⟨rfl, rfl, ⟨rfl, hx⟩ | ⟨rfl, hx⟩⟩
        · skip
          refine aE_if_eq (tgt := 46) dX11_follows_32 (by decide) (fun h32 => ?_) (fun h32 => absurd (rfl) h32)
          refine aE_aload_n dX11_follows_46 rfl rfl ?_
          refine aE_ldc dX11_follows_47 ct_X11_98 ?_
          refine aE_cVi dX11_follows_49 lk_X11_62 mv_X11_found (c_found _) rfl (lt_nn (by decide)) rfl rfl ⟨by decide, by decide⟩ (Nat.le_of_ble_eq_true rfl) ⟨rfl, rfl⟩ ⟨by decide, by decide⟩ ?_
          refine aE_iret dX11_follows_52 rfl ⟨by decide, by decide⟩ ?_
          exact hN J h1 h5 h10 hJ (by rcases hx with q | q; exact Or.inl q; exact Or.inr (Or.inl q))
        · skip
          refine aE_if_eq (tgt := 46) dX11_follows_32 (by decide) (fun h32 => absurd h32 (by decide)) (fun h32 => ?_)
          refine aE_aload_n dX11_follows_35 rfl rfl ?_
          refine aE_getf (v := .ref 54) dX11_follows_36 fw_X11_19 (lt_nn (by decide)) rfl rfl ?_
          refine aE_iload_n dX11_follows_39 rfl rfl ?_
          refine aE_cVq dX11_follows_40 lk_X11_214 mv_X1_has (c_fhas (Q := (fun (r : Option Value) (n' : Nat) (m' : aM) => n' = nn true ∧ m' = MM J sp true ∧ ((r = some (.int 0) ∧ (allH d cs (alC I sp d) ns = false ∨ nI (RR d cs (alC I sp d) ns).length ≤ b)) ∨ (r = some (.int 1) ∧ allH d cs (alC I sp d) ns = true ∧ ∃ j, j < (RR d cs (alC I sp d) ns).length ∧ b = nI j)))) b (RR d cs (alC I sp d) ns).length hF.2.1 hA.2.1 (fun q => ⟨rfl, rfl, Or.inl ⟨rfl, by
              rcases q with q | q
              · refine Or.inl ?_
                cases w : allH d cs (alC I sp d) ns with
                | false => rfl
                | true => have := hF.1; rw [w, q] at this; exact absurd this (by decide)
              · refine Or.inr ?_
                exact Int32.not_lt.mp (fun w => wi_0 q ⟨Int32.not_lt.mp (h5), by
                  obtain ⟨x, hx, rfl⟩ := nI_of (h5)
                  have hx2 := (nI_ltI hx (by have := hA.2.1; omega)).mp w
                  obtain ⟨y, hy⟩ : ∃ y, (RR d cs (alC I sp d) ns).length = y + 1 := ⟨(RR d cs (alC I sp d) ns).length - 1, by omega⟩
                  rw [hy, nI_pred]
                  exact (nI_leI hx (by have := hA.2.1; omega)).mpr (by omega)⟩)⟩⟩) (fun q w => ⟨rfl, rfl, Or.inr ⟨rfl, by
              cases u : allH d cs (alC I sp d) ns with
              | true => rfl
              | false => have := hF.1; rw [u] at this; exact absurd this q, wi_ix (by have := hA.2.1; omega) w⟩⟩)) rfl (lt_nn (by decide)) rfl rfl ⟨by decide, by decide⟩ (Nat.le_of_ble_eq_true rfl) ⟨rfl, rfl⟩ ⟨by decide, by decide⟩ ?_
          rintro r n' m' ⟨rfl, rfl, ⟨rfl, hy⟩ | ⟨rfl, hy⟩⟩
          · skip
            refine aE_if_ne (tgt := 53) dX11_follows_43 (by decide) (fun h43 => absurd (rfl) h43) (fun h43 => ?_)
            refine aE_aload_n dX11_follows_46 rfl rfl ?_
            refine aE_ldc dX11_follows_47 ct_X11_98 ?_
            refine aE_cVi dX11_follows_49 lk_X11_62 mv_X11_found (c_found _) rfl (lt_nn (by decide)) rfl rfl ⟨by decide, by decide⟩ (Nat.le_of_ble_eq_true rfl) ⟨rfl, rfl⟩ ⟨by decide, by decide⟩ ?_
            refine aE_iret dX11_follows_52 rfl ⟨by decide, by decide⟩ ?_
            exact hN J h1 h5 h10 hJ (by rcases hy with q | q; exact Or.inl q; exact Or.inr (Or.inr q))
          · obtain ⟨hah, r, hr, rfl⟩ := hx
            obtain ⟨-, u, hu, rfl⟩ := hy
            obtain ⟨s, S, hrt⟩ : ∃ s S, (RR d cs (alC I sp d) ns)[r]? = some (s, S) := ⟨_, _, List.getElem?_eq_getElem hr⟩
            obtain ⟨s', S', hut⟩ : ∃ s S, (RR d cs (alC I sp d) ns)[u]? = some (s, S) := ⟨_, _, List.getElem?_eq_getElem hu⟩
            have hv : (if decide (gapF d cs (I 1 8) (RR d cs (alC I sp d) ns) r u ≤ 20 * (J 26 s' - J 26 s)) then (1 : Int32) else 0) = 0 ∨ (if decide (gapF d cs (I 1 8) (RR d cs (alC I sp d) ns) r u ≤ 20 * (J 26 s' - J 26 s)) then (1 : Int32) else 0) = 1 := by
              cases decide (gapF d cs (I 1 8) (RR d cs (alC I sp d) ns) r u ≤ 20 * (J 26 s' - J 26 s))
              · exact Or.inl rfl
              · exact Or.inr rfl
            refine aE_if_ne (tgt := 53) dX11_follows_43 (by decide) (fun h43 => ?_) (fun h43 => absurd h43 (by decide))
            refine aE_aload_n dX11_follows_53 rfl rfl ?_
            refine aE_getf (v := .ref 54) dX11_follows_54 fw_X11_19 (lt_nn (by decide)) rfl rfl ?_
            refine aE_aload_n dX11_follows_57 rfl rfl ?_
            refine aE_getf (v := .ref 1) dX11_follows_58 fw_X11_10 (lt_nn (by decide)) rfl rfl ?_
            refine aE_getf (v := .ref 26) dX11_follows_61 fw_X11_126 (lt_nn (by decide)) rfl rfl ?_
            refine aE_iload_n dX11_follows_64 rfl rfl ?_
            refine aE_iload_n dX11_follows_65 rfl rfl ?_
            refine aE_cVi dX11_follows_66 lk_X11_221 mv_X1_canFollow (c_canFollow 26 (Or.inl rfl) hA hW.1.2 hF.2.2.2.1 r u s S s' S' hrt hut (I 1 8) (hF.2.2.2.2 hah r u hr hu)) rfl (lt_nn (by decide)) rfl rfl ⟨by decide, by decide⟩ (Nat.le_of_ble_eq_true rfl) ⟨rfl, rfl⟩ ⟨by decide, by decide⟩ ?_
            refine aE_if_eq (tgt := 76) dX11_follows_69 (by decide) (fun h69 => ?_) (fun h69 => ?_)
            · skip
              refine aE_iconst (v := 0) dX11_follows_76 rfl ?_
              refine aE_iret dX11_follows_77 rfl ⟨by decide, by decide⟩ ?_
              first
                | exact hO r u s S s' S' 0 J rfl rfl h10 hrt hut hJ hah (by rw [h69])
                | exact hO r u s S s' S' 1 J rfl rfl h10 hrt hut hJ hah (by rcases hv with q | q; exact absurd q h69; exact q.symm)
            · skip
              refine aE_iconst (v := 1) dX11_follows_72 rfl ?_
              refine aE_goto (tgt := 77) dX11_follows_73 (by decide) ?_
              refine aE_iret dX11_follows_77 rfl ⟨by decide, by decide⟩ ?_
              first
                | exact hO r u s S s' S' 0 J rfl rfl h10 hrt hut hJ hah (by rw [h69])
                | exact hO r u s S s' S' 1 J rfl rfl h10 hrt hut hJ hah (by rcases hv with q | q; exact absurd q h69; exact q.symm)
      · skip
        refine aE_aload_n dX11_follows_13 rfl rfl ?_
        refine aE_ldc dX11_follows_14 ct_X11_78 ?_
        refine aE_cVi dX11_follows_16 lk_X11_62 mv_X11_found (c_found _) rfl (lt_nn (by decide)) rfl rfl ⟨by decide, by decide⟩ (Nat.le_of_ble_eq_true rfl) ⟨rfl, rfl⟩ ⟨by decide, by decide⟩ ?_
        refine aE_iret dX11_follows_19 rfl ⟨by decide, by decide⟩ ?_
        first
          | exact absurd (Or.inl h1) hG
          | exact absurd (Or.inr (Or.inl h5)) hG
          | exact absurd (Or.inr (Or.inr h10)) hG
          | exact absurd (Or.inr (Or.inr (Classical.not_not.mp h10))) hG

set_option maxRecDepth 20000 in
theorem c_follows_b (a b : Int32) (hW : CW I sp ns nstr nc d cs fr to)  (hb : a < 0 ∨ b < 0 ∨ a = b) (hB : qi Q (-1000001) (fnd I) sp false) : aRuns mX11_follows (rK 6) [.ref 0, .int a, .int b] (nn false) (MM I sp false) Q := by
  refine aRuns_of pn_X11_follows (Nat.le_of_ble_eq_true rfl) (fun z => aE_loc (ls' := [_, _, _]) rfl ?_)
  refine aE_iload_n dX11_follows_0 rfl rfl ?_
  refine aE_if_lt (tgt := 13) dX11_follows_1 (by decide) (fun h1 => ?_) (fun h1 => ?_)
  · skip
    refine aE_aload_n dX11_follows_13 rfl rfl ?_
    refine aE_ldc dX11_follows_14 ct_X11_78 ?_
    refine aE_cVi dX11_follows_16 lk_X11_62 mv_X11_found (c_found _) rfl (lt_nn (by decide)) rfl rfl ⟨by decide, by decide⟩ (Nat.le_of_ble_eq_true rfl) ⟨rfl, rfl⟩ ⟨by decide, by decide⟩ ?_
    refine aE_iret dX11_follows_19 rfl ⟨by decide, by decide⟩ ?_
    exact hB
  · skip
    refine aE_iload_n dX11_follows_4 rfl rfl ?_
    refine aE_if_lt (tgt := 13) dX11_follows_5 (by decide) (fun h5 => ?_) (fun h5 => ?_)
    · skip
      refine aE_aload_n dX11_follows_13 rfl rfl ?_
      refine aE_ldc dX11_follows_14 ct_X11_78 ?_
      refine aE_cVi dX11_follows_16 lk_X11_62 mv_X11_found (c_found _) rfl (lt_nn (by decide)) rfl rfl ⟨by decide, by decide⟩ (Nat.le_of_ble_eq_true rfl) ⟨rfl, rfl⟩ ⟨by decide, by decide⟩ ?_
      refine aE_iret dX11_follows_19 rfl ⟨by decide, by decide⟩ ?_
      exact hB
    · skip
      refine aE_iload_n dX11_follows_8 rfl rfl ?_
      refine aE_iload_n dX11_follows_9 rfl rfl ?_
      refine aE_icmp_ne (tgt := 20) dX11_follows_10 (by decide) (fun h10 => ?_) (fun h10 => ?_)
      · skip
        exact absurd hb (fun q => by rcases q with q | q | q; exact h1 q; exact h5 q; exact h10 q)
      · skip
        refine aE_aload_n dX11_follows_13 rfl rfl ?_
        refine aE_ldc dX11_follows_14 ct_X11_78 ?_
        refine aE_cVi dX11_follows_16 lk_X11_62 mv_X11_found (c_found _) rfl (lt_nn (by decide)) rfl rfl ⟨by decide, by decide⟩ (Nat.le_of_ble_eq_true rfl) ⟨rfl, rfl⟩ ⟨by decide, by decide⟩ ?_
        refine aE_iret dX11_follows_19 rfl ⟨by decide, by decide⟩ ?_
        exact hB

end CPUB2
