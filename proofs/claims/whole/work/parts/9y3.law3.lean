theorem inv_0 : Inv iI iS false := by
  have r : ∀ a b, (a ≠ 1 ∧ a ≠ 101) → (b ≠ 1 ∧ b ≠ 101) → iI a = iI b := fun a b ha hb => funext fun j => by rw [iI_z ha, iI_z hb]
  have q : ∀ a b i j, (a ≠ 1 ∧ a ≠ 101) → (b ≠ 1 ∧ b ≠ 101) → iI a i = iI b j := fun a b i j ha hb => by rw [iI_z ha, iI_z hb]
  refine ⟨0, 0, 0, (0, fun _ => 0, dTab (fun _ => 0) (fun _ => 0) (iI 5) (iI 6) 0 0, fun _ => 0, 40), fun _ => (0, 0), fun _ => 0, fun _ => 0, fun _ => 0, fun _ => 0, 0, 0, 0, fun _ => 0, ⟨⟨⟨rfl, by omega⟩, ⟨rfl, by omega⟩, ⟨rfl, by omega⟩, fun s hs => absurd hs (by omega), fun s hs => absurd hs (by omega), rfl, ⟨rfl, by decide⟩, fun k hk => ⟨by unfold iS; omega, by unfold iS; omega⟩, fun k hk => absurd hk (Nat.not_lt_zero k), rfl, fun s hs => absurd hs (by omega), fun h => absurd rfl h⟩, ⟨rfl, rfl, rfl, rfl, rfl, rfl, rfl, rfl, rfl, rfl⟩, ⟨rfl, by omega, rfl, by omega⟩, ⟨fun s hs => absurd hs (by omega), r _ _ (by decide) (by decide), r _ _ (by decide) (by decide), fun s hs => absurd hs (by omega)⟩, fun s hs => ⟨q _ _ _ _ (by omega) (by omega), q _ _ _ _ (by omega) (by omega), q _ _ _ _ (by omega) (by omega), q _ _ _ _ (by omega) (by omega)⟩, fun s hs => absurd hs (by omega), fun k hk => absurd hk (Nat.not_lt_zero k), fun i j _ _ h => by unfold iS at h; omega, ⟨r _ _ (by decide) (by decide), r _ _ (by decide) (by decide), r _ _ (by decide) (by decide), r _ _ (by decide) (by decide), fun s hs => absurd hs (by omega)⟩, fun j hj => ⟨Nat.zero_le _, iI_z (by omega) _, q _ _ _ _ (by omega) (by omega), iI_z (by omega) _, fun i hi => q _ _ _ _ (by omega) (by omega)⟩, ⟨rfl, by omega, rfl, fun s hs => absurd hs (by omega)⟩, ⟨by decide, by decide⟩, ⟨by decide, by decide⟩⟩, Cach_0 rfl rfl rfl rfl rfl⟩
set_option maxRecDepth 20000 in
theorem law_aE {nm : MethodName} {z : Nat × (Nat → Int32)} (hz : z.1 ≤ 3072) {Q : Option Value → Nat → aM → Prop} (hQ : ∀ n m, Q (some (.int 1)) n m) (mem : aM) : aE z (mLn nm) room_1 Q 0 [some (.ref 100000), none, none, none] [] 0 mem 0 0 := by
  refine aE_new (mem' := UN 0) dL_law_0 cf_11 nw_L_7 rfl (UN_new tyX11_ok (by decide) (by decide) (by decide +kernel)) (fun q h => absurd h (by omega)) (by decide) ⟨by decide, by decide⟩ ?_
  refine aE_dup dL_law_3 rfl ?_
  refine aE_callI (x := mX11_init) (Rx := { frames := 3, cells := 100, slots := 871, locals := 120 }) (as := []) (b := 0) dL_law_4 (Or.inl lk_L_9) mi_X11_init ci_0 rfl (by decide) rfl ⟨by decide, by decide⟩ (Nat.le_of_ble_eq_true rfl) ⟨by decide, by decide⟩ ?_
  rintro r n' m' ⟨rfl, rfl, rfl⟩
  refine aE_astore_n dL_law_7 rfl (show (1 : Nat) < 4 by decide) rfl (aE_loc (ls' := [_, _, _, _]) rfl ?_)
  refine aE_new (mem' := UN 72) dL_law_8 cf_12 nw_L_10 rfl (UN_new tyX12_ok (by decide) (by decide) (by decide +kernel)) (fun _ _ => rfl) (by decide) ⟨by decide, by decide⟩ ?_
  refine aE_dup dL_law_11 rfl ?_
  refine aE_callI (x := mX12_init) (Rx := { frames := 1, cells := 45, slots := 26251, locals := 40 }) (as := []) (b := 101) dL_law_12 (Or.inl lk_L_12) mi_X12_init ci_101 rfl (by decide) rfl ⟨by decide, by decide⟩ (Nat.le_of_ble_eq_true rfl) ⟨by decide, by decide⟩ ?_
  rintro r n' m' ⟨rfl, rfl, rfl⟩
  refine aE_astore_n dL_law_15 rfl (show (2 : Nat) < 4 by decide) rfl (aE_loc (ls' := [_, _, _, _]) rfl ?_)
  refine aE_mem UN_end ?_
  refine aE_iconst (v := 0) dL_law_16 rfl ?_
  refine aE_top (x' := nI 0) rfl ?_
  refine aE_istore_n dL_law_17 rfl (show (3 : Nat) < 4 by decide) rfl (aE_loc (ls' := [_, _, _, _]) rfl ?_)
  exact law_loop_f hz hQ _ _ ⟨by decide, by decide⟩ z.1 0 iI iS (by omega) (by omega) inv_0
