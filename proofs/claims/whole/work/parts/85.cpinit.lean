section CPINIT
variable {z : Nat × (Nat → Int32)} {n : Nat} {mem : aM} {I : Nat → Nat → Int32} {sp : Nat → Nat} {pl : Bool} {Q : Option Value → Nat → aM → Prop} {R : Room}
set_option maxRecDepth 20000 in
theorem c_pinit : aRuns mX5_init { frames := 1, cells := 18, slots := 13452, locals := 40 } [.ref 147] 148 (OV (MM (zI I 147) sp false) 147 0) (fun r n' m' => r = none ∧ n' = 166 ∧ m' = (MM (zI I 147) sp false)) := by
  refine aRuns_of pn_X5_init (Nat.le_of_ble_eq_true rfl) (fun z => aE_loc (ls' := [_]) rfl ?_)
  refine aE_aload_n dX5_init_0 rfl rfl ?_
  refine aE_obj dX5_init_1 ob_X5_3 ⟨by decide, by decide⟩ (Nat.le_of_ble_eq_true rfl) ?_
  refine aE_aload_n dX5_init_4 rfl rfl ?_
  refine aE_bipush (v := 10) dX5_init_5 (by decide) ?_
  refine aE_newa (mem' := (OV (MM (zI I 147) sp false) 147 0)) (N := 10) dX5_init_7 (Or.inl ⟨rfl, rfl, rfl⟩) ar_i rfl (by decide) rfl (fun j => by rw [OV_nj (by decide)]; exact mz (N := 10) (Or.inl rfl) (zI_ge (by decide))) (fun _ _ => rfl) (by decide) ⟨by decide, by decide⟩ ?_
  refine aE_mem (OV_int (m := (MM (zI I 147) sp false)) (a := 147) (j := 0) (x := _) rfl) ?_
  refine aE_putf dX5_init_9 fp_X5_9 (Or.inr rfl) (by decide) rfl (fun g => ⟨rfl, rfl⟩) ?_
  refine aE_mem (OV_up (m := (MM (zI I 147) sp false)) (a := 147) (j := 1) (r := 148) rfl) ?_
  refine aE_aload_n dX5_init_12 rfl rfl ?_
  refine aE_bipush (v := 10) dX5_init_13 (by decide) ?_
  refine aE_newa (mem' := (OV (MM (zI I 147) sp false) 147 2)) (N := 10) dX5_init_15 (Or.inl ⟨rfl, rfl, rfl⟩) ar_i rfl (by decide) rfl (fun j => by rw [OV_nj (by decide)]; exact mz (N := 10) (Or.inl rfl) (zI_ge (by decide))) (fun _ _ => rfl) (by decide) ⟨by decide, by decide⟩ ?_
  refine aE_putf dX5_init_17 fp_X5_15 (Or.inr rfl) (by decide) rfl (fun g => ⟨rfl, rfl⟩) ?_
  refine aE_mem (OV_up (m := (MM (zI I 147) sp false)) (a := 147) (j := 2) (r := 149) rfl) ?_
  refine aE_aload_n dX5_init_20 rfl rfl ?_
  refine aE_bipush (v := 10) dX5_init_21 (by decide) ?_
  refine aE_newa (mem' := (OV (MM (zI I 147) sp false) 147 3)) (N := 10) dX5_init_23 (Or.inl ⟨rfl, rfl, rfl⟩) ar_i rfl (by decide) rfl (fun j => by rw [OV_nj (by decide)]; exact mz (N := 10) (Or.inl rfl) (zI_ge (by decide))) (fun _ _ => rfl) (by decide) ⟨by decide, by decide⟩ ?_
  refine aE_putf dX5_init_25 fp_X5_18 (Or.inr rfl) (by decide) rfl (fun g => ⟨rfl, rfl⟩) ?_
  refine aE_mem (OV_up (m := (MM (zI I 147) sp false)) (a := 147) (j := 3) (r := 150) rfl) ?_
  refine aE_aload_n dX5_init_28 rfl rfl ?_
  refine aE_bipush (v := 10) dX5_init_29 (by decide) ?_
  refine aE_bipush (v := 10) dX5_init_31 (by decide) ?_
  refine aE_mna (mem' := FX (OV (MM (zI I 147) sp false) 147 4) 151 10) (N := 10) (M := 10) dX5_init_33 ⟨kl_X5_21, ar_i⟩ rfl rfl (by decide) rfl (by decide +kernel) (fun q => ?_) (fun q hq b => ?_) (fun q hq => FX_ne (by omega)) (by decide) ⟨by decide, by decide⟩ ?_
  · unfold FX; by_cases hq : q < 10
    · rw [if_neg (by omega), if_pos hq, OV_nj (by decide)]; exact mm_btw hq
    · rw [if_pos (by omega), if_neg hq]
  · rw [FX_ne (by omega), OV_nj (by omega)]; exact mz (N := 10) (Or.inl (sh_btw hq)) (zI_ge (by omega))
  refine aE_len (mem' := (OV (MM (zI I 147) sp false) 147 4)) (fun q _ j hj => FX_end (by decide) q j hj) ?_
  refine aE_putf dX5_init_37 fp_X5_23 (Or.inr rfl) (by decide) rfl (fun g => ⟨rfl, rfl⟩) ?_
  refine aE_mem (OV_up (m := (MM (zI I 147) sp false)) (a := 147) (j := 4) (r := 151) rfl) ?_
  refine aE_aload_n dX5_init_40 rfl rfl ?_
  refine aE_sipush (v := 10240) dX5_init_41 (by decide) ?_
  refine aE_newa (mem' := (OV (MM (zI I 147) sp false) 147 5)) (N := 10240) dX5_init_44 (Or.inl ⟨rfl, rfl, rfl⟩) ar_i rfl (by decide) rfl (fun j => by rw [OV_nj (by decide)]; exact mz (N := 10240) (Or.inl rfl) (zI_ge (by decide))) (fun _ _ => rfl) (by decide) ⟨by decide, by decide⟩ ?_
  refine aE_putf dX5_init_46 fp_X5_26 (Or.inr rfl) (by decide) rfl (fun g => ⟨rfl, rfl⟩) ?_
  refine aE_mem (OV_up (m := (MM (zI I 147) sp false)) (a := 147) (j := 5) (r := 162) rfl) ?_
  refine aE_aload_n dX5_init_49 rfl rfl ?_
  refine aE_sipush (v := 1024) dX5_init_50 (by decide) ?_
  refine aE_newa (mem' := (OV (MM (zI I 147) sp false) 147 6)) (N := 1024) dX5_init_53 (Or.inl ⟨rfl, rfl, rfl⟩) ar_i rfl (by decide) rfl (fun j => by rw [OV_nj (by decide)]; exact mz (N := 1024) (Or.inl rfl) (zI_ge (by decide))) (fun _ _ => rfl) (by decide) ⟨by decide, by decide⟩ ?_
  refine aE_putf dX5_init_55 fp_X5_29 (Or.inr rfl) (by decide) rfl (fun g => ⟨rfl, rfl⟩) ?_
  refine aE_mem (OV_up (m := (MM (zI I 147) sp false)) (a := 147) (j := 6) (r := 163) rfl) ?_
  refine aE_aload_n dX5_init_58 rfl rfl ?_
  refine aE_sipush (v := 1024) dX5_init_59 (by decide) ?_
  refine aE_newa (mem' := (OV (MM (zI I 147) sp false) 147 7)) (N := 1024) dX5_init_62 (Or.inl ⟨rfl, rfl, rfl⟩) ar_i rfl (by decide) rfl (fun j => by rw [OV_nj (by decide)]; exact mz (N := 1024) (Or.inl rfl) (zI_ge (by decide))) (fun _ _ => rfl) (by decide) ⟨by decide, by decide⟩ ?_
  refine aE_putf dX5_init_64 fp_X5_32 (Or.inr rfl) (by decide) rfl (fun g => ⟨rfl, rfl⟩) ?_
  refine aE_mem (OV_up (m := (MM (zI I 147) sp false)) (a := 147) (j := 7) (r := 164) rfl) ?_
  refine aE_aload_n dX5_init_67 rfl rfl ?_
  refine aE_sipush (v := 1024) dX5_init_68 (by decide) ?_
  refine aE_newa (mem' := (OV (MM (zI I 147) sp false) 147 8)) (N := 1024) dX5_init_71 (Or.inl ⟨rfl, rfl, rfl⟩) ar_i rfl (by decide) rfl (fun j => by rw [OV_nj (by decide)]; exact mz (N := 1024) (Or.inl rfl) (zI_ge (by decide))) (fun _ _ => rfl) (by decide) ⟨by decide, by decide⟩ ?_
  refine aE_putf dX5_init_73 fp_X5_35 (Or.inr rfl) (by decide) rfl (fun g => ⟨rfl, rfl⟩) ?_
  refine aE_mem (OV_up (m := (MM (zI I 147) sp false)) (a := 147) (j := 8) (r := 165) rfl) ?_
  refine aE_len (mem' := (MM (zI I 147) sp false)) (fun q _ j hj => OV_end (by decide) q j hj) ?_
  refine aE_vret dX5_init_76 rfl ⟨by decide, by decide⟩ ?_
  exact ⟨rfl, rfl, rfl⟩
end CPINIT
