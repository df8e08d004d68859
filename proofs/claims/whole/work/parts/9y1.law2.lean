theorem a_sw37 (x : Int32) : (x.toInt < 0 ∨ 36 < x.toInt) ∨ x = 0 ∨ x = 1 ∨ x = 2 ∨ x = 3 ∨ x = 4 ∨ x = 5 ∨ x = 6 ∨ x = 7 ∨ x = 8 ∨ x = 9 ∨ x = 10 ∨ x = 11 ∨ x = 12 ∨ x = 13 ∨ x = 14 ∨ x = 15 ∨ x = 16 ∨ x = 17 ∨ x = 18 ∨ x = 19 ∨ x = 20 ∨ x = 21 ∨ x = 22 ∨ x = 23 ∨ x = 24 ∨ x = 25 ∨ x = 26 ∨ x = 27 ∨ x = 28 ∨ x = 29 ∨ x = 30 ∨ x = 31 ∨ x = 32 ∨ x = 33 ∨ x = 34 ∨ x = 35 ∨ x = 36 := by
  rcases (show (x.toInt < 0 ∨ 36 < x.toInt) ∨ x.toInt = (0 : Nat) ∨ x.toInt = (1 : Nat) ∨ x.toInt = (2 : Nat) ∨ x.toInt = (3 : Nat) ∨ x.toInt = (4 : Nat) ∨ x.toInt = (5 : Nat) ∨ x.toInt = (6 : Nat) ∨ x.toInt = (7 : Nat) ∨ x.toInt = (8 : Nat) ∨ x.toInt = (9 : Nat) ∨ x.toInt = (10 : Nat) ∨ x.toInt = (11 : Nat) ∨ x.toInt = (12 : Nat) ∨ x.toInt = (13 : Nat) ∨ x.toInt = (14 : Nat) ∨ x.toInt = (15 : Nat) ∨ x.toInt = (16 : Nat) ∨ x.toInt = (17 : Nat) ∨ x.toInt = (18 : Nat) ∨ x.toInt = (19 : Nat) ∨ x.toInt = (20 : Nat) ∨ x.toInt = (21 : Nat) ∨ x.toInt = (22 : Nat) ∨ x.toInt = (23 : Nat) ∨ x.toInt = (24 : Nat) ∨ x.toInt = (25 : Nat) ∨ x.toInt = (26 : Nat) ∨ x.toInt = (27 : Nat) ∨ x.toInt = (28 : Nat) ∨ x.toInt = (29 : Nat) ∨ x.toInt = (30 : Nat) ∨ x.toInt = (31 : Nat) ∨ x.toInt = (32 : Nat) ∨ x.toInt = (33 : Nat) ∨ x.toInt = (34 : Nat) ∨ x.toInt = (35 : Nat) ∨ x.toInt = (36 : Nat) by omega) with h | h | h | h | h | h | h | h | h | h | h | h | h | h | h | h | h | h | h | h | h | h | h | h | h | h | h | h | h | h | h | h | h | h | h | h | h | h
  · exact Or.inl h
  all_goals (have e := a_i32 (by decide) h; rw [e]; decide)
theorem law_ix {L i : Nat} (hL : L ≤ 3072) (hi : i ≤ 3078) (h : ¬ nI L - 6 < nI i) : i + 6 ≤ L := by
  by_cases h6 : 6 ≤ L
  · have e : nI L - 6 = nI (L - 6) := by
      have e2 : nI L = nI (L - 6) + nI 6 := by rw [nI_add, Nat.sub_add_cancel h6]
      rw [e2]; exact Int32.add_sub_cancel _ _
    rw [e] at h
    have := (nI_leI (by omega) (by omega)).mp (Int32.not_lt.mp h)
    omega
  · exfalso
    apply h
    have key : ∀ L, L < 6 → (nI L - 6).toInt < 0 := by decide
    have := key L (by omega)
    rw [Int32.lt_iff_toInt_lt, nI_toInt (by omega)]
    omega
section LAW2
variable {nm : MethodName} {z : Nat × (Nat → Int32)} {Q : Option Value → Nat → aM → Prop} {I : Nat → Nat → Int32} {sp : Nat → Nat}
set_option maxRecDepth 20000 in
theorem law_it_t (i : Nat) (hz : z.1 < 2 ^ 31) (hi : i + 6 ≤ z.1) (k1 k2 : Nat) (hk : k1 ≤ room_1.cells ∧ k2 ≤ room_1.slots) (hI : Inv I sp true) (hK : ∀ J sp', Inv J sp' true → aE z (mLn nm) room_1 Q 1363 [some (.ref 100000), some (.ref 0), some (.ref 101), some (.int (nI i))] [] (nn true) (MM J sp' true) k1 k2) : aE z (mLn nm) room_1 Q 27 [some (.ref 100000), some (.ref 0), some (.ref 101), some (.int (nI i))] [] (nn true) (MM I sp true) k1 k2 := by
  refine aE_aload_n dL_law_27 rfl rfl ?_
  refine aE_iload_n dL_law_28 rfl rfl ?_
  refine aE_sld dL_law_29 rfl hz (by omega) ?_
  refine aE_bipush (v := 63) dL_law_30 (by decide) ?_
  refine aE_iand dL_law_32 ?_
  rcases a_sw37 (z.2 i &&& 63) with hsw | hsw | hsw | hsw | hsw | hsw | hsw | hsw | hsw | hsw | hsw | hsw | hsw | hsw | hsw | hsw | hsw | hsw | hsw | hsw | hsw | hsw | hsw | hsw | hsw | hsw | hsw | hsw | hsw | hsw | hsw | hsw | hsw | hsw | hsw | hsw | hsw | hsw
  · exact aE_tableOut (tgt := 1363) dL_law_33 hsw (by decide) (hK I sp hI)
  · refine aE_top hsw (aE_tableIn (off := 163) (tgt := 196) dL_law_33 (by decide) (by decide) rfl (by decide) ?_)
    exact lc_corner i hz hi (rK 1) k1 k2 (k_corner  hI) ⟨by decide, by decide⟩ ⟨hk.1, hk.2⟩ hK
  · refine aE_top hsw (aE_tableIn (off := 176) (tgt := 209) dL_law_33 (by decide) (by decide) rfl (by decide) ?_)
    exact lc_street i hz hi (rK 2) k1 k2 (k_street _ _ _ hI) ⟨by decide, by decide⟩ ⟨hk.1, hk.2⟩ hK
  · refine aE_top hsw (aE_tableIn (off := 219) (tgt := 252) dL_law_33 (by decide) (by decide) rfl (by decide) ?_)
    exact lc_shut i hz hi (rK 1) k1 k2 (fun b hb => k_shut _ _ hb hI) ⟨by decide, by decide⟩ ⟨hk.1, hk.2⟩ hK
  · refine aE_top hsw (aE_tableIn (off := 268) (tgt := 301) dL_law_33 (by decide) (by decide) rfl (by decide) ?_)
    exact lc_far i hz hi (rK 3) k1 k2 (k_far _ _ hI) ⟨by decide, by decide⟩ ⟨hk.1, hk.2⟩ hK
  · refine aE_top hsw (aE_tableIn (off := 301) (tgt := 334) dL_law_33 (by decide) (by decide) rfl (by decide) ?_)
    exact lc_school i hz hi (rK 2) k1 k2 (k_school _ _ hI) ⟨by decide, by decide⟩ ⟨hk.1, hk.2⟩ hK
  · refine aE_top hsw (aE_tableIn (off := 334) (tgt := 367) dL_law_33 (by decide) (by decide) rfl (by decide) ?_)
    exact lc_as i hz hi (rK 2) k1 k2 (k_as _ _ hI) ⟨by decide, by decide⟩ ⟨hk.1, hk.2⟩ hK
  · refine aE_top hsw (aE_tableIn (off := 367) (tgt := 400) dL_law_33 (by decide) (by decide) rfl (by decide) ?_)
    exact lc_of i hz hi (rK 2) k1 k2 (k_of _ _ hI) ⟨by decide, by decide⟩ ⟨hk.1, hk.2⟩ hK
  · refine aE_top hsw (aE_tableIn (off := 400) (tgt := 433) dL_law_33 (by decide) (by decide) rfl (by decide) ?_)
    exact lc_bell i hz hi (rK 2) k1 k2 (k_bell _ _ hI) ⟨by decide, by decide⟩ ⟨hk.1, hk.2⟩ hK
  · refine aE_top hsw (aE_tableIn (off := 433) (tgt := 466) dL_law_33 (by decide) (by decide) rfl (by decide) ?_)
    exact lc_wish i hz hi (rK 2) k1 k2 (k_wish _ _ hI) ⟨by decide, by decide⟩ ⟨hk.1, hk.2⟩ hK
  · refine aE_top hsw (aE_tableIn (off := 466) (tgt := 499) dL_law_33 (by decide) (by decide) rfl (by decide) ?_)
    exact lc_stop i hz hi (rK 2) k1 k2 (k_stop _ _ _ _ hI) ⟨by decide, by decide⟩ ⟨hk.1, hk.2⟩ hK
  · refine aE_top hsw (aE_tableIn (off := 519) (tgt := 552) dL_law_33 (by decide) (by decide) rfl (by decide) ?_)
    exact lc_pupils i hz hi (rK 2) k1 k2 (k_pupils _ _ hI) ⟨by decide, by decide⟩ ⟨hk.1, hk.2⟩ hK
  · refine aE_top hsw (aE_tableIn (off := 552) (tgt := 585) dL_law_33 (by decide) (by decide) rfl (by decide) ?_)
    exact lc_gone i hz hi (rK 2) k1 k2 (k_gone _ hI) ⟨by decide, by decide⟩ ⟨hk.1, hk.2⟩ hK
  · refine aE_top hsw (aE_tableIn (off := 575) (tgt := 608) dL_law_33 (by decide) (by decide) rfl (by decide) ?_)
    exact lc_terms i hz hi (rK 1) k1 k2 (k_terms _ _ _ hI) ⟨by decide, by decide⟩ ⟨hk.1, hk.2⟩ hK
  · refine aE_top hsw (aE_tableIn (off := 618) (tgt := 651) dL_law_33 (by decide) (by decide) rfl (by decide) ?_)
    exact lc_routes i hz hi (rK 6) k1 k2 (k_routes_t _ hI) ⟨by decide, by decide⟩ ⟨hk.1, hk.2⟩ hK
  · refine aE_top hsw (aE_tableIn (off := 641) (tgt := 674) dL_law_33 (by decide) (by decide) rfl (by decide) ?_)
    exact lc_route i hz hi (rK 6) k1 k2 (k_route_t _ _ _ hI) ⟨by decide, by decide⟩ ⟨hk.1, hk.2⟩ hK
  · refine aE_top hsw (aE_tableIn (off := 684) (tgt := 717) dL_law_33 (by decide) (by decide) rfl (by decide) ?_)
    exact lc_ride i hz hi (rK 6) k1 k2 (k_ride_t _ hI) ⟨by decide, by decide⟩ ⟨hk.1, hk.2⟩ hK
  · refine aE_top hsw (aE_tableIn (off := 707) (tgt := 740) dL_law_33 (by decide) (by decide) rfl (by decide) ?_)
    exact lc_all i hz hi (rK 6) k1 k2 (k_all_t  hI) ⟨by decide, by decide⟩ ⟨hk.1, hk.2⟩ hK
  · refine aE_top hsw (aE_tableIn (off := 720) (tgt := 753) dL_law_33 (by decide) (by decide) rfl (by decide) ?_)
    exact lc_start i hz hi (rK 6) k1 k2 (k_start_t _ hI) ⟨by decide, by decide⟩ ⟨hk.1, hk.2⟩ hK
  · refine aE_top hsw (aE_tableIn (off := 743) (tgt := 776) dL_law_33 (by decide) (by decide) rfl (by decide) ?_)
    exact lc_follows i hz hi (rK 6) k1 k2 (k_follows_t _ _ hI) ⟨by decide, by decide⟩ ⟨hk.1, hk.2⟩ hK
  · refine aE_top hsw (aE_tableIn (off := 776) (tgt := 809) dL_law_33 (by decide) (by decide) rfl (by decide) ?_)
    exact lc_buses i hz hi (rK 7) k1 k2 (k_buses_t  hI) ⟨by decide, by decide⟩ ⟨hk.1, hk.2⟩ hK
  · refine aE_top hsw (aE_tableIn (off := 789) (tgt := 822) dL_law_33 (by decide) (by decide) rfl (by decide) ?_)
    exact lc_chain i hz hi (rK 7) k1 k2 (k_chain_t _ _ hI) ⟨by decide, by decide⟩ ⟨hk.1, hk.2⟩ hK
  · refine aE_top hsw (aE_tableIn (off := 822) (tgt := 855) dL_law_33 (by decide) (by decide) rfl (by decide) ?_)
    exact lc_aides i hz hi (rK 7) k1 k2 (k_aides_t  hI) ⟨by decide, by decide⟩ ⟨hk.1, hk.2⟩ hK
  · refine aE_top hsw (aE_tableIn (off := 835) (tgt := 868) dL_law_33 (by decide) (by decide) rfl (by decide) ?_)
    exact lc_feed i hz hi (rK 1) k1 k2 (fun W => k_feed _ _ hI) ⟨by decide, by decide⟩ ⟨hk.1, hk.2⟩ hK
  · refine aE_top hsw (aE_tableIn (off := 898) (tgt := 931) dL_law_33 (by decide) (by decide) rfl (by decide) ?_)
    exact lc_text i hz hi (rK 3) k1 k2 (k_text  hI) ⟨by decide, by decide⟩ ⟨hk.1, hk.2⟩ hK
  · refine aE_top hsw (aE_tableIn (off := 911) (tgt := 944) dL_law_33 (by decide) (by decide) rfl (by decide) ?_)
    exact lc_allowed i hz hi (rK 2) k1 k2 (k_allowed _ _ hI) ⟨by decide, by decide⟩ ⟨hk.1, hk.2⟩ hK
  · refine aE_top hsw (aE_tableIn (off := 944) (tgt := 977) dL_law_33 (by decide) (by decide) rfl (by decide) ?_)
    exact lc_cost i hz hi (rK 2) k1 k2 (k_cost  hI) ⟨by decide, by decide⟩ ⟨hk.1, hk.2⟩ hK
  · refine aE_top hsw (aE_tableIn (off := 957) (tgt := 990) dL_law_33 (by decide) (by decide) rfl (by decide) ?_)
    exact lc_trades i hz hi (rK 7) k1 k2 (k_trades_t  hI) ⟨by decide, by decide⟩ ⟨hk.1, hk.2⟩ hK
  · refine aE_top hsw (aE_tableIn (off := 970) (tgt := 1003) dL_law_33 (by decide) (by decide) rfl (by decide) ?_)
    exact lc_trade i hz hi (rK 7) k1 k2 (k_trade_t _ _ hI) ⟨by decide, by decide⟩ ⟨hk.1, hk.2⟩ hK
  · refine aE_top hsw (aE_tableIn (off := 1003) (tgt := 1036) dL_law_33 (by decide) (by decide) rfl (by decide) ?_)
    exact lc_take i hz hi (rK 7) k1 k2 (k_take_t _ hI) ⟨by decide, by decide⟩ ⟨hk.1, hk.2⟩ hK
  · refine aE_top hsw (aE_tableIn (off := 1026) (tgt := 1059) dL_law_33 (by decide) (by decide) rfl (by decide) ?_)
    exact lc_morning i hz hi (rK 7) k1 k2 (k_morning_t _ _ _ hI) ⟨by decide, by decide⟩ ⟨hk.1, hk.2⟩ hK
  · refine aE_top hsw (aE_tableIn (off := 1069) (tgt := 1102) dL_law_33 (by decide) (by decide) rfl (by decide) ?_)
    exact lc_comes i hz hi (rK 1) k1 k2 (k_comes _ hI) ⟨by decide, by decide⟩ ⟨hk.1, hk.2⟩ hK
  · refine aE_top hsw (aE_tableIn (off := 1092) (tgt := 1125) dL_law_33 (by decide) (by decide) rfl (by decide) ?_)
    exact lc_fair i hz hi (rK 6) k1 k2 (k_fair_t _ _ hI) ⟨by decide, by decide⟩ ⟨hk.1, hk.2⟩ hK
  · refine aE_top hsw (aE_tableIn (off := 1125) (tgt := 1158) dL_law_33 (by decide) (by decide) rfl (by decide) ?_)
    exact lc_sheet i hz hi (rK 2) k1 k2 (k_sheet _ _ _ hI) ⟨by decide, by decide⟩ ⟨hk.1, hk.2⟩ hK
  · refine aE_top hsw (aE_tableIn (off := 1168) (tgt := 1201) dL_law_33 (by decide) (by decide) rfl (by decide) ?_)
    exact lc_write i hz hi (rK 2) k1 k2 (k_write _ _ _ hI) ⟨by decide, by decide⟩ ⟨hk.1, hk.2⟩ hK
  · refine aE_top hsw (aE_tableIn (off := 1211) (tgt := 1244) dL_law_33 (by decide) (by decide) rfl (by decide) ?_)
    exact lc_copy i hz hi (rK 2) k1 k2 (k_copy _ _ _ _ _ hI) ⟨by decide, by decide⟩ ⟨hk.1, hk.2⟩ hK
  · refine aE_top hsw (aE_tableIn (off := 1274) (tgt := 1307) dL_law_33 (by decide) (by decide) rfl (by decide) ?_)
    exact lc_read i hz hi (rK 2) k1 k2 (k_read _ _ hI) ⟨by decide, by decide⟩ ⟨hk.1, hk.2⟩ hK
  · refine aE_top hsw (aE_tableIn (off := 1307) (tgt := 1340) dL_law_33 (by decide) (by decide) rfl (by decide) ?_)
    exact lc_told i hz hi (rK 1) k1 k2 (k_told _ hI) ⟨by decide, by decide⟩ ⟨hk.1, hk.2⟩ hK
set_option maxRecDepth 20000 in
theorem law_it_f (i : Nat) (hz : z.1 < 2 ^ 31) (hi : i + 6 ≤ z.1) (k1 k2 : Nat) (hk : k1 + 19 ≤ room_1.cells ∧ k2 + 13461 ≤ room_1.slots) (hI : Inv I sp false) (hKf : ∀ J sp', Inv J sp' false → aE z (mLn nm) room_1 Q 1363 [some (.ref 100000), some (.ref 0), some (.ref 101), some (.int (nI i))] [] (nn false) (MM J sp' false) k1 k2) (hKt : ∀ J sp', Inv J sp' true → aE z (mLn nm) room_1 Q 1363 [some (.ref 100000), some (.ref 0), some (.ref 101), some (.int (nI i))] [] (nn true) (MM J sp' true) (k1 + 19) (k2 + 13461)) : aE z (mLn nm) room_1 Q 27 [some (.ref 100000), some (.ref 0), some (.ref 101), some (.int (nI i))] [] (nn false) (MM I sp false) k1 k2 := by
  refine aE_aload_n dL_law_27 rfl rfl ?_
  refine aE_iload_n dL_law_28 rfl rfl ?_
  refine aE_sld dL_law_29 rfl hz (by omega) ?_
  refine aE_bipush (v := 63) dL_law_30 (by decide) ?_
  refine aE_iand dL_law_32 ?_
  rcases a_sw37 (z.2 i &&& 63) with hsw | hsw | hsw | hsw | hsw | hsw | hsw | hsw | hsw | hsw | hsw | hsw | hsw | hsw | hsw | hsw | hsw | hsw | hsw | hsw | hsw | hsw | hsw | hsw | hsw | hsw | hsw | hsw | hsw | hsw | hsw | hsw | hsw | hsw | hsw | hsw | hsw | hsw
  · exact aE_tableOut (tgt := 1363) dL_law_33 hsw (by decide) (hKf I sp hI)
  · refine aE_top hsw (aE_tableIn (off := 163) (tgt := 196) dL_law_33 (by decide) (by decide) rfl (by decide) ?_)
    exact lc_corner i hz hi (rK 1) k1 k2 (k_corner  hI) ⟨by decide, by decide⟩ ⟨Nat.le_trans (Nat.le_add_right _ _) hk.1, Nat.le_trans (Nat.le_add_right _ _) hk.2⟩ hKf
  · refine aE_top hsw (aE_tableIn (off := 176) (tgt := 209) dL_law_33 (by decide) (by decide) rfl (by decide) ?_)
    exact lc_street i hz hi (rK 2) k1 k2 (k_street _ _ _ hI) ⟨by decide, by decide⟩ ⟨Nat.le_trans (Nat.le_add_right _ _) hk.1, Nat.le_trans (Nat.le_add_right _ _) hk.2⟩ hKf
  · refine aE_top hsw (aE_tableIn (off := 219) (tgt := 252) dL_law_33 (by decide) (by decide) rfl (by decide) ?_)
    exact lc_shut i hz hi (rK 1) k1 k2 (fun b hb => k_shut _ _ hb hI) ⟨by decide, by decide⟩ ⟨Nat.le_trans (Nat.le_add_right _ _) hk.1, Nat.le_trans (Nat.le_add_right _ _) hk.2⟩ hKf
  · refine aE_top hsw (aE_tableIn (off := 268) (tgt := 301) dL_law_33 (by decide) (by decide) rfl (by decide) ?_)
    exact lc_far i hz hi (rK 3) k1 k2 (k_far _ _ hI) ⟨by decide, by decide⟩ ⟨Nat.le_trans (Nat.le_add_right _ _) hk.1, Nat.le_trans (Nat.le_add_right _ _) hk.2⟩ hKf
  · refine aE_top hsw (aE_tableIn (off := 301) (tgt := 334) dL_law_33 (by decide) (by decide) rfl (by decide) ?_)
    exact lc_school i hz hi (rK 2) k1 k2 (k_school _ _ hI) ⟨by decide, by decide⟩ ⟨Nat.le_trans (Nat.le_add_right _ _) hk.1, Nat.le_trans (Nat.le_add_right _ _) hk.2⟩ hKf
  · refine aE_top hsw (aE_tableIn (off := 334) (tgt := 367) dL_law_33 (by decide) (by decide) rfl (by decide) ?_)
    exact lc_as i hz hi (rK 2) k1 k2 (k_as _ _ hI) ⟨by decide, by decide⟩ ⟨Nat.le_trans (Nat.le_add_right _ _) hk.1, Nat.le_trans (Nat.le_add_right _ _) hk.2⟩ hKf
  · refine aE_top hsw (aE_tableIn (off := 367) (tgt := 400) dL_law_33 (by decide) (by decide) rfl (by decide) ?_)
    exact lc_of i hz hi (rK 2) k1 k2 (k_of _ _ hI) ⟨by decide, by decide⟩ ⟨Nat.le_trans (Nat.le_add_right _ _) hk.1, Nat.le_trans (Nat.le_add_right _ _) hk.2⟩ hKf
  · refine aE_top hsw (aE_tableIn (off := 400) (tgt := 433) dL_law_33 (by decide) (by decide) rfl (by decide) ?_)
    exact lc_bell i hz hi (rK 2) k1 k2 (k_bell _ _ hI) ⟨by decide, by decide⟩ ⟨Nat.le_trans (Nat.le_add_right _ _) hk.1, Nat.le_trans (Nat.le_add_right _ _) hk.2⟩ hKf
  · refine aE_top hsw (aE_tableIn (off := 433) (tgt := 466) dL_law_33 (by decide) (by decide) rfl (by decide) ?_)
    exact lc_wish i hz hi (rK 2) k1 k2 (k_wish _ _ hI) ⟨by decide, by decide⟩ ⟨Nat.le_trans (Nat.le_add_right _ _) hk.1, Nat.le_trans (Nat.le_add_right _ _) hk.2⟩ hKf
  · refine aE_top hsw (aE_tableIn (off := 466) (tgt := 499) dL_law_33 (by decide) (by decide) rfl (by decide) ?_)
    exact lc_stop i hz hi (rK 2) k1 k2 (k_stop _ _ _ _ hI) ⟨by decide, by decide⟩ ⟨Nat.le_trans (Nat.le_add_right _ _) hk.1, Nat.le_trans (Nat.le_add_right _ _) hk.2⟩ hKf
  · refine aE_top hsw (aE_tableIn (off := 519) (tgt := 552) dL_law_33 (by decide) (by decide) rfl (by decide) ?_)
    exact lc_pupils i hz hi (rK 2) k1 k2 (k_pupils _ _ hI) ⟨by decide, by decide⟩ ⟨Nat.le_trans (Nat.le_add_right _ _) hk.1, Nat.le_trans (Nat.le_add_right _ _) hk.2⟩ hKf
  · refine aE_top hsw (aE_tableIn (off := 552) (tgt := 585) dL_law_33 (by decide) (by decide) rfl (by decide) ?_)
    exact lc_gone i hz hi (rK 2) k1 k2 (k_gone _ hI) ⟨by decide, by decide⟩ ⟨Nat.le_trans (Nat.le_add_right _ _) hk.1, Nat.le_trans (Nat.le_add_right _ _) hk.2⟩ hKf
  · refine aE_top hsw (aE_tableIn (off := 575) (tgt := 608) dL_law_33 (by decide) (by decide) rfl (by decide) ?_)
    exact lc_terms i hz hi (rK 1) k1 k2 (k_terms _ _ _ hI) ⟨by decide, by decide⟩ ⟨Nat.le_trans (Nat.le_add_right _ _) hk.1, Nat.le_trans (Nat.le_add_right _ _) hk.2⟩ hKf
  · refine aE_top hsw (aE_tableIn (off := 618) (tgt := 651) dL_law_33 (by decide) (by decide) rfl (by decide) ?_)
    rcases k_routes_f (z.2 (i + 1)) hI with h | h
    · exact lc_routes i hz hi (rK 6) k1 k2 h ⟨by decide, by decide⟩ ⟨Nat.le_trans (Nat.le_add_right _ _) hk.1, Nat.le_trans (Nat.le_add_right _ _) hk.2⟩ hKf
    · exact lc_routes i hz hi (rP 6) k1 k2 h ⟨by decide, by decide⟩ ⟨hk.1, hk.2⟩ hKt
  · refine aE_top hsw (aE_tableIn (off := 641) (tgt := 674) dL_law_33 (by decide) (by decide) rfl (by decide) ?_)
    rcases k_route_f (z.2 (i + 1)) (z.2 (i + 2)) (z.2 (i + 3)) hI with h | h
    · exact lc_route i hz hi (rK 6) k1 k2 h ⟨by decide, by decide⟩ ⟨Nat.le_trans (Nat.le_add_right _ _) hk.1, Nat.le_trans (Nat.le_add_right _ _) hk.2⟩ hKf
    · exact lc_route i hz hi (rP 6) k1 k2 h ⟨by decide, by decide⟩ ⟨hk.1, hk.2⟩ hKt
  · refine aE_top hsw (aE_tableIn (off := 684) (tgt := 717) dL_law_33 (by decide) (by decide) rfl (by decide) ?_)
    rcases k_ride_f (z.2 (i + 1)) hI with h | h
    · exact lc_ride i hz hi (rK 6) k1 k2 h ⟨by decide, by decide⟩ ⟨Nat.le_trans (Nat.le_add_right _ _) hk.1, Nat.le_trans (Nat.le_add_right _ _) hk.2⟩ hKf
    · exact lc_ride i hz hi (rP 6) k1 k2 h ⟨by decide, by decide⟩ ⟨hk.1, hk.2⟩ hKt
  · refine aE_top hsw (aE_tableIn (off := 707) (tgt := 740) dL_law_33 (by decide) (by decide) rfl (by decide) ?_)
    rcases k_all_f  hI with h | h
    · exact lc_all i hz hi (rK 6) k1 k2 h ⟨by decide, by decide⟩ ⟨Nat.le_trans (Nat.le_add_right _ _) hk.1, Nat.le_trans (Nat.le_add_right _ _) hk.2⟩ hKf
    · exact lc_all i hz hi (rP 6) k1 k2 h ⟨by decide, by decide⟩ ⟨hk.1, hk.2⟩ hKt
  · refine aE_top hsw (aE_tableIn (off := 720) (tgt := 753) dL_law_33 (by decide) (by decide) rfl (by decide) ?_)
    rcases k_start_f (z.2 (i + 1)) hI with h | h
    · exact lc_start i hz hi (rK 6) k1 k2 h ⟨by decide, by decide⟩ ⟨Nat.le_trans (Nat.le_add_right _ _) hk.1, Nat.le_trans (Nat.le_add_right _ _) hk.2⟩ hKf
    · exact lc_start i hz hi (rP 6) k1 k2 h ⟨by decide, by decide⟩ ⟨hk.1, hk.2⟩ hKt
  · refine aE_top hsw (aE_tableIn (off := 743) (tgt := 776) dL_law_33 (by decide) (by decide) rfl (by decide) ?_)
    rcases k_follows_f (z.2 (i + 1)) (z.2 (i + 2)) hI with h | h
    · exact lc_follows i hz hi (rK 6) k1 k2 h ⟨by decide, by decide⟩ ⟨Nat.le_trans (Nat.le_add_right _ _) hk.1, Nat.le_trans (Nat.le_add_right _ _) hk.2⟩ hKf
    · exact lc_follows i hz hi (rP 6) k1 k2 h ⟨by decide, by decide⟩ ⟨hk.1, hk.2⟩ hKt
  · refine aE_top hsw (aE_tableIn (off := 776) (tgt := 809) dL_law_33 (by decide) (by decide) rfl (by decide) ?_)
    rcases k_buses_f  hI with h | h
    · exact lc_buses i hz hi (rK 7) k1 k2 h ⟨by decide, by decide⟩ ⟨Nat.le_trans (Nat.le_add_right _ _) hk.1, Nat.le_trans (Nat.le_add_right _ _) hk.2⟩ hKf
    · exact lc_buses i hz hi (rP 7) k1 k2 h ⟨by decide, by decide⟩ ⟨hk.1, hk.2⟩ hKt
  · refine aE_top hsw (aE_tableIn (off := 789) (tgt := 822) dL_law_33 (by decide) (by decide) rfl (by decide) ?_)
    rcases k_chain_f (z.2 (i + 1)) (z.2 (i + 2)) hI with h | h
    · exact lc_chain i hz hi (rK 7) k1 k2 h ⟨by decide, by decide⟩ ⟨Nat.le_trans (Nat.le_add_right _ _) hk.1, Nat.le_trans (Nat.le_add_right _ _) hk.2⟩ hKf
    · exact lc_chain i hz hi (rP 7) k1 k2 h ⟨by decide, by decide⟩ ⟨hk.1, hk.2⟩ hKt
  · refine aE_top hsw (aE_tableIn (off := 822) (tgt := 855) dL_law_33 (by decide) (by decide) rfl (by decide) ?_)
    rcases k_aides_f  hI with h | h
    · exact lc_aides i hz hi (rK 7) k1 k2 h ⟨by decide, by decide⟩ ⟨Nat.le_trans (Nat.le_add_right _ _) hk.1, Nat.le_trans (Nat.le_add_right _ _) hk.2⟩ hKf
    · exact lc_aides i hz hi (rP 7) k1 k2 h ⟨by decide, by decide⟩ ⟨hk.1, hk.2⟩ hKt
  · refine aE_top hsw (aE_tableIn (off := 835) (tgt := 868) dL_law_33 (by decide) (by decide) rfl (by decide) ?_)
    exact lc_feed i hz hi (rK 1) k1 k2 (fun W => k_feed _ _ hI) ⟨by decide, by decide⟩ ⟨Nat.le_trans (Nat.le_add_right _ _) hk.1, Nat.le_trans (Nat.le_add_right _ _) hk.2⟩ hKf
  · refine aE_top hsw (aE_tableIn (off := 898) (tgt := 931) dL_law_33 (by decide) (by decide) rfl (by decide) ?_)
    exact lc_text i hz hi (rK 3) k1 k2 (k_text  hI) ⟨by decide, by decide⟩ ⟨Nat.le_trans (Nat.le_add_right _ _) hk.1, Nat.le_trans (Nat.le_add_right _ _) hk.2⟩ hKf
  · refine aE_top hsw (aE_tableIn (off := 911) (tgt := 944) dL_law_33 (by decide) (by decide) rfl (by decide) ?_)
    exact lc_allowed i hz hi (rK 2) k1 k2 (k_allowed _ _ hI) ⟨by decide, by decide⟩ ⟨Nat.le_trans (Nat.le_add_right _ _) hk.1, Nat.le_trans (Nat.le_add_right _ _) hk.2⟩ hKf
  · refine aE_top hsw (aE_tableIn (off := 944) (tgt := 977) dL_law_33 (by decide) (by decide) rfl (by decide) ?_)
    exact lc_cost i hz hi (rK 2) k1 k2 (k_cost  hI) ⟨by decide, by decide⟩ ⟨Nat.le_trans (Nat.le_add_right _ _) hk.1, Nat.le_trans (Nat.le_add_right _ _) hk.2⟩ hKf
  · refine aE_top hsw (aE_tableIn (off := 957) (tgt := 990) dL_law_33 (by decide) (by decide) rfl (by decide) ?_)
    rcases k_trades_f  hI with h | h
    · exact lc_trades i hz hi (rK 7) k1 k2 h ⟨by decide, by decide⟩ ⟨Nat.le_trans (Nat.le_add_right _ _) hk.1, Nat.le_trans (Nat.le_add_right _ _) hk.2⟩ hKf
    · exact lc_trades i hz hi (rP 7) k1 k2 h ⟨by decide, by decide⟩ ⟨hk.1, hk.2⟩ hKt
  · refine aE_top hsw (aE_tableIn (off := 970) (tgt := 1003) dL_law_33 (by decide) (by decide) rfl (by decide) ?_)
    rcases k_trade_f (z.2 (i + 1)) (z.2 (i + 2)) hI with h | h
    · exact lc_trade i hz hi (rK 7) k1 k2 h ⟨by decide, by decide⟩ ⟨Nat.le_trans (Nat.le_add_right _ _) hk.1, Nat.le_trans (Nat.le_add_right _ _) hk.2⟩ hKf
    · exact lc_trade i hz hi (rP 7) k1 k2 h ⟨by decide, by decide⟩ ⟨hk.1, hk.2⟩ hKt
  · refine aE_top hsw (aE_tableIn (off := 1003) (tgt := 1036) dL_law_33 (by decide) (by decide) rfl (by decide) ?_)
    rcases k_take_f (z.2 (i + 1)) hI with h | h
    · exact lc_take i hz hi (rK 7) k1 k2 h ⟨by decide, by decide⟩ ⟨Nat.le_trans (Nat.le_add_right _ _) hk.1, Nat.le_trans (Nat.le_add_right _ _) hk.2⟩ hKf
    · exact lc_take i hz hi (rP 7) k1 k2 h ⟨by decide, by decide⟩ ⟨hk.1, hk.2⟩ hKt
  · refine aE_top hsw (aE_tableIn (off := 1026) (tgt := 1059) dL_law_33 (by decide) (by decide) rfl (by decide) ?_)
    rcases k_morning_f (z.2 (i + 1)) (z.2 (i + 2)) (z.2 (i + 3)) hI with h | h
    · exact lc_morning i hz hi (rK 7) k1 k2 h ⟨by decide, by decide⟩ ⟨Nat.le_trans (Nat.le_add_right _ _) hk.1, Nat.le_trans (Nat.le_add_right _ _) hk.2⟩ hKf
    · exact lc_morning i hz hi (rP 7) k1 k2 h ⟨by decide, by decide⟩ ⟨hk.1, hk.2⟩ hKt
  · refine aE_top hsw (aE_tableIn (off := 1069) (tgt := 1102) dL_law_33 (by decide) (by decide) rfl (by decide) ?_)
    exact lc_comes i hz hi (rK 1) k1 k2 (k_comes _ hI) ⟨by decide, by decide⟩ ⟨Nat.le_trans (Nat.le_add_right _ _) hk.1, Nat.le_trans (Nat.le_add_right _ _) hk.2⟩ hKf
  · refine aE_top hsw (aE_tableIn (off := 1092) (tgt := 1125) dL_law_33 (by decide) (by decide) rfl (by decide) ?_)
    rcases k_fair_f (z.2 (i + 1)) (z.2 (i + 2)) hI with h | h
    · exact lc_fair i hz hi (rK 6) k1 k2 h ⟨by decide, by decide⟩ ⟨Nat.le_trans (Nat.le_add_right _ _) hk.1, Nat.le_trans (Nat.le_add_right _ _) hk.2⟩ hKf
    · exact lc_fair i hz hi (rP 6) k1 k2 h ⟨by decide, by decide⟩ ⟨hk.1, hk.2⟩ hKt
  · refine aE_top hsw (aE_tableIn (off := 1125) (tgt := 1158) dL_law_33 (by decide) (by decide) rfl (by decide) ?_)
    exact lc_sheet i hz hi (rK 2) k1 k2 (k_sheet _ _ _ hI) ⟨by decide, by decide⟩ ⟨Nat.le_trans (Nat.le_add_right _ _) hk.1, Nat.le_trans (Nat.le_add_right _ _) hk.2⟩ hKf
  · refine aE_top hsw (aE_tableIn (off := 1168) (tgt := 1201) dL_law_33 (by decide) (by decide) rfl (by decide) ?_)
    exact lc_write i hz hi (rK 2) k1 k2 (k_write _ _ _ hI) ⟨by decide, by decide⟩ ⟨Nat.le_trans (Nat.le_add_right _ _) hk.1, Nat.le_trans (Nat.le_add_right _ _) hk.2⟩ hKf
  · refine aE_top hsw (aE_tableIn (off := 1211) (tgt := 1244) dL_law_33 (by decide) (by decide) rfl (by decide) ?_)
    exact lc_copy i hz hi (rK 2) k1 k2 (k_copy _ _ _ _ _ hI) ⟨by decide, by decide⟩ ⟨Nat.le_trans (Nat.le_add_right _ _) hk.1, Nat.le_trans (Nat.le_add_right _ _) hk.2⟩ hKf
  · refine aE_top hsw (aE_tableIn (off := 1274) (tgt := 1307) dL_law_33 (by decide) (by decide) rfl (by decide) ?_)
    exact lc_read i hz hi (rK 2) k1 k2 (k_read _ _ hI) ⟨by decide, by decide⟩ ⟨Nat.le_trans (Nat.le_add_right _ _) hk.1, Nat.le_trans (Nat.le_add_right _ _) hk.2⟩ hKf
  · refine aE_top hsw (aE_tableIn (off := 1307) (tgt := 1340) dL_law_33 (by decide) (by decide) rfl (by decide) ?_)
    exact lc_told i hz hi (rK 1) k1 k2 (k_told _ hI) ⟨by decide, by decide⟩ ⟨Nat.le_trans (Nat.le_add_right _ _) hk.1, Nat.le_trans (Nat.le_add_right _ _) hk.2⟩ hKf
set_option maxRecDepth 20000 in
theorem law_loop_t (hz : z.1 ≤ 3072) (hQ : ∀ n m, Q (some (.int 1)) n m) (k1 k2 : Nat) (hk : k1 ≤ room_1.cells ∧ k2 ≤ room_1.slots) : ∀ (m i : Nat) (I : Nat → Nat → Int32) (sp : Nat → Nat), z.1 ≤ i + m → i ≤ 3078 → Inv I sp true → aE z (mLn nm) room_1 Q 18 [some (.ref 100000), some (.ref 0), some (.ref 101), some (.int (nI i))] [] (nn true) (MM I sp true) k1 k2 := by
  intro m
  induction m with
  | zero =>
    intro i I sp hm hi0 hI
    refine aE_iload_n dL_law_18 rfl rfl ?_
    refine aE_aload_n dL_law_19 rfl rfl ?_
    refine aE_slen dL_law_20 ?_
    refine aE_bipush (v := 6) dL_law_21 (by decide) ?_
    refine aE_isub dL_law_23 ?_
    refine aE_icmp_gt (tgt := 1369) dL_law_24 (by decide) (fun h24 => ?_) (fun h24 => ?_)
    · skip
      refine aE_iconst (v := 1) dL_law_1369 rfl ?_
      refine aE_zret dL_law_1370 rfl (Or.inr rfl) ⟨hk.1, hk.2⟩ ?_
      exact hQ _ _
    · skip
      have hi : i + 6 ≤ z.1 := law_ix hz hi0 h24
      exact absurd hi (by omega)
  | succ m ih =>
    intro i I sp hm hi0 hI
    refine aE_iload_n dL_law_18 rfl rfl ?_
    refine aE_aload_n dL_law_19 rfl rfl ?_
    refine aE_slen dL_law_20 ?_
    refine aE_bipush (v := 6) dL_law_21 (by decide) ?_
    refine aE_isub dL_law_23 ?_
    refine aE_icmp_gt (tgt := 1369) dL_law_24 (by decide) (fun h24 => ?_) (fun h24 => ?_)
    · skip
      refine aE_iconst (v := 1) dL_law_1369 rfl ?_
      refine aE_zret dL_law_1370 rfl (Or.inr rfl) ⟨hk.1, hk.2⟩ ?_
      exact hQ _ _
    · skip
      have hi : i + 6 ≤ z.1 := law_ix hz hi0 h24
      refine law_it_t i (by omega) hi k1 k2 hk hI (fun J sp' hJ => ?_)
      refine aE_iinc dL_law_1363 rfl (nI_add i 6) (show (3 : Nat) < 4 by decide) rfl (aE_loc (ls' := [_, _, _, _]) rfl ?_)
      refine aE_goto (tgt := 18) dL_law_1366 (by decide) ?_
      exact ih (i + 6) J sp' (by omega) (by omega) hJ
set_option maxRecDepth 20000 in
theorem law_loop_f (hz : z.1 ≤ 3072) (hQ : ∀ n m, Q (some (.int 1)) n m) (k1 k2 : Nat) (hk : k1 + 19 ≤ room_1.cells ∧ k2 + 13461 ≤ room_1.slots) : ∀ (m i : Nat) (I : Nat → Nat → Int32) (sp : Nat → Nat), z.1 ≤ i + m → i ≤ 3078 → Inv I sp false → aE z (mLn nm) room_1 Q 18 [some (.ref 100000), some (.ref 0), some (.ref 101), some (.int (nI i))] [] (nn false) (MM I sp false) k1 k2 := by
  intro m
  induction m with
  | zero =>
    intro i I sp hm hi0 hI
    refine aE_iload_n dL_law_18 rfl rfl ?_
    refine aE_aload_n dL_law_19 rfl rfl ?_
    refine aE_slen dL_law_20 ?_
    refine aE_bipush (v := 6) dL_law_21 (by decide) ?_
    refine aE_isub dL_law_23 ?_
    refine aE_icmp_gt (tgt := 1369) dL_law_24 (by decide) (fun h24 => ?_) (fun h24 => ?_)
    · skip
      refine aE_iconst (v := 1) dL_law_1369 rfl ?_
      refine aE_zret dL_law_1370 rfl (Or.inr rfl) ⟨Nat.le_trans (Nat.le_add_right _ _) hk.1, Nat.le_trans (Nat.le_add_right _ _) hk.2⟩ ?_
      exact hQ _ _
    · skip
      have hi : i + 6 ≤ z.1 := law_ix hz hi0 h24
      exact absurd hi (by omega)
  | succ m ih =>
    intro i I sp hm hi0 hI
    refine aE_iload_n dL_law_18 rfl rfl ?_
    refine aE_aload_n dL_law_19 rfl rfl ?_
    refine aE_slen dL_law_20 ?_
    refine aE_bipush (v := 6) dL_law_21 (by decide) ?_
    refine aE_isub dL_law_23 ?_
    refine aE_icmp_gt (tgt := 1369) dL_law_24 (by decide) (fun h24 => ?_) (fun h24 => ?_)
    · skip
      refine aE_iconst (v := 1) dL_law_1369 rfl ?_
      refine aE_zret dL_law_1370 rfl (Or.inr rfl) ⟨Nat.le_trans (Nat.le_add_right _ _) hk.1, Nat.le_trans (Nat.le_add_right _ _) hk.2⟩ ?_
      exact hQ _ _
    · skip
      have hi : i + 6 ≤ z.1 := law_ix hz hi0 h24
      refine law_it_f i (by omega) hi k1 k2 hk hI (fun J sp' hJ => ?_) (fun J sp' hJ => ?_)
      · skip
        refine aE_iinc dL_law_1363 rfl (nI_add i 6) (show (3 : Nat) < 4 by decide) rfl (aE_loc (ls' := [_, _, _, _]) rfl ?_)
        refine aE_goto (tgt := 18) dL_law_1366 (by decide) ?_
        exact ih (i + 6) J sp' (by omega) (by omega) hJ
      · skip
        refine aE_iinc dL_law_1363 rfl (nI_add i 6) (show (3 : Nat) < 4 by decide) rfl (aE_loc (ls' := [_, _, _, _]) rfl ?_)
        refine aE_goto (tgt := 18) dL_law_1366 (by decide) ?_
        exact law_loop_t hz hQ (k1 + 19) (k2 + 13461) hk m (i + 6) J sp' (by omega) (by omega) hJ
end LAW2
