abbrev rK (k : Nat) : Room := { frames := k, cells := 0, slots := 0, locals := 40 * k }
theorem cf_0 : a_cf 0 RX0 TX0 9 := ⟨rfl, by decide, fun w hw => List.mem_filter.mpr ⟨inX0 w hw, (by decide +kernel : ∀ w ∈ wsX00, goodWord w = true) w hw⟩, ⟨tyX0, tyX0_ok⟩, nmX0⟩
theorem cf_1 : a_cf 1 RX1 TX1 9 := ⟨rfl, by decide, fun w hw => List.mem_filter.mpr ⟨inX1 w hw, (by decide +kernel : ∀ w ∈ wsX10, goodWord w = true) w hw⟩, ⟨tyX1, tyX1_ok⟩, nmX1⟩
theorem cf_2 : a_cf 2 RX2 TX2 7 := ⟨rfl, by decide, fun w hw => List.mem_filter.mpr ⟨inX2 w hw, (by decide +kernel : ∀ w ∈ wsX20, goodWord w = true) w hw⟩, ⟨tyX2, tyX2_ok⟩, nmX2⟩
theorem cf_3 : a_cf 3 RX3 TX3 6 := ⟨rfl, by decide, fun w hw => List.mem_filter.mpr ⟨inX3 w hw, (by decide +kernel : ∀ w ∈ wsX30, goodWord w = true) w hw⟩, ⟨tyX3, tyX3_ok⟩, nmX3⟩
theorem cf_4 : a_cf 4 RX4 TX4 2 := ⟨rfl, by decide, fun w hw => List.mem_filter.mpr ⟨inX4 w hw, (by decide +kernel : ∀ w ∈ wsX40, goodWord w = true) w hw⟩, ⟨tyX4, tyX4_ok⟩, nmX4⟩
theorem cf_5 : a_cf 5 RX5 TX5 9 := ⟨rfl, by decide, fun w hw => List.mem_filter.mpr ⟨inX5 w hw, (by decide +kernel : ∀ w ∈ wsX50, goodWord w = true) w hw⟩, ⟨tyX5, tyX5_ok⟩, nmX5⟩
theorem cf_6 : a_cf 6 RX6 TX6 6 := ⟨rfl, by decide, fun w hw => List.mem_filter.mpr ⟨inX6 w hw, (by decide +kernel : ∀ w ∈ wsX60, goodWord w = true) w hw⟩, ⟨tyX6, tyX6_ok⟩, nmX6⟩
theorem cf_7 : a_cf 7 RX7 TX7 8 := ⟨rfl, by decide, fun w hw => List.mem_filter.mpr ⟨inX7 w hw, (by decide +kernel : ∀ w ∈ wsX70, goodWord w = true) w hw⟩, ⟨tyX7, tyX7_ok⟩, nmX7⟩
theorem cf_8 : a_cf 8 RX8 TX8 3 := ⟨rfl, by decide, fun w hw => List.mem_filter.mpr ⟨inX8 w hw, (by decide +kernel : ∀ w ∈ wsX80, goodWord w = true) w hw⟩, ⟨tyX8, tyX8_ok⟩, nmX8⟩
theorem cf_9 : a_cf 9 RX9 TX9 4 := ⟨rfl, by decide, fun w hw => List.mem_filter.mpr ⟨inX9 w hw, (by decide +kernel : ∀ w ∈ wsX90, goodWord w = true) w hw⟩, ⟨tyX9, tyX9_ok⟩, nmX9⟩
theorem cf_10 : a_cf 10 RX10 TX10 9 := ⟨rfl, by decide, fun w hw => List.mem_filter.mpr ⟨inX10 w hw, (by decide +kernel : ∀ w ∈ wsX100, goodWord w = true) w hw⟩, ⟨tyX10, tyX10_ok⟩, nmX10⟩
theorem cf_11 : a_cf 11 RX11 TX11 11 := ⟨rfl, by decide, fun w hw => List.mem_filter.mpr ⟨inX11 w hw, (by decide +kernel : ∀ w ∈ wsX110, goodWord w = true) w hw⟩, ⟨tyX11, tyX11_ok⟩, nmX11⟩
theorem cf_12 : a_cf 12 RX12 TX12 61 := ⟨rfl, by decide, fun w hw => List.mem_filter.mpr ⟨inX12 w hw, (by decide +kernel : ∀ w ∈ wsX120, goodWord w = true) w hw⟩, ⟨tyX12, tyX12_ok⟩, nmX12⟩
abbrev mX0_init : aY := (RX0, yX0_init, cX0_init, 2, none)
theorem mi_X0_init : a_mi mX0_init 0 := ⟨⟨a_in 84 (by decide +kernel) rfl, a_in 56 (by decide +kernel) rfl, (by decide +kernel), by decide, rfl⟩, a_in 83 (by decide +kernel) rfl, rfl, rfl⟩
theorem pn_X0_init : plainName mX0_init.2.1.cls = true ∧ mX0_init.1 = mX0_init.2.1.cls := ⟨by decide, rfl⟩
abbrev mX0_hasSchool : aY := (RX0, yX0_hasSchool, cX0_hasSchool, 2, some FieldType.boolean)
theorem mv_X0_hasSchool : a_mv mX0_hasSchool 1 0 := ⟨⟨a_in 530 (by decide +kernel) rfl, a_in 56 (by decide +kernel) rfl, (by decide +kernel), by decide, rfl⟩, a_in 528 (by decide +kernel) rfl, a_in 529 (by decide +kernel) rfl, ⟨TX0, 9, rfl⟩, by decide⟩
theorem pn_X0_hasSchool : plainName mX0_hasSchool.2.1.cls = true ∧ mX0_hasSchool.1 = mX0_hasSchool.2.1.cls := ⟨by decide, rfl⟩
abbrev mX0_hasStop : aY := (RX0, yX0_hasStop, cX0_hasStop, 2, some FieldType.boolean)
theorem mv_X0_hasStop : a_mv mX0_hasStop 1 0 := ⟨⟨a_in 577 (by decide +kernel) rfl, a_in 56 (by decide +kernel) rfl, (by decide +kernel), by decide, rfl⟩, a_in 575 (by decide +kernel) rfl, a_in 576 (by decide +kernel) rfl, ⟨TX0, 9, rfl⟩, by decide⟩
theorem pn_X0_hasStop : plainName mX0_hasStop.2.1.cls = true ∧ mX0_hasStop.1 = mX0_hasStop.2.1.cls := ⟨by decide, rfl⟩
abbrev mX0_addSchool : aY := (RX0, yX0_addSchool, cX0_addSchool, 4, some FieldType.int)
theorem mv_X0_addSchool : a_mv mX0_addSchool 2 0 := ⟨⟨a_in 522 (by decide +kernel) rfl, a_in 56 (by decide +kernel) rfl, (by decide +kernel), by decide, rfl⟩, a_in 520 (by decide +kernel) rfl, a_in 521 (by decide +kernel) rfl, ⟨TX0, 9, rfl⟩, by decide⟩
theorem pn_X0_addSchool : plainName mX0_addSchool.2.1.cls = true ∧ mX0_addSchool.1 = mX0_addSchool.2.1.cls := ⟨by decide, rfl⟩
abbrev mX0_addStop : aY := (RX0, yX0_addStop, cX0_addStop, 6, some FieldType.int)
theorem mv_X0_addStop : a_mv mX0_addStop 4 0 := ⟨⟨a_in 569 (by decide +kernel) rfl, a_in 56 (by decide +kernel) rfl, (by decide +kernel), by decide, rfl⟩, a_in 567 (by decide +kernel) rfl, a_in 568 (by decide +kernel) rfl, ⟨TX0, 9, rfl⟩, by decide⟩
theorem pn_X0_addStop : plainName mX0_addStop.2.1.cls = true ∧ mX0_addStop.1 = mX0_addStop.2.1.cls := ⟨by decide, rfl⟩
abbrev mX0_removeStop : aY := (RX0, yX0_removeStop, cX0_removeStop, 4, none)
theorem mv_X0_removeStop : a_mv mX0_removeStop 1 0 := ⟨⟨a_in 585 (by decide +kernel) rfl, a_in 56 (by decide +kernel) rfl, (by decide +kernel), by decide, rfl⟩, a_in 583 (by decide +kernel) rfl, a_in 584 (by decide +kernel) rfl, ⟨TX0, 9, rfl⟩, by decide⟩
theorem pn_X0_removeStop : plainName mX0_removeStop.2.1.cls = true ∧ mX0_removeStop.1 = mX0_removeStop.2.1.cls := ⟨by decide, rfl⟩
abbrev mX0_rings : aY := (RX0, yX0_rings, cX0_rings, 2, some FieldType.int)
theorem mv_X0_rings : a_mv mX0_rings 1 0 := ⟨⟨a_in 737 (by decide +kernel) rfl, a_in 56 (by decide +kernel) rfl, (by decide +kernel), by decide, rfl⟩, a_in 735 (by decide +kernel) rfl, a_in 736 (by decide +kernel) rfl, ⟨TX0, 9, rfl⟩, by decide⟩
theorem pn_X0_rings : plainName mX0_rings.2.1.cls = true ∧ mX0_rings.1 = mX0_rings.2.1.cls := ⟨by decide, rfl⟩
abbrev mX0_longest : aY := (RX0, yX0_longest, cX0_longest, 2, some FieldType.int)
theorem mv_X0_longest : a_mv mX0_longest 1 0 := ⟨⟨a_in 553 (by decide +kernel) rfl, a_in 56 (by decide +kernel) rfl, (by decide +kernel), by decide, rfl⟩, a_in 551 (by decide +kernel) rfl, a_in 552 (by decide +kernel) rfl, ⟨TX0, 9, rfl⟩, by decide⟩
theorem pn_X0_longest : plainName mX0_longest.2.1.cls = true ∧ mX0_longest.1 = mX0_longest.2.1.cls := ⟨by decide, rfl⟩
abbrev mX0_stopsOf : aY := (RX0, yX0_stopsOf, cX0_stopsOf, 4, some FieldType.int)
theorem mv_X0_stopsOf : a_mv mX0_stopsOf 1 0 := ⟨⟨a_in 545 (by decide +kernel) rfl, a_in 56 (by decide +kernel) rfl, (by decide +kernel), by decide, rfl⟩, a_in 543 (by decide +kernel) rfl, a_in 544 (by decide +kernel) rfl, ⟨TX0, 9, rfl⟩, by decide⟩
theorem pn_X0_stopsOf : plainName mX0_stopsOf.2.1.cls = true ∧ mX0_stopsOf.1 = mX0_stopsOf.2.1.cls := ⟨by decide, rfl⟩
abbrev mX0_pupilsOf : aY := (RX0, yX0_pupilsOf, cX0_pupilsOf, 4, some FieldType.int)
theorem mv_X0_pupilsOf : a_mv mX0_pupilsOf 1 0 := ⟨⟨a_in 549 (by decide +kernel) rfl, a_in 56 (by decide +kernel) rfl, (by decide +kernel), by decide, rfl⟩, a_in 547 (by decide +kernel) rfl, a_in 548 (by decide +kernel) rfl, ⟨TX0, 9, rfl⟩, by decide⟩
theorem pn_X0_pupilsOf : plainName mX0_pupilsOf.2.1.cls = true ∧ mX0_pupilsOf.1 = mX0_pupilsOf.2.1.cls := ⟨by decide, rfl⟩
abbrev mX0_costOf : aY := (RX0, yX0_costOf, cX0_costOf, 3, some FieldType.int)
theorem mv_X0_costOf : a_mv mX0_costOf 2 0 := ⟨⟨a_in 855 (by decide +kernel) rfl, a_in 56 (by decide +kernel) rfl, (by decide +kernel), by decide, rfl⟩, a_in 853 (by decide +kernel) rfl, a_in 854 (by decide +kernel) rfl, ⟨TX0, 9, rfl⟩, by decide⟩
theorem pn_X0_costOf : plainName mX0_costOf.2.1.cls = true ∧ mX0_costOf.1 = mX0_costOf.2.1.cls := ⟨by decide, rfl⟩
abbrev mX0_minutesFrom : aY := (RX0, yX0_minutesFrom, cX0_minutesFrom, 10, some FieldType.int)
theorem mv_X0_minutesFrom : a_mv mX0_minutesFrom 4 0 := ⟨⟨a_in 716 (by decide +kernel) rfl, a_in 56 (by decide +kernel) rfl, (by decide +kernel), by decide, rfl⟩, a_in 714 (by decide +kernel) rfl, a_in 715 (by decide +kernel) rfl, ⟨TX0, 9, rfl⟩, by decide⟩
theorem pn_X0_minutesFrom : plainName mX0_minutesFrom.2.1.cls = true ∧ mX0_minutesFrom.1 = mX0_minutesFrom.2.1.cls := ⟨by decide, rfl⟩
abbrev mX0_rideOf : aY := (RX0, yX0_rideOf, cX0_rideOf, 5, some FieldType.int)
theorem mv_X0_rideOf : a_mv mX0_rideOf 1 0 := ⟨⟨a_in 711 (by decide +kernel) rfl, a_in 56 (by decide +kernel) rfl, (by decide +kernel), by decide, rfl⟩, a_in 709 (by decide +kernel) rfl, a_in 710 (by decide +kernel) rfl, ⟨TX0, 9, rfl⟩, by decide⟩
theorem pn_X0_rideOf : plainName mX0_rideOf.2.1.cls = true ∧ mX0_rideOf.1 = mX0_rideOf.2.1.cls := ⟨by decide, rfl⟩
abbrev mX0_pupilsFrom : aY := (RX0, yX0_pupilsFrom, cX0_pupilsFrom, 4, some FieldType.int)
theorem mv_X0_pupilsFrom : a_mv mX0_pupilsFrom 1 0 := ⟨⟨a_in 961 (by decide +kernel) rfl, a_in 56 (by decide +kernel) rfl, (by decide +kernel), by decide, rfl⟩, a_in 959 (by decide +kernel) rfl, a_in 960 (by decide +kernel) rfl, ⟨TX0, 9, rfl⟩, by decide⟩
theorem pn_X0_pupilsFrom : plainName mX0_pupilsFrom.2.1.cls = true ∧ mX0_pupilsFrom.1 = mX0_pupilsFrom.2.1.cls := ⟨by decide, rfl⟩
abbrev mX0_ridesFrom : aY := (RX0, yX0_ridesFrom, cX0_ridesFrom, 4, some FieldType.int)
theorem mv_X0_ridesFrom : a_mv mX0_ridesFrom 1 0 := ⟨⟨a_in 965 (by decide +kernel) rfl, a_in 56 (by decide +kernel) rfl, (by decide +kernel), by decide, rfl⟩, a_in 963 (by decide +kernel) rfl, a_in 964 (by decide +kernel) rfl, ⟨TX0, 9, rfl⟩, by decide⟩
theorem pn_X0_ridesFrom : plainName mX0_ridesFrom.2.1.cls = true ∧ mX0_ridesFrom.1 = mX0_ridesFrom.2.1.cls := ⟨by decide, rfl⟩
abbrev mX0_greatestRide : aY := (RX0, yX0_greatestRide, cX0_greatestRide, 4, some FieldType.int)
theorem mv_X0_greatestRide : a_mv mX0_greatestRide 1 0 := ⟨⟨a_in 970 (by decide +kernel) rfl, a_in 56 (by decide +kernel) rfl, (by decide +kernel), by decide, rfl⟩, a_in 968 (by decide +kernel) rfl, a_in 969 (by decide +kernel) rfl, ⟨TX0, 9, rfl⟩, by decide⟩
theorem pn_X0_greatestRide : plainName mX0_greatestRide.2.1.cls = true ∧ mX0_greatestRide.1 = mX0_greatestRide.2.1.cls := ⟨by decide, rfl⟩
abbrev mX0_earlyFrom : aY := (RX0, yX0_earlyFrom, cX0_earlyFrom, 6, some FieldType.int)
theorem mv_X0_earlyFrom : a_mv mX0_earlyFrom 1 0 := ⟨⟨a_in 975 (by decide +kernel) rfl, a_in 56 (by decide +kernel) rfl, (by decide +kernel), by decide, rfl⟩, a_in 973 (by decide +kernel) rfl, a_in 974 (by decide +kernel) rfl, ⟨TX0, 9, rfl⟩, by decide⟩
theorem pn_X0_earlyFrom : plainName mX0_earlyFrom.2.1.cls = true ∧ mX0_earlyFrom.1 = mX0_earlyFrom.2.1.cls := ⟨by decide, rfl⟩
abbrev mX1_init : aY := (RX1, yX1_init, cX1_init, 1, none)
theorem mi_X1_init : a_mi mX1_init 0 := ⟨⟨a_in 262 (by decide +kernel) rfl, a_in 60 (by decide +kernel) rfl, (by decide +kernel), by decide, rfl⟩, a_in 261 (by decide +kernel) rfl, rfl, rfl⟩
theorem pn_X1_init : plainName mX1_init.2.1.cls = true ∧ mX1_init.1 = mX1_init.2.1.cls := ⟨by decide, rfl⟩
abbrev mX1_has : aY := (RX1, yX1_has, cX1_has, 2, some FieldType.boolean)
theorem mv_X1_has : a_mv mX1_has 1 1 := ⟨⟨a_in 728 (by decide +kernel) rfl, a_in 60 (by decide +kernel) rfl, (by decide +kernel), by decide, rfl⟩, a_in 726 (by decide +kernel) rfl, a_in 727 (by decide +kernel) rfl, ⟨TX1, 9, rfl⟩, by decide⟩
theorem pn_X1_has : plainName mX1_has.2.1.cls = true ∧ mX1_has.1 = mX1_has.2.1.cls := ⟨by decide, rfl⟩
abbrev mX1_gather : aY := (RX1, yX1_gather, cX1_gather, 5, none)
theorem mv_X1_gather : a_mv mX1_gather 1 1 := ⟨⟨a_in 679 (by decide +kernel) rfl, a_in 60 (by decide +kernel) rfl, (by decide +kernel), by decide, rfl⟩, a_in 677 (by decide +kernel) rfl, a_in 678 (by decide +kernel) rfl, ⟨TX1, 9, rfl⟩, by decide⟩
theorem pn_X1_gather : plainName mX1_gather.2.1.cls = true ∧ mX1_gather.1 = mX1_gather.2.1.cls := ⟨by decide, rfl⟩
abbrev mX1_schoolOf : aY := (RX1, yX1_schoolOf, cX1_schoolOf, 3, some (FieldType.object "BellWaves$School"))
theorem mv_X1_schoolOf : a_mv mX1_schoolOf 2 1 := ⟨⟨a_in 687 (by decide +kernel) rfl, a_in 60 (by decide +kernel) rfl, (by decide +kernel), by decide, rfl⟩, a_in 685 (by decide +kernel) rfl, a_in 686 (by decide +kernel) rfl, ⟨TX1, 9, rfl⟩, by decide⟩
theorem pn_X1_schoolOf : plainName mX1_schoolOf.2.1.cls = true ∧ mX1_schoolOf.1 = mX1_schoolOf.2.1.cls := ⟨by decide, rfl⟩
abbrev mX1_firstCorner : aY := (RX1, yX1_firstCorner, cX1_firstCorner, 4, some FieldType.int)
theorem mv_X1_firstCorner : a_mv mX1_firstCorner 2 1 := ⟨⟨a_in 691 (by decide +kernel) rfl, a_in 60 (by decide +kernel) rfl, (by decide +kernel), by decide, rfl⟩, a_in 689 (by decide +kernel) rfl, a_in 690 (by decide +kernel) rfl, ⟨TX1, 9, rfl⟩, by decide⟩
theorem pn_X1_firstCorner : plainName mX1_firstCorner.2.1.cls = true ∧ mX1_firstCorner.1 = mX1_firstCorner.2.1.cls := ⟨by decide, rfl⟩
abbrev mX1_lengthOf : aY := (RX1, yX1_lengthOf, cX1_lengthOf, 3, some FieldType.int)
theorem mv_X1_lengthOf : a_mv mX1_lengthOf 2 1 := ⟨⟨a_in 695 (by decide +kernel) rfl, a_in 60 (by decide +kernel) rfl, (by decide +kernel), by decide, rfl⟩, a_in 693 (by decide +kernel) rfl, a_in 694 (by decide +kernel) rfl, ⟨TX1, 9, rfl⟩, by decide⟩
theorem pn_X1_lengthOf : plainName mX1_lengthOf.2.1.cls = true ∧ mX1_lengthOf.1 = mX1_lengthOf.2.1.cls := ⟨by decide, rfl⟩
abbrev mX1_lengthOn : aY := (RX1, yX1_lengthOn, cX1_lengthOn, 5, some FieldType.int)
theorem mv_X1_lengthOn : a_mv mX1_lengthOn 3 1 := ⟨⟨a_in 941 (by decide +kernel) rfl, a_in 60 (by decide +kernel) rfl, (by decide +kernel), by decide, rfl⟩, a_in 939 (by decide +kernel) rfl, a_in 940 (by decide +kernel) rfl, ⟨TX1, 9, rfl⟩, by decide⟩
theorem pn_X1_lengthOn : plainName mX1_lengthOn.2.1.cls = true ∧ mX1_lengthOn.1 = mX1_lengthOn.2.1.cls := ⟨by decide, rfl⟩
abbrev mX1_startOf : aY := (RX1, yX1_startOf, cX1_startOf, 3, some FieldType.int)
theorem mv_X1_startOf : a_mv mX1_startOf 2 1 := ⟨⟨a_in 733 (by decide +kernel) rfl, a_in 60 (by decide +kernel) rfl, (by decide +kernel), by decide, rfl⟩, a_in 731 (by decide +kernel) rfl, a_in 732 (by decide +kernel) rfl, ⟨TX1, 9, rfl⟩, by decide⟩
theorem pn_X1_startOf : plainName mX1_startOf.2.1.cls = true ∧ mX1_startOf.1 = mX1_startOf.2.1.cls := ⟨by decide, rfl⟩
abbrev mX1_pupilsOn : aY := (RX1, yX1_pupilsOn, cX1_pupilsOn, 6, some FieldType.int)
theorem mv_X1_pupilsOn : a_mv mX1_pupilsOn 2 1 := ⟨⟨a_in 949 (by decide +kernel) rfl, a_in 60 (by decide +kernel) rfl, (by decide +kernel), by decide, rfl⟩, a_in 947 (by decide +kernel) rfl, a_in 948 (by decide +kernel) rfl, ⟨TX1, 9, rfl⟩, by decide⟩
theorem pn_X1_pupilsOn : plainName mX1_pupilsOn.2.1.cls = true ∧ mX1_pupilsOn.1 = mX1_pupilsOn.2.1.cls := ⟨by decide, rfl⟩
abbrev mX1_canFollow : aY := (RX1, yX1_canFollow, cX1_canFollow, 4, some FieldType.boolean)
theorem mv_X1_canFollow : a_mv mX1_canFollow 3 1 := ⟨⟨a_in 745 (by decide +kernel) rfl, a_in 60 (by decide +kernel) rfl, (by decide +kernel), by decide, rfl⟩, a_in 743 (by decide +kernel) rfl, a_in 744 (by decide +kernel) rfl, ⟨TX1, 9, rfl⟩, by decide⟩
theorem pn_X1_canFollow : plainName mX1_canFollow.2.1.cls = true ∧ mX1_canFollow.1 = mX1_canFollow.2.1.cls := ⟨by decide, rfl⟩
abbrev mX1_fewestBuses : aY := (RX1, yX1_fewestBuses, cX1_fewestBuses, 2, some FieldType.int)
theorem mv_X1_fewestBuses : a_mv mX1_fewestBuses 1 1 := ⟨⟨a_in 887 (by decide +kernel) rfl, a_in 60 (by decide +kernel) rfl, (by decide +kernel), by decide, rfl⟩, a_in 885 (by decide +kernel) rfl, a_in 886 (by decide +kernel) rfl, ⟨TX1, 9, rfl⟩, by decide⟩
theorem pn_X1_fewestBuses : plainName mX1_fewestBuses.2.1.cls = true ∧ mX1_fewestBuses.1 = mX1_fewestBuses.2.1.cls := ⟨by decide, rfl⟩
abbrev mX1_link : aY := (RX1, yX1_link, cX1_link, 7, none)
theorem mv_X1_link : a_mv mX1_link 1 1 := ⟨⟨a_in 757 (by decide +kernel) rfl, a_in 60 (by decide +kernel) rfl, (by decide +kernel), by decide, rfl⟩, a_in 755 (by decide +kernel) rfl, a_in 756 (by decide +kernel) rfl, ⟨TX1, 9, rfl⟩, by decide⟩
theorem pn_X1_link : plainName mX1_link.2.1.cls = true ∧ mX1_link.1 = mX1_link.2.1.cls := ⟨by decide, rfl⟩
abbrev mX1_fillMatcher : aY := (RX1, yX1_fillMatcher, cX1_fillMatcher, 5, none)
theorem mv_X1_fillMatcher : a_mv mX1_fillMatcher 1 1 := ⟨⟨a_in 761 (by decide +kernel) rfl, a_in 60 (by decide +kernel) rfl, (by decide +kernel), by decide, rfl⟩, a_in 760 (by decide +kernel) rfl, a_in 13 (by decide +kernel) rfl, ⟨TX1, 9, rfl⟩, by decide⟩
theorem pn_X1_fillMatcher : plainName mX1_fillMatcher.2.1.cls = true ∧ mX1_fillMatcher.1 = mX1_fillMatcher.2.1.cls := ⟨by decide, rfl⟩
abbrev mX1_busCount : aY := (RX1, yX1_busCount, cX1_busCount, 1, some FieldType.int)
theorem mv_X1_busCount : a_mv mX1_busCount 0 1 := ⟨⟨a_in 779 (by decide +kernel) rfl, a_in 60 (by decide +kernel) rfl, (by decide +kernel), by decide, rfl⟩, a_in 777 (by decide +kernel) rfl, a_in 778 (by decide +kernel) rfl, ⟨TX1, 9, rfl⟩, by decide⟩
theorem pn_X1_busCount : plainName mX1_busCount.2.1.cls = true ∧ mX1_busCount.1 = mX1_busCount.2.1.cls := ⟨by decide, rfl⟩
abbrev mX1_isFirst : aY := (RX1, yX1_isFirst, cX1_isFirst, 2, some FieldType.boolean)
theorem mv_X1_isFirst : a_mv mX1_isFirst 1 1 := ⟨⟨a_in 797 (by decide +kernel) rfl, a_in 60 (by decide +kernel) rfl, (by decide +kernel), by decide, rfl⟩, a_in 795 (by decide +kernel) rfl, a_in 796 (by decide +kernel) rfl, ⟨TX1, 9, rfl⟩, by decide⟩
theorem pn_X1_isFirst : plainName mX1_isFirst.2.1.cls = true ∧ mX1_isFirst.1 = mX1_isFirst.2.1.cls := ⟨by decide, rfl⟩
abbrev mX1_driven : aY := (RX1, yX1_driven, cX1_driven, 6, some FieldType.int)
theorem mv_X1_driven : a_mv mX1_driven 2 1 := ⟨⟨a_in 793 (by decide +kernel) rfl, a_in 60 (by decide +kernel) rfl, (by decide +kernel), by decide, rfl⟩, a_in 791 (by decide +kernel) rfl, a_in 792 (by decide +kernel) rfl, ⟨TX1, 9, rfl⟩, by decide⟩
theorem pn_X1_driven : plainName mX1_driven.2.1.cls = true ∧ mX1_driven.1 = mX1_driven.2.1.cls := ⟨by decide, rfl⟩
abbrev mX1_specialBuses : aY := (RX1, yX1_specialBuses, cX1_specialBuses, 4, some FieldType.int)
theorem mv_X1_specialBuses : a_mv mX1_specialBuses 1 1 := ⟨⟨a_in 805 (by decide +kernel) rfl, a_in 60 (by decide +kernel) rfl, (by decide +kernel), by decide, rfl⟩, a_in 803 (by decide +kernel) rfl, a_in 804 (by decide +kernel) rfl, ⟨TX1, 9, rfl⟩, by decide⟩
theorem pn_X1_specialBuses : plainName mX1_specialBuses.2.1.cls = true ∧ mX1_specialBuses.1 = mX1_specialBuses.2.1.cls := ⟨by decide, rfl⟩
abbrev mX1_drivesSpecial : aY := (RX1, yX1_drivesSpecial, cX1_drivesSpecial, 5, some FieldType.boolean)
theorem mv_X1_drivesSpecial : a_mv mX1_drivesSpecial 2 1 := ⟨⟨a_in 809 (by decide +kernel) rfl, a_in 60 (by decide +kernel) rfl, (by decide +kernel), by decide, rfl⟩, a_in 808 (by decide +kernel) rfl, a_in 16 (by decide +kernel) rfl, ⟨TX1, 9, rfl⟩, by decide⟩
theorem pn_X1_drivesSpecial : plainName mX1_drivesSpecial.2.1.cls = true ∧ mX1_drivesSpecial.1 = mX1_drivesSpecial.2.1.cls := ⟨by decide, rfl⟩
abbrev mX2_init : aY := (RX2, yX2_init, cX2_init, 1, none)
theorem mi_X2_init : a_mi mX2_init 0 := ⟨⟨a_in 357 (by decide +kernel) rfl, a_in 63 (by decide +kernel) rfl, (by decide +kernel), by decide, rfl⟩, a_in 356 (by decide +kernel) rfl, rfl, rfl⟩
theorem pn_X2_init : plainName mX2_init.2.1.cls = true ∧ mX2_init.1 = mX2_init.2.1.cls := ⟨by decide, rfl⟩
abbrev mX2_weigh : aY := (RX2, yX2_weigh, cX2_weigh, 8, none)
theorem mv_X2_weigh : a_mv mX2_weigh 3 2 := ⟨⟨a_in 871 (by decide +kernel) rfl, a_in 63 (by decide +kernel) rfl, (by decide +kernel), by decide, rfl⟩, a_in 869 (by decide +kernel) rfl, a_in 870 (by decide +kernel) rfl, ⟨TX2, 7, rfl⟩, by decide⟩
theorem pn_X2_weigh : plainName mX2_weigh.2.1.cls = true ∧ mX2_weigh.1 = mX2_weigh.2.1.cls := ⟨by decide, rfl⟩
abbrev mX2_priceOfBells : aY := (RX2, yX2_priceOfBells, cX2_priceOfBells, 3, some FieldType.int)
theorem mv_X2_priceOfBells : a_mv mX2_priceOfBells 0 2 := ⟨⟨a_in 883 (by decide +kernel) rfl, a_in 63 (by decide +kernel) rfl, (by decide +kernel), by decide, rfl⟩, a_in 882 (by decide +kernel) rfl, a_in 20 (by decide +kernel) rfl, ⟨TX2, 7, rfl⟩, by decide⟩
theorem pn_X2_priceOfBells : plainName mX2_priceOfBells.2.1.cls = true ∧ mX2_priceOfBells.1 = mX2_priceOfBells.2.1.cls := ⟨by decide, rfl⟩
abbrev mX2_note : aY := (RX2, yX2_note, cX2_note, 4, none)
theorem mv_X2_note : a_mv mX2_note 3 2 := ⟨⟨a_in 891 (by decide +kernel) rfl, a_in 63 (by decide +kernel) rfl, (by decide +kernel), by decide, rfl⟩, a_in 890 (by decide +kernel) rfl, a_in 21 (by decide +kernel) rfl, ⟨TX2, 7, rfl⟩, by decide⟩
theorem pn_X2_note : plainName mX2_note.2.1.cls = true ∧ mX2_note.1 = mX2_note.2.1.cls := ⟨by decide, rfl⟩
abbrev mX2_decode : aY := (RX2, yX2_decode, cX2_decode, 4, none)
theorem mv_X2_decode : a_mv mX2_decode 1 2 := ⟨⟨a_in 879 (by decide +kernel) rfl, a_in 63 (by decide +kernel) rfl, (by decide +kernel), by decide, rfl⟩, a_in 878 (by decide +kernel) rfl, a_in 19 (by decide +kernel) rfl, ⟨TX2, 7, rfl⟩, by decide⟩
theorem pn_X2_decode : plainName mX2_decode.2.1.cls = true ∧ mX2_decode.1 = mX2_decode.2.1.cls := ⟨by decide, rfl⟩
abbrev mX2_list : aY := (RX2, yX2_list, cX2_list, 3, none)
theorem mv_X2_list : a_mv mX2_list 0 2 := ⟨⟨a_in 895 (by decide +kernel) rfl, a_in 63 (by decide +kernel) rfl, (by decide +kernel), by decide, rfl⟩, a_in 894 (by decide +kernel) rfl, a_in 22 (by decide +kernel) rfl, ⟨TX2, 7, rfl⟩, by decide⟩
theorem pn_X2_list : plainName mX2_list.2.1.cls = true ∧ mX2_list.1 = mX2_list.2.1.cls := ⟨by decide, rfl⟩
abbrev mX2_busesIn : aY := (RX2, yX2_busesIn, cX2_busesIn, 2, some FieldType.int)
theorem mv_X2_busesIn : a_mv mX2_busesIn 1 2 := ⟨⟨a_in 903 (by decide +kernel) rfl, a_in 63 (by decide +kernel) rfl, (by decide +kernel), by decide, rfl⟩, a_in 901 (by decide +kernel) rfl, a_in 902 (by decide +kernel) rfl, ⟨TX2, 7, rfl⟩, by decide⟩
theorem pn_X2_busesIn : plainName mX2_busesIn.2.1.cls = true ∧ mX2_busesIn.1 = mX2_busesIn.2.1.cls := ⟨by decide, rfl⟩
abbrev mX2_costIn : aY := (RX2, yX2_costIn, cX2_costIn, 2, some FieldType.int)
theorem mv_X2_costIn : a_mv mX2_costIn 1 2 := ⟨⟨a_in 907 (by decide +kernel) rfl, a_in 63 (by decide +kernel) rfl, (by decide +kernel), by decide, rfl⟩, a_in 905 (by decide +kernel) rfl, a_in 906 (by decide +kernel) rfl, ⟨TX2, 7, rfl⟩, by decide⟩
theorem pn_X2_costIn : plainName mX2_costIn.2.1.cls = true ∧ mX2_costIn.1 = mX2_costIn.2.1.cls := ⟨by decide, rfl⟩
abbrev mX2_bellsIn : aY := (RX2, yX2_bellsIn, cX2_bellsIn, 2, some (FieldType.array FieldType.int))
theorem mv_X2_bellsIn : a_mv mX2_bellsIn 1 2 := ⟨⟨a_in 911 (by decide +kernel) rfl, a_in 63 (by decide +kernel) rfl, (by decide +kernel), by decide, rfl⟩, a_in 909 (by decide +kernel) rfl, a_in 910 (by decide +kernel) rfl, ⟨TX2, 7, rfl⟩, by decide⟩
theorem pn_X2_bellsIn : plainName mX2_bellsIn.2.1.cls = true ∧ mX2_bellsIn.1 = mX2_bellsIn.2.1.cls := ⟨by decide, rfl⟩
abbrev mX3_init : aY := (RX3, yX3_init, cX3_init, 1, none)
theorem mi_X3_init : a_mi mX3_init 0 := ⟨⟨a_in 269 (by decide +kernel) rfl, a_in 61 (by decide +kernel) rfl, (by decide +kernel), by decide, rfl⟩, a_in 268 (by decide +kernel) rfl, rfl, rfl⟩
theorem pn_X3_init : plainName mX3_init.2.1.cls = true ∧ mX3_init.1 = mX3_init.2.1.cls := ⟨by decide, rfl⟩
abbrev mX3_most : aY := (RX3, yX3_most, cX3_most, 5, some FieldType.int)
theorem mv_X3_most : a_mv mX3_most 2 3 := ⟨⟨a_in 766 (by decide +kernel) rfl, a_in 61 (by decide +kernel) rfl, (by decide +kernel), by decide, rfl⟩, a_in 764 (by decide +kernel) rfl, a_in 765 (by decide +kernel) rfl, ⟨TX3, 6, rfl⟩, by decide⟩
theorem pn_X3_most : plainName mX3_most.2.1.cls = true ∧ mX3_most.1 = mX3_most.2.1.cls := ⟨by decide, rfl⟩
abbrev mX3_gains : aY := (RX3, yX3_gains, cX3_gains, 8, some FieldType.boolean)
theorem mv_X3_gains : a_mv mX3_gains 2 3 := ⟨⟨a_in 771 (by decide +kernel) rfl, a_in 61 (by decide +kernel) rfl, (by decide +kernel), by decide, rfl⟩, a_in 770 (by decide +kernel) rfl, a_in 14 (by decide +kernel) rfl, ⟨TX3, 6, rfl⟩, by decide⟩
theorem pn_X3_gains : plainName mX3_gains.2.1.cls = true ∧ mX3_gains.1 = mX3_gains.2.1.cls := ⟨by decide, rfl⟩
abbrev mX3_move : aY := (RX3, yX3_move, cX3_move, 6, none)
theorem mv_X3_move : a_mv mX3_move 1 3 := ⟨⟨a_in 775 (by decide +kernel) rfl, a_in 61 (by decide +kernel) rfl, (by decide +kernel), by decide, rfl⟩, a_in 774 (by decide +kernel) rfl, a_in 15 (by decide +kernel) rfl, ⟨TX3, 6, rfl⟩, by decide⟩
theorem pn_X3_move : plainName mX3_move.2.1.cls = true ∧ mX3_move.1 = mX3_move.2.1.cls := ⟨by decide, rfl⟩
abbrev mX4_init : aY := (RX4, yX4_init, cX4_init, 1, none)
theorem mi_X4_init : a_mi mX4_init 0 := ⟨⟨a_in 387 (by decide +kernel) rfl, a_in 64 (by decide +kernel) rfl, (by decide +kernel), by decide, rfl⟩, a_in 386 (by decide +kernel) rfl, rfl, rfl⟩
theorem pn_X4_init : plainName mX4_init.2.1.cls = true ∧ mX4_init.1 = mX4_init.2.1.cls := ⟨by decide, rfl⟩
abbrev mX4_drive : aY := (RX4, yX4_drive, cX4_drive, 9, some FieldType.int)
theorem mv_X4_drive : a_mv mX4_drive 5 4 := ⟨⟨a_in 926 (by decide +kernel) rfl, a_in 64 (by decide +kernel) rfl, (by decide +kernel), by decide, rfl⟩, a_in 924 (by decide +kernel) rfl, a_in 925 (by decide +kernel) rfl, ⟨TX4, 2, rfl⟩, by decide⟩
theorem pn_X4_drive : plainName mX4_drive.2.1.cls = true ∧ mX4_drive.1 = mX4_drive.2.1.cls := ⟨by decide, rfl⟩
abbrev mX4_driveBus : aY := (RX4, yX4_driveBus, cX4_driveBus, 13, none)
theorem mv_X4_driveBus : a_mv mX4_driveBus 6 4 := ⟨⟨a_in 935 (by decide +kernel) rfl, a_in 64 (by decide +kernel) rfl, (by decide +kernel), by decide, rfl⟩, a_in 934 (by decide +kernel) rfl, a_in 23 (by decide +kernel) rfl, ⟨TX4, 2, rfl⟩, by decide⟩
theorem pn_X4_driveBus : plainName mX4_driveBus.2.1.cls = true ∧ mX4_driveBus.1 = mX4_driveBus.2.1.cls := ⟨by decide, rfl⟩
abbrev mX5_init : aY := (RX5, yX5_init, cX5_init, 1, none)
theorem mi_X5_init : a_mi mX5_init 0 := ⟨⟨a_in 602 (by decide +kernel) rfl, a_in 69 (by decide +kernel) rfl, (by decide +kernel), by decide, rfl⟩, a_in 601 (by decide +kernel) rfl, rfl, rfl⟩
theorem pn_X5_init : plainName mX5_init.2.1.cls = true ∧ mX5_init.1 = mX5_init.2.1.cls := ⟨by decide, rfl⟩
abbrev mX5_draw : aY := (RX5, yX5_draw, cX5_draw, 6, none)
theorem mv_X5_draw : a_mv mX5_draw 2 5 := ⟨⟨a_in 636 (by decide +kernel) rfl, a_in 69 (by decide +kernel) rfl, (by decide +kernel), by decide, rfl⟩, a_in 634 (by decide +kernel) rfl, a_in 635 (by decide +kernel) rfl, ⟨TX5, 9, rfl⟩, by decide⟩
theorem pn_X5_draw : plainName mX5_draw.2.1.cls = true ∧ mX5_draw.1 = mX5_draw.2.1.cls := ⟨by decide, rfl⟩
abbrev mX5_collect : aY := (RX5, yX5_collect, cX5_collect, 7, none)
theorem mv_X5_collect : a_mv mX5_collect 2 5 := ⟨⟨a_in 640 (by decide +kernel) rfl, a_in 69 (by decide +kernel) rfl, (by decide +kernel), by decide, rfl⟩, a_in 639 (by decide +kernel) rfl, a_in 4 (by decide +kernel) rfl, ⟨TX5, 9, rfl⟩, by decide⟩
theorem pn_X5_collect : plainName mX5_collect.2.1.cls = true ∧ mX5_collect.1 = mX5_collect.2.1.cls := ⟨by decide, rfl⟩
abbrev mX5_load : aY := (RX5, yX5_load, cX5_load, 4, some FieldType.int)
theorem mv_X5_load : a_mv mX5_load 1 5 := ⟨⟨a_in 646 (by decide +kernel) rfl, a_in 69 (by decide +kernel) rfl, (by decide +kernel), by decide, rfl⟩, a_in 645 (by decide +kernel) rfl, a_in 5 (by decide +kernel) rfl, ⟨TX5, 9, rfl⟩, by decide⟩
theorem pn_X5_load : plainName mX5_load.2.1.cls = true ∧ mX5_load.1 = mX5_load.2.1.cls := ⟨by decide, rfl⟩
abbrev mX5_shortest : aY := (RX5, yX5_shortest, cX5_shortest, 5, some FieldType.int)
theorem mv_X5_shortest : a_mv mX5_shortest 1 5 := ⟨⟨a_in 653 (by decide +kernel) rfl, a_in 69 (by decide +kernel) rfl, (by decide +kernel), by decide, rfl⟩, a_in 652 (by decide +kernel) rfl, a_in 6 (by decide +kernel) rfl, ⟨TX5, 9, rfl⟩, by decide⟩
theorem pn_X5_shortest : plainName mX5_shortest.2.1.cls = true ∧ mX5_shortest.1 = mX5_shortest.2.1.cls := ⟨by decide, rfl⟩
abbrev mX5_shortestFrom : aY := (RX5, yX5_shortestFrom, cX5_shortestFrom, 6, some FieldType.int)
theorem mv_X5_shortestFrom : a_mv mX5_shortestFrom 2 5 := ⟨⟨a_in 657 (by decide +kernel) rfl, a_in 69 (by decide +kernel) rfl, (by decide +kernel), by decide, rfl⟩, a_in 656 (by decide +kernel) rfl, a_in 7 (by decide +kernel) rfl, ⟨TX5, 9, rfl⟩, by decide⟩
theorem pn_X5_shortestFrom : plainName mX5_shortestFrom.2.1.cls = true ∧ mX5_shortestFrom.1 = mX5_shortestFrom.2.1.cls := ⟨by decide, rfl⟩
abbrev mX5_part : aY := (RX5, yX5_part, cX5_part, 7, none)
theorem mv_X5_part : a_mv mX5_part 1 5 := ⟨⟨a_in 663 (by decide +kernel) rfl, a_in 69 (by decide +kernel) rfl, (by decide +kernel), by decide, rfl⟩, a_in 662 (by decide +kernel) rfl, a_in 8 (by decide +kernel) rfl, ⟨TX5, 9, rfl⟩, by decide⟩
theorem pn_X5_part : plainName mX5_part.2.1.cls = true ∧ mX5_part.1 = mX5_part.2.1.cls := ⟨by decide, rfl⟩
abbrev mX5_record : aY := (RX5, yX5_record, cX5_record, 5, none)
theorem mv_X5_record : a_mv mX5_record 2 5 := ⟨⟨a_in 667 (by decide +kernel) rfl, a_in 69 (by decide +kernel) rfl, (by decide +kernel), by decide, rfl⟩, a_in 666 (by decide +kernel) rfl, a_in 9 (by decide +kernel) rfl, ⟨TX5, 9, rfl⟩, by decide⟩
theorem pn_X5_record : plainName mX5_record.2.1.cls = true ∧ mX5_record.1 = mX5_record.2.1.cls := ⟨by decide, rfl⟩
abbrev mX5_recordRoute : aY := (RX5, yX5_recordRoute, cX5_recordRoute, 7, none)
theorem mv_X5_recordRoute : a_mv mX5_recordRoute 2 5 := ⟨⟨a_in 671 (by decide +kernel) rfl, a_in 69 (by decide +kernel) rfl, (by decide +kernel), by decide, rfl⟩, a_in 670 (by decide +kernel) rfl, a_in 10 (by decide +kernel) rfl, ⟨TX5, 9, rfl⟩, by decide⟩
theorem pn_X5_recordRoute : plainName mX5_recordRoute.2.1.cls = true ∧ mX5_recordRoute.1 = mX5_recordRoute.2.1.cls := ⟨by decide, rfl⟩
abbrev mX5_firstWith : aY := (RX5, yX5_firstWith, cX5_firstWith, 6, some FieldType.int)
theorem mv_X5_firstWith : a_mv mX5_firstWith 3 5 := ⟨⟨a_in 675 (by decide +kernel) rfl, a_in 69 (by decide +kernel) rfl, (by decide +kernel), by decide, rfl⟩, a_in 674 (by decide +kernel) rfl, a_in 11 (by decide +kernel) rfl, ⟨TX5, 9, rfl⟩, by decide⟩
theorem pn_X5_firstWith : plainName mX5_firstWith.2.1.cls = true ∧ mX5_firstWith.1 = mX5_firstWith.2.1.cls := ⟨by decide, rfl⟩
abbrev mX5_has : aY := (RX5, yX5_has, cX5_has, 2, some FieldType.boolean)
theorem ms_X5_has : a_ms mX5_has 2 := ⟨⟨a_in 649 (by decide +kernel) rfl, a_in 69 (by decide +kernel) rfl, (by decide +kernel), by decide, rfl⟩, a_in 648 (by decide +kernel) rfl⟩
theorem pn_X5_has : plainName mX5_has.2.1.cls = true ∧ mX5_has.1 = mX5_has.2.1.cls := ⟨by decide, rfl⟩
abbrev mX6_init : aY := (RX6, yX6_init, cX6_init, 1, none)
theorem mi_X6_init : a_mi mX6_init 0 := ⟨⟨a_in 330 (by decide +kernel) rfl, a_in 62 (by decide +kernel) rfl, (by decide +kernel), by decide, rfl⟩, a_in 329 (by decide +kernel) rfl, rfl, rfl⟩
theorem pn_X6_init : plainName mX6_init.2.1.cls = true ∧ mX6_init.1 = mX6_init.2.1.cls := ⟨by decide, rfl⟩
abbrev mX6_lengthen : aY := (RX6, yX6_lengthen, cX6_lengthen, 5, some FieldType.int)
theorem mv_X6_lengthen : a_mv mX6_lengthen 2 6 := ⟨⟨a_in 817 (by decide +kernel) rfl, a_in 62 (by decide +kernel) rfl, (by decide +kernel), by decide, rfl⟩, a_in 815 (by decide +kernel) rfl, a_in 816 (by decide +kernel) rfl, ⟨TX6, 6, rfl⟩, by decide⟩
theorem pn_X6_lengthen : plainName mX6_lengthen.2.1.cls = true ∧ mX6_lengthen.1 = mX6_lengthen.2.1.cls := ⟨by decide, rfl⟩
abbrev mX6_firstWrong : aY := (RX6, yX6_firstWrong, cX6_firstWrong, 2, some FieldType.int)
theorem mv_X6_firstWrong : a_mv mX6_firstWrong 0 6 := ⟨⟨a_in 825 (by decide +kernel) rfl, a_in 62 (by decide +kernel) rfl, (by decide +kernel), by decide, rfl⟩, a_in 823 (by decide +kernel) rfl, a_in 824 (by decide +kernel) rfl, ⟨TX6, 6, rfl⟩, by decide⟩
theorem pn_X6_firstWrong : plainName mX6_firstWrong.2.1.cls = true ∧ mX6_firstWrong.1 = mX6_firstWrong.2.1.cls := ⟨by decide, rfl⟩
abbrev mX6_canStand : aY := (RX6, yX6_canStand, cX6_canStand, 2, some FieldType.boolean)
theorem mv_X6_canStand : a_mv mX6_canStand 1 6 := ⟨⟨a_in 829 (by decide +kernel) rfl, a_in 62 (by decide +kernel) rfl, (by decide +kernel), by decide, rfl⟩, a_in 828 (by decide +kernel) rfl, a_in 17 (by decide +kernel) rfl, ⟨TX6, 6, rfl⟩, by decide⟩
theorem pn_X6_canStand : plainName mX6_canStand.2.1.cls = true ∧ mX6_canStand.1 = mX6_canStand.2.1.cls := ⟨by decide, rfl⟩
abbrev mX6_kindOf : aY := (RX6, yX6_kindOf, cX6_kindOf, 1, some FieldType.int)
theorem ms_X6_kindOf : a_ms mX6_kindOf 1 := ⟨⟨a_in 832 (by decide +kernel) rfl, a_in 62 (by decide +kernel) rfl, (by decide +kernel), by decide, rfl⟩, a_in 831 (by decide +kernel) rfl⟩
theorem pn_X6_kindOf : plainName mX6_kindOf.2.1.cls = true ∧ mX6_kindOf.1 = mX6_kindOf.2.1.cls := ⟨by decide, rfl⟩
abbrev mX6_adopt : aY := (RX6, yX6_adopt, cX6_adopt, 2, none)
theorem mv_X6_adopt : a_mv mX6_adopt 0 6 := ⟨⟨a_in 837 (by decide +kernel) rfl, a_in 62 (by decide +kernel) rfl, (by decide +kernel), by decide, rfl⟩, a_in 835 (by decide +kernel) rfl, a_in 836 (by decide +kernel) rfl, ⟨TX6, 6, rfl⟩, by decide⟩
theorem pn_X6_adopt : plainName mX6_adopt.2.1.cls = true ∧ mX6_adopt.1 = mX6_adopt.2.1.cls := ⟨by decide, rfl⟩
abbrev mX6_permit : aY := (RX6, yX6_permit, cX6_permit, 4, some FieldType.boolean)
theorem mv_X6_permit : a_mv mX6_permit 2 6 := ⟨⟨a_in 846 (by decide +kernel) rfl, a_in 62 (by decide +kernel) rfl, (by decide +kernel), by decide, rfl⟩, a_in 844 (by decide +kernel) rfl, a_in 845 (by decide +kernel) rfl, ⟨TX6, 6, rfl⟩, by decide⟩
theorem pn_X6_permit : plainName mX6_permit.2.1.cls = true ∧ mX6_permit.1 = mX6_permit.2.1.cls := ⟨by decide, rfl⟩
abbrev mX7_init : aY := (RX7, yX7_init, cX7_init, 1, none)
theorem mi_X7_init : a_mi mX7_init 0 := ⟨⟨a_in 133 (by decide +kernel) rfl, a_in 58 (by decide +kernel) rfl, (by decide +kernel), by decide, rfl⟩, a_in 132 (by decide +kernel) rfl, rfl, rfl⟩
theorem pn_X7_init : plainName mX7_init.2.1.cls = true ∧ mX7_init.1 = mX7_init.2.1.cls := ⟨by decide, rfl⟩
abbrev mX7_stopsIn : aY := (RX7, yX7_stopsIn, cX7_stopsIn, 2, some FieldType.int)
theorem mv_X7_stopsIn : a_mv mX7_stopsIn 1 7 := ⟨⟨a_in 703 (by decide +kernel) rfl, a_in 58 (by decide +kernel) rfl, (by decide +kernel), by decide, rfl⟩, a_in 701 (by decide +kernel) rfl, a_in 702 (by decide +kernel) rfl, ⟨TX7, 8, rfl⟩, by decide⟩
theorem pn_X7_stopsIn : plainName mX7_stopsIn.2.1.cls = true ∧ mX7_stopsIn.1 = mX7_stopsIn.2.1.cls := ⟨by decide, rfl⟩
abbrev mX8_init : aY := (RX8, yX8_init, cX8_init, 1, none)
theorem mi_X8_init : a_mi mX8_init 0 := ⟨⟨a_in 403 (by decide +kernel) rfl, a_in 65 (by decide +kernel) rfl, (by decide +kernel), by decide, rfl⟩, a_in 402 (by decide +kernel) rfl, rfl, rfl⟩
theorem pn_X8_init : plainName mX8_init.2.1.cls = true ∧ mX8_init.1 = mX8_init.2.1.cls := ⟨by decide, rfl⟩
abbrev mX8_isMissing : aY := (RX8, yX8_isMissing, cX8_isMissing, 1, some FieldType.boolean)
theorem mv_X8_isMissing : a_mv mX8_isMissing 0 8 := ⟨⟨a_in 993 (by decide +kernel) rfl, a_in 65 (by decide +kernel) rfl, (by decide +kernel), by decide, rfl⟩, a_in 991 (by decide +kernel) rfl, a_in 992 (by decide +kernel) rfl, ⟨TX8, 3, rfl⟩, by decide⟩
theorem pn_X8_isMissing : plainName mX8_isMissing.2.1.cls = true ∧ mX8_isMissing.1 = mX8_isMissing.2.1.cls := ⟨by decide, rfl⟩
abbrev mX8_lay : aY := (RX8, yX8_lay, cX8_lay, 3, some FieldType.int)
theorem mv_X8_lay : a_mv mX8_lay 2 8 := ⟨⟨a_in 984 (by decide +kernel) rfl, a_in 65 (by decide +kernel) rfl, (by decide +kernel), by decide, rfl⟩, a_in 982 (by decide +kernel) rfl, a_in 983 (by decide +kernel) rfl, ⟨TX8, 3, rfl⟩, by decide⟩
theorem pn_X8_lay : plainName mX8_lay.2.1.cls = true ∧ mX8_lay.1 = mX8_lay.2.1.cls := ⟨by decide, rfl⟩
abbrev mX8_put : aY := (RX8, yX8_put, cX8_put, 4, some FieldType.int)
theorem mv_X8_put : a_mv mX8_put 2 8 := ⟨⟨a_in 998 (by decide +kernel) rfl, a_in 65 (by decide +kernel) rfl, (by decide +kernel), by decide, rfl⟩, a_in 996 (by decide +kernel) rfl, a_in 997 (by decide +kernel) rfl, ⟨TX8, 3, rfl⟩, by decide⟩
theorem pn_X8_put : plainName mX8_put.2.1.cls = true ∧ mX8_put.1 = mX8_put.2.1.cls := ⟨by decide, rfl⟩
abbrev mX8_holds : aY := (RX8, yX8_holds, cX8_holds, 3, some FieldType.boolean)
theorem mv_X8_holds : a_mv mX8_holds 2 8 := ⟨⟨a_in 1006 (by decide +kernel) rfl, a_in 65 (by decide +kernel) rfl, (by decide +kernel), by decide, rfl⟩, a_in 1004 (by decide +kernel) rfl, a_in 1005 (by decide +kernel) rfl, ⟨TX8, 3, rfl⟩, by decide⟩
theorem pn_X8_holds : plainName mX8_holds.2.1.cls = true ∧ mX8_holds.1 = mX8_holds.2.1.cls := ⟨by decide, rfl⟩
abbrev mX8_allWithin : aY := (RX8, yX8_allWithin, cX8_allWithin, 4, some FieldType.boolean)
theorem mv_X8_allWithin : a_mv mX8_allWithin 2 8 := ⟨⟨a_in 1014 (by decide +kernel) rfl, a_in 65 (by decide +kernel) rfl, (by decide +kernel), by decide, rfl⟩, a_in 1012 (by decide +kernel) rfl, a_in 1013 (by decide +kernel) rfl, ⟨TX8, 3, rfl⟩, by decide⟩
theorem pn_X8_allWithin : plainName mX8_allWithin.2.1.cls = true ∧ mX8_allWithin.1 = mX8_allWithin.2.1.cls := ⟨by decide, rfl⟩
abbrev mX9_init : aY := (RX9, yX9_init, cX9_init, 1, none)
theorem mi_X9_init : a_mi mX9_init 0 := ⟨⟨a_in 187 (by decide +kernel) rfl, a_in 59 (by decide +kernel) rfl, (by decide +kernel), by decide, rfl⟩, a_in 186 (by decide +kernel) rfl, rfl, rfl⟩
theorem pn_X9_init : plainName mX9_init.2.1.cls = true ∧ mX9_init.1 = mX9_init.2.1.cls := ⟨by decide, rfl⟩
abbrev mX10_init : aY := (RX10, yX10_init, cX10_init, 1, none)
theorem mi_X10_init : a_mi mX10_init 0 := ⟨⟨a_in 90 (by decide +kernel) rfl, a_in 57 (by decide +kernel) rfl, (by decide +kernel), by decide, rfl⟩, a_in 89 (by decide +kernel) rfl, rfl, rfl⟩
theorem pn_X10_init : plainName mX10_init.2.1.cls = true ∧ mX10_init.1 = mX10_init.2.1.cls := ⟨by decide, rfl⟩
abbrev mX10_hasCorner : aY := (RX10, yX10_hasCorner, cX10_hasCorner, 2, some FieldType.boolean)
theorem mv_X10_hasCorner : a_mv mX10_hasCorner 1 10 := ⟨⟨a_in 472 (by decide +kernel) rfl, a_in 57 (by decide +kernel) rfl, (by decide +kernel), by decide, rfl⟩, a_in 470 (by decide +kernel) rfl, a_in 471 (by decide +kernel) rfl, ⟨TX10, 9, rfl⟩, by decide⟩
theorem pn_X10_hasCorner : plainName mX10_hasCorner.2.1.cls = true ∧ mX10_hasCorner.1 = mX10_hasCorner.2.1.cls := ⟨by decide, rfl⟩
abbrev mX10_addCorner : aY := (RX10, yX10_addCorner, cX10_addCorner, 1, some FieldType.int)
theorem mv_X10_addCorner : a_mv mX10_addCorner 0 10 := ⟨⟨a_in 464 (by decide +kernel) rfl, a_in 57 (by decide +kernel) rfl, (by decide +kernel), by decide, rfl⟩, a_in 462 (by decide +kernel) rfl, a_in 463 (by decide +kernel) rfl, ⟨TX10, 9, rfl⟩, by decide⟩
theorem pn_X10_addCorner : plainName mX10_addCorner.2.1.cls = true ∧ mX10_addCorner.1 = mX10_addCorner.2.1.cls := ⟨by decide, rfl⟩
abbrev mX10_addStreet : aY := (RX10, yX10_addStreet, cX10_addStreet, 4, some FieldType.int)
theorem mv_X10_addStreet : a_mv mX10_addStreet 3 10 := ⟨⟨a_in 485 (by decide +kernel) rfl, a_in 57 (by decide +kernel) rfl, (by decide +kernel), by decide, rfl⟩, a_in 483 (by decide +kernel) rfl, a_in 484 (by decide +kernel) rfl, ⟨TX10, 9, rfl⟩, by decide⟩
theorem pn_X10_addStreet : plainName mX10_addStreet.2.1.cls = true ∧ mX10_addStreet.1 = mX10_addStreet.2.1.cls := ⟨by decide, rfl⟩
abbrev mX10_close : aY := (RX10, yX10_close, cX10_close, 3, some FieldType.boolean)
theorem mv_X10_close : a_mv mX10_close 2 10 := ⟨⟨a_in 493 (by decide +kernel) rfl, a_in 57 (by decide +kernel) rfl, (by decide +kernel), by decide, rfl⟩, a_in 491 (by decide +kernel) rfl, a_in 492 (by decide +kernel) rfl, ⟨TX10, 9, rfl⟩, by decide⟩
theorem pn_X10_close : plainName mX10_close.2.1.cls = true ∧ mX10_close.1 = mX10_close.2.1.cls := ⟨by decide, rfl⟩
abbrev mX10_table : aY := (RX10, yX10_table, cX10_table, 1, some (FieldType.array (FieldType.array FieldType.int)))
theorem mv_X10_table : a_mv mX10_table 0 10 := ⟨⟨a_in 501 (by decide +kernel) rfl, a_in 57 (by decide +kernel) rfl, (by decide +kernel), by decide, rfl⟩, a_in 499 (by decide +kernel) rfl, a_in 500 (by decide +kernel) rfl, ⟨TX10, 9, rfl⟩, by decide⟩
theorem pn_X10_table : plainName mX10_table.2.1.cls = true ∧ mX10_table.1 = mX10_table.2.1.cls := ⟨by decide, rfl⟩
abbrev mX10_tableWith : aY := (RX10, yX10_tableWith, cX10_tableWith, 2, some (FieldType.array (FieldType.array FieldType.int)))
theorem mv_X10_tableWith : a_mv mX10_tableWith 1 10 := ⟨⟨a_in 930 (by decide +kernel) rfl, a_in 57 (by decide +kernel) rfl, (by decide +kernel), by decide, rfl⟩, a_in 928 (by decide +kernel) rfl, a_in 929 (by decide +kernel) rfl, ⟨TX10, 9, rfl⟩, by decide⟩
theorem pn_X10_tableWith : plainName mX10_tableWith.2.1.cls = true ∧ mX10_tableWith.1 = mX10_tableWith.2.1.cls := ⟨by decide, rfl⟩
abbrev mX10_measure : aY := (RX10, yX10_measure, cX10_measure, 6, none)
theorem mv_X10_measure : a_mv mX10_measure 2 10 := ⟨⟨a_in 505 (by decide +kernel) rfl, a_in 57 (by decide +kernel) rfl, (by decide +kernel), by decide, rfl⟩, a_in 504 (by decide +kernel) rfl, a_in 2 (by decide +kernel) rfl, ⟨TX10, 9, rfl⟩, by decide⟩
theorem pn_X10_measure : plainName mX10_measure.2.1.cls = true ∧ mX10_measure.1 = mX10_measure.2.1.cls := ⟨by decide, rfl⟩
abbrev mX11_init : aY := (RX11, yX11_init, cX11_init, 2, none)
theorem mi_X11_init : a_mi mX11_init 0 := ⟨⟨a_in 76 (by decide +kernel) rfl, a_in 55 (by decide +kernel) rfl, (by decide +kernel), by decide, rfl⟩, a_in 75 (by decide +kernel) rfl, rfl, rfl⟩
theorem pn_X11_init : plainName mX11_init.2.1.cls = true ∧ mX11_init.1 = mX11_init.2.1.cls := ⟨by decide, rfl⟩
abbrev mX11_corner : aY := (RX11, yX11_corner, cX11_corner, 1, some FieldType.int)
theorem mv_X11_corner : a_mv mX11_corner 0 11 := ⟨⟨a_in 455 (by decide +kernel) rfl, a_in 55 (by decide +kernel) rfl, (by decide +kernel), by decide, rfl⟩, a_in 453 (by decide +kernel) rfl, a_in 454 (by decide +kernel) rfl, ⟨TX11, 11, rfl⟩, by decide⟩
theorem pn_X11_corner : plainName mX11_corner.2.1.cls = true ∧ mX11_corner.1 = mX11_corner.2.1.cls := ⟨by decide, rfl⟩
abbrev mX11_street : aY := (RX11, yX11_street, cX11_street, 4, some FieldType.int)
theorem mv_X11_street : a_mv mX11_street 3 11 := ⟨⟨a_in 468 (by decide +kernel) rfl, a_in 55 (by decide +kernel) rfl, (by decide +kernel), by decide, rfl⟩, a_in 466 (by decide +kernel) rfl, a_in 467 (by decide +kernel) rfl, ⟨TX11, 11, rfl⟩, by decide⟩
theorem pn_X11_street : plainName mX11_street.2.1.cls = true ∧ mX11_street.1 = mX11_street.2.1.cls := ⟨by decide, rfl⟩
abbrev mX11_shut : aY := (RX11, yX11_shut, cX11_shut, 3, some FieldType.int)
theorem mv_X11_shut : a_mv mX11_shut 2 11 := ⟨⟨a_in 489 (by decide +kernel) rfl, a_in 55 (by decide +kernel) rfl, (by decide +kernel), by decide, rfl⟩, a_in 487 (by decide +kernel) rfl, a_in 488 (by decide +kernel) rfl, ⟨TX11, 11, rfl⟩, by decide⟩
theorem pn_X11_shut : plainName mX11_shut.2.1.cls = true ∧ mX11_shut.1 = mX11_shut.2.1.cls := ⟨by decide, rfl⟩
abbrev mX11_far : aY := (RX11, yX11_far, cX11_far, 4, some FieldType.int)
theorem mv_X11_far : a_mv mX11_far 2 11 := ⟨⟨a_in 497 (by decide +kernel) rfl, a_in 55 (by decide +kernel) rfl, (by decide +kernel), by decide, rfl⟩, a_in 495 (by decide +kernel) rfl, a_in 496 (by decide +kernel) rfl, ⟨TX11, 11, rfl⟩, by decide⟩
theorem pn_X11_far : plainName mX11_far.2.1.cls = true ∧ mX11_far.1 = mX11_far.2.1.cls := ⟨by decide, rfl⟩
abbrev mX11_school : aY := (RX11, yX11_school, cX11_school, 3, some FieldType.int)
theorem mv_X11_school : a_mv mX11_school 2 11 := ⟨⟨a_in 518 (by decide +kernel) rfl, a_in 55 (by decide +kernel) rfl, (by decide +kernel), by decide, rfl⟩, a_in 516 (by decide +kernel) rfl, a_in 517 (by decide +kernel) rfl, ⟨TX11, 11, rfl⟩, by decide⟩
theorem pn_X11_school : plainName mX11_school.2.1.cls = true ∧ mX11_school.1 = mX11_school.2.1.cls := ⟨by decide, rfl⟩
abbrev mX11_as : aY := (RX11, yX11_as, cX11_as, 3, some FieldType.int)
theorem mv_X11_as : a_mv mX11_as 2 11 := ⟨⟨a_in 526 (by decide +kernel) rfl, a_in 55 (by decide +kernel) rfl, (by decide +kernel), by decide, rfl⟩, a_in 524 (by decide +kernel) rfl, a_in 525 (by decide +kernel) rfl, ⟨TX11, 11, rfl⟩, by decide⟩
theorem pn_X11_as : plainName mX11_as.2.1.cls = true ∧ mX11_as.1 = mX11_as.2.1.cls := ⟨by decide, rfl⟩
abbrev mX11_of : aY := (RX11, yX11_of, cX11_of, 3, some FieldType.int)
theorem mv_X11_of : a_mv mX11_of 2 11 := ⟨⟨a_in 541 (by decide +kernel) rfl, a_in 55 (by decide +kernel) rfl, (by decide +kernel), by decide, rfl⟩, a_in 539 (by decide +kernel) rfl, a_in 540 (by decide +kernel) rfl, ⟨TX11, 11, rfl⟩, by decide⟩
theorem pn_X11_of : plainName mX11_of.2.1.cls = true ∧ mX11_of.1 = mX11_of.2.1.cls := ⟨by decide, rfl⟩
abbrev mX11_bell : aY := (RX11, yX11_bell, cX11_bell, 4, some FieldType.int)
theorem mv_X11_bell : a_mv mX11_bell 2 11 := ⟨⟨a_in 557 (by decide +kernel) rfl, a_in 55 (by decide +kernel) rfl, (by decide +kernel), by decide, rfl⟩, a_in 555 (by decide +kernel) rfl, a_in 556 (by decide +kernel) rfl, ⟨TX11, 11, rfl⟩, by decide⟩
theorem pn_X11_bell : plainName mX11_bell.2.1.cls = true ∧ mX11_bell.1 = mX11_bell.2.1.cls := ⟨by decide, rfl⟩
abbrev mX11_wish : aY := (RX11, yX11_wish, cX11_wish, 4, some FieldType.int)
theorem mv_X11_wish : a_mv mX11_wish 2 11 := ⟨⟨a_in 561 (by decide +kernel) rfl, a_in 55 (by decide +kernel) rfl, (by decide +kernel), by decide, rfl⟩, a_in 559 (by decide +kernel) rfl, a_in 560 (by decide +kernel) rfl, ⟨TX11, 11, rfl⟩, by decide⟩
theorem pn_X11_wish : plainName mX11_wish.2.1.cls = true ∧ mX11_wish.1 = mX11_wish.2.1.cls := ⟨by decide, rfl⟩
abbrev mX11_stop : aY := (RX11, yX11_stop, cX11_stop, 5, some FieldType.int)
theorem mv_X11_stop : a_mv mX11_stop 4 11 := ⟨⟨a_in 565 (by decide +kernel) rfl, a_in 55 (by decide +kernel) rfl, (by decide +kernel), by decide, rfl⟩, a_in 563 (by decide +kernel) rfl, a_in 564 (by decide +kernel) rfl, ⟨TX11, 11, rfl⟩, by decide⟩
theorem pn_X11_stop : plainName mX11_stop.2.1.cls = true ∧ mX11_stop.1 = mX11_stop.2.1.cls := ⟨by decide, rfl⟩
abbrev mX11_pupils : aY := (RX11, yX11_pupils, cX11_pupils, 4, some FieldType.int)
theorem mv_X11_pupils : a_mv mX11_pupils 2 11 := ⟨⟨a_in 573 (by decide +kernel) rfl, a_in 55 (by decide +kernel) rfl, (by decide +kernel), by decide, rfl⟩, a_in 571 (by decide +kernel) rfl, a_in 572 (by decide +kernel) rfl, ⟨TX11, 11, rfl⟩, by decide⟩
theorem pn_X11_pupils : plainName mX11_pupils.2.1.cls = true ∧ mX11_pupils.1 = mX11_pupils.2.1.cls := ⟨by decide, rfl⟩
abbrev mX11_gone : aY := (RX11, yX11_gone, cX11_gone, 2, some FieldType.int)
theorem mv_X11_gone : a_mv mX11_gone 1 11 := ⟨⟨a_in 581 (by decide +kernel) rfl, a_in 55 (by decide +kernel) rfl, (by decide +kernel), by decide, rfl⟩, a_in 579 (by decide +kernel) rfl, a_in 580 (by decide +kernel) rfl, ⟨TX11, 11, rfl⟩, by decide⟩
theorem pn_X11_gone : plainName mX11_gone.2.1.cls = true ∧ mX11_gone.1 = mX11_gone.2.1.cls := ⟨by decide, rfl⟩
abbrev mX11_terms : aY := (RX11, yX11_terms, cX11_terms, 4, some FieldType.int)
theorem mv_X11_terms : a_mv mX11_terms 3 11 := ⟨⟨a_in 589 (by decide +kernel) rfl, a_in 55 (by decide +kernel) rfl, (by decide +kernel), by decide, rfl⟩, a_in 587 (by decide +kernel) rfl, a_in 588 (by decide +kernel) rfl, ⟨TX11, 11, rfl⟩, by decide⟩
theorem pn_X11_terms : plainName mX11_terms.2.1.cls = true ∧ mX11_terms.1 = mX11_terms.2.1.cls := ⟨by decide, rfl⟩
abbrev mX11_routes : aY := (RX11, yX11_routes, cX11_routes, 3, some FieldType.int)
theorem mv_X11_routes : a_mv mX11_routes 1 11 := ⟨⟨a_in 593 (by decide +kernel) rfl, a_in 55 (by decide +kernel) rfl, (by decide +kernel), by decide, rfl⟩, a_in 591 (by decide +kernel) rfl, a_in 592 (by decide +kernel) rfl, ⟨TX11, 11, rfl⟩, by decide⟩
theorem pn_X11_routes : plainName mX11_routes.2.1.cls = true ∧ mX11_routes.1 = mX11_routes.2.1.cls := ⟨by decide, rfl⟩
abbrev mX11_route : aY := (RX11, yX11_route, cX11_route, 5, some FieldType.int)
theorem mv_X11_route : a_mv mX11_route 3 11 := ⟨⟨a_in 699 (by decide +kernel) rfl, a_in 55 (by decide +kernel) rfl, (by decide +kernel), by decide, rfl⟩, a_in 697 (by decide +kernel) rfl, a_in 698 (by decide +kernel) rfl, ⟨TX11, 11, rfl⟩, by decide⟩
theorem pn_X11_route : plainName mX11_route.2.1.cls = true ∧ mX11_route.1 = mX11_route.2.1.cls := ⟨by decide, rfl⟩
abbrev mX11_ride : aY := (RX11, yX11_ride, cX11_ride, 2, some FieldType.int)
theorem mv_X11_ride : a_mv mX11_ride 1 11 := ⟨⟨a_in 707 (by decide +kernel) rfl, a_in 55 (by decide +kernel) rfl, (by decide +kernel), by decide, rfl⟩, a_in 705 (by decide +kernel) rfl, a_in 706 (by decide +kernel) rfl, ⟨TX11, 11, rfl⟩, by decide⟩
theorem pn_X11_ride : plainName mX11_ride.2.1.cls = true ∧ mX11_ride.1 = mX11_ride.2.1.cls := ⟨by decide, rfl⟩
abbrev mX11_all : aY := (RX11, yX11_all, cX11_all, 1, some FieldType.int)
theorem mv_X11_all : a_mv mX11_all 0 11 := ⟨⟨a_in 720 (by decide +kernel) rfl, a_in 55 (by decide +kernel) rfl, (by decide +kernel), by decide, rfl⟩, a_in 718 (by decide +kernel) rfl, a_in 719 (by decide +kernel) rfl, ⟨TX11, 11, rfl⟩, by decide⟩
theorem pn_X11_all : plainName mX11_all.2.1.cls = true ∧ mX11_all.1 = mX11_all.2.1.cls := ⟨by decide, rfl⟩
abbrev mX11_start : aY := (RX11, yX11_start, cX11_start, 2, some FieldType.int)
theorem mv_X11_start : a_mv mX11_start 1 11 := ⟨⟨a_in 724 (by decide +kernel) rfl, a_in 55 (by decide +kernel) rfl, (by decide +kernel), by decide, rfl⟩, a_in 722 (by decide +kernel) rfl, a_in 723 (by decide +kernel) rfl, ⟨TX11, 11, rfl⟩, by decide⟩
theorem pn_X11_start : plainName mX11_start.2.1.cls = true ∧ mX11_start.1 = mX11_start.2.1.cls := ⟨by decide, rfl⟩
abbrev mX11_follows : aY := (RX11, yX11_follows, cX11_follows, 3, some FieldType.int)
theorem mv_X11_follows : a_mv mX11_follows 2 11 := ⟨⟨a_in 741 (by decide +kernel) rfl, a_in 55 (by decide +kernel) rfl, (by decide +kernel), by decide, rfl⟩, a_in 739 (by decide +kernel) rfl, a_in 740 (by decide +kernel) rfl, ⟨TX11, 11, rfl⟩, by decide⟩
theorem pn_X11_follows : plainName mX11_follows.2.1.cls = true ∧ mX11_follows.1 = mX11_follows.2.1.cls := ⟨by decide, rfl⟩
abbrev mX11_buses : aY := (RX11, yX11_buses, cX11_buses, 1, some FieldType.int)
theorem mv_X11_buses : a_mv mX11_buses 0 11 := ⟨⟨a_in 749 (by decide +kernel) rfl, a_in 55 (by decide +kernel) rfl, (by decide +kernel), by decide, rfl⟩, a_in 747 (by decide +kernel) rfl, a_in 748 (by decide +kernel) rfl, ⟨TX11, 11, rfl⟩, by decide⟩
theorem pn_X11_buses : plainName mX11_buses.2.1.cls = true ∧ mX11_buses.1 = mX11_buses.2.1.cls := ⟨by decide, rfl⟩
abbrev mX11_chain : aY := (RX11, yX11_chain, cX11_chain, 3, some FieldType.int)
theorem mv_X11_chain : a_mv mX11_chain 2 11 := ⟨⟨a_in 789 (by decide +kernel) rfl, a_in 55 (by decide +kernel) rfl, (by decide +kernel), by decide, rfl⟩, a_in 787 (by decide +kernel) rfl, a_in 788 (by decide +kernel) rfl, ⟨TX11, 11, rfl⟩, by decide⟩
theorem pn_X11_chain : plainName mX11_chain.2.1.cls = true ∧ mX11_chain.1 = mX11_chain.2.1.cls := ⟨by decide, rfl⟩
abbrev mX11_aides : aY := (RX11, yX11_aides, cX11_aides, 1, some FieldType.int)
theorem mv_X11_aides : a_mv mX11_aides 0 11 := ⟨⟨a_in 801 (by decide +kernel) rfl, a_in 55 (by decide +kernel) rfl, (by decide +kernel), by decide, rfl⟩, a_in 799 (by decide +kernel) rfl, a_in 800 (by decide +kernel) rfl, ⟨TX11, 11, rfl⟩, by decide⟩
theorem pn_X11_aides : plainName mX11_aides.2.1.cls = true ∧ mX11_aides.1 = mX11_aides.2.1.cls := ⟨by decide, rfl⟩
abbrev mX11_feed : aY := (RX11, yX11_feed, cX11_feed, 4, some FieldType.int)
theorem mv_X11_feed : a_mv mX11_feed 2 11 := ⟨⟨a_in 813 (by decide +kernel) rfl, a_in 55 (by decide +kernel) rfl, (by decide +kernel), by decide, rfl⟩, a_in 811 (by decide +kernel) rfl, a_in 812 (by decide +kernel) rfl, ⟨TX11, 11, rfl⟩, by decide⟩
theorem pn_X11_feed : plainName mX11_feed.2.1.cls = true ∧ mX11_feed.1 = mX11_feed.2.1.cls := ⟨by decide, rfl⟩
abbrev mX11_text : aY := (RX11, yX11_text, cX11_text, 2, some FieldType.int)
theorem mv_X11_text : a_mv mX11_text 0 11 := ⟨⟨a_in 821 (by decide +kernel) rfl, a_in 55 (by decide +kernel) rfl, (by decide +kernel), by decide, rfl⟩, a_in 819 (by decide +kernel) rfl, a_in 820 (by decide +kernel) rfl, ⟨TX11, 11, rfl⟩, by decide⟩
theorem pn_X11_text : plainName mX11_text.2.1.cls = true ∧ mX11_text.1 = mX11_text.2.1.cls := ⟨by decide, rfl⟩
abbrev mX11_allowed : aY := (RX11, yX11_allowed, cX11_allowed, 3, some FieldType.int)
theorem mv_X11_allowed : a_mv mX11_allowed 2 11 := ⟨⟨a_in 842 (by decide +kernel) rfl, a_in 55 (by decide +kernel) rfl, (by decide +kernel), by decide, rfl⟩, a_in 840 (by decide +kernel) rfl, a_in 841 (by decide +kernel) rfl, ⟨TX11, 11, rfl⟩, by decide⟩
theorem pn_X11_allowed : plainName mX11_allowed.2.1.cls = true ∧ mX11_allowed.1 = mX11_allowed.2.1.cls := ⟨by decide, rfl⟩
abbrev mX11_cost : aY := (RX11, yX11_cost, cX11_cost, 3, some FieldType.int)
theorem mv_X11_cost : a_mv mX11_cost 0 11 := ⟨⟨a_in 851 (by decide +kernel) rfl, a_in 55 (by decide +kernel) rfl, (by decide +kernel), by decide, rfl⟩, a_in 849 (by decide +kernel) rfl, a_in 850 (by decide +kernel) rfl, ⟨TX11, 11, rfl⟩, by decide⟩
theorem pn_X11_cost : plainName mX11_cost.2.1.cls = true ∧ mX11_cost.1 = mX11_cost.2.1.cls := ⟨by decide, rfl⟩
abbrev mX11_trades : aY := (RX11, yX11_trades, cX11_trades, 1, some FieldType.int)
theorem mv_X11_trades : a_mv mX11_trades 0 11 := ⟨⟨a_in 863 (by decide +kernel) rfl, a_in 55 (by decide +kernel) rfl, (by decide +kernel), by decide, rfl⟩, a_in 861 (by decide +kernel) rfl, a_in 862 (by decide +kernel) rfl, ⟨TX11, 11, rfl⟩, by decide⟩
theorem pn_X11_trades : plainName mX11_trades.2.1.cls = true ∧ mX11_trades.1 = mX11_trades.2.1.cls := ⟨by decide, rfl⟩
abbrev mX11_trade : aY := (RX11, yX11_trade, cX11_trade, 3, some FieldType.int)
theorem mv_X11_trade : a_mv mX11_trade 2 11 := ⟨⟨a_in 899 (by decide +kernel) rfl, a_in 55 (by decide +kernel) rfl, (by decide +kernel), by decide, rfl⟩, a_in 897 (by decide +kernel) rfl, a_in 898 (by decide +kernel) rfl, ⟨TX11, 11, rfl⟩, by decide⟩
theorem pn_X11_trade : plainName mX11_trade.2.1.cls = true ∧ mX11_trade.1 = mX11_trade.2.1.cls := ⟨by decide, rfl⟩
abbrev mX11_take : aY := (RX11, yX11_take, cX11_take, 2, some FieldType.int)
theorem mv_X11_take : a_mv mX11_take 1 11 := ⟨⟨a_in 915 (by decide +kernel) rfl, a_in 55 (by decide +kernel) rfl, (by decide +kernel), by decide, rfl⟩, a_in 913 (by decide +kernel) rfl, a_in 914 (by decide +kernel) rfl, ⟨TX11, 11, rfl⟩, by decide⟩
theorem pn_X11_take : plainName mX11_take.2.1.cls = true ∧ mX11_take.1 = mX11_take.2.1.cls := ⟨by decide, rfl⟩
abbrev mX11_morning : aY := (RX11, yX11_morning, cX11_morning, 4, some FieldType.int)
theorem mv_X11_morning : a_mv mX11_morning 3 11 := ⟨⟨a_in 922 (by decide +kernel) rfl, a_in 55 (by decide +kernel) rfl, (by decide +kernel), by decide, rfl⟩, a_in 920 (by decide +kernel) rfl, a_in 921 (by decide +kernel) rfl, ⟨TX11, 11, rfl⟩, by decide⟩
theorem pn_X11_morning : plainName mX11_morning.2.1.cls = true ∧ mX11_morning.1 = mX11_morning.2.1.cls := ⟨by decide, rfl⟩
abbrev mX11_comes : aY := (RX11, yX11_comes, cX11_comes, 2, some FieldType.int)
theorem mv_X11_comes : a_mv mX11_comes 1 11 := ⟨⟨a_in 953 (by decide +kernel) rfl, a_in 55 (by decide +kernel) rfl, (by decide +kernel), by decide, rfl⟩, a_in 951 (by decide +kernel) rfl, a_in 952 (by decide +kernel) rfl, ⟨TX11, 11, rfl⟩, by decide⟩
theorem pn_X11_comes : plainName mX11_comes.2.1.cls = true ∧ mX11_comes.1 = mX11_comes.2.1.cls := ⟨by decide, rfl⟩
abbrev mX11_fair : aY := (RX11, yX11_fair, cX11_fair, 3, some FieldType.int)
theorem mv_X11_fair : a_mv mX11_fair 2 11 := ⟨⟨a_in 957 (by decide +kernel) rfl, a_in 55 (by decide +kernel) rfl, (by decide +kernel), by decide, rfl⟩, a_in 955 (by decide +kernel) rfl, a_in 956 (by decide +kernel) rfl, ⟨TX11, 11, rfl⟩, by decide⟩
theorem pn_X11_fair : plainName mX11_fair.2.1.cls = true ∧ mX11_fair.1 = mX11_fair.2.1.cls := ⟨by decide, rfl⟩
abbrev mX11_sheet : aY := (RX11, yX11_sheet, cX11_sheet, 4, some FieldType.int)
theorem mv_X11_sheet : a_mv mX11_sheet 3 11 := ⟨⟨a_in 979 (by decide +kernel) rfl, a_in 55 (by decide +kernel) rfl, (by decide +kernel), by decide, rfl⟩, a_in 977 (by decide +kernel) rfl, a_in 978 (by decide +kernel) rfl, ⟨TX11, 11, rfl⟩, by decide⟩
theorem pn_X11_sheet : plainName mX11_sheet.2.1.cls = true ∧ mX11_sheet.1 = mX11_sheet.2.1.cls := ⟨by decide, rfl⟩
abbrev mX11_write : aY := (RX11, yX11_write, cX11_write, 5, some FieldType.int)
theorem mv_X11_write : a_mv mX11_write 3 11 := ⟨⟨a_in 989 (by decide +kernel) rfl, a_in 55 (by decide +kernel) rfl, (by decide +kernel), by decide, rfl⟩, a_in 987 (by decide +kernel) rfl, a_in 988 (by decide +kernel) rfl, ⟨TX11, 11, rfl⟩, by decide⟩
theorem pn_X11_write : plainName mX11_write.2.1.cls = true ∧ mX11_write.1 = mX11_write.2.1.cls := ⟨by decide, rfl⟩
abbrev mX11_copy : aY := (RX11, yX11_copy, cX11_copy, 8, some FieldType.int)
theorem mv_X11_copy : a_mv mX11_copy 5 11 := ⟨⟨a_in 1002 (by decide +kernel) rfl, a_in 55 (by decide +kernel) rfl, (by decide +kernel), by decide, rfl⟩, a_in 1000 (by decide +kernel) rfl, a_in 1001 (by decide +kernel) rfl, ⟨TX11, 11, rfl⟩, by decide⟩
theorem pn_X11_copy : plainName mX11_copy.2.1.cls = true ∧ mX11_copy.1 = mX11_copy.2.1.cls := ⟨by decide, rfl⟩
abbrev mX11_read : aY := (RX11, yX11_read, cX11_read, 5, some FieldType.int)
theorem mv_X11_read : a_mv mX11_read 2 11 := ⟨⟨a_in 1010 (by decide +kernel) rfl, a_in 55 (by decide +kernel) rfl, (by decide +kernel), by decide, rfl⟩, a_in 1008 (by decide +kernel) rfl, a_in 1009 (by decide +kernel) rfl, ⟨TX11, 11, rfl⟩, by decide⟩
theorem pn_X11_read : plainName mX11_read.2.1.cls = true ∧ mX11_read.1 = mX11_read.2.1.cls := ⟨by decide, rfl⟩
abbrev mX11_told : aY := (RX11, yX11_told, cX11_told, 2, some FieldType.int)
theorem mv_X11_told : a_mv mX11_told 1 11 := ⟨⟨a_in 1019 (by decide +kernel) rfl, a_in 55 (by decide +kernel) rfl, (by decide +kernel), by decide, rfl⟩, a_in 1017 (by decide +kernel) rfl, a_in 1018 (by decide +kernel) rfl, ⟨TX11, 11, rfl⟩, by decide⟩
theorem pn_X11_told : plainName mX11_told.2.1.cls = true ∧ mX11_told.1 = mX11_told.2.1.cls := ⟨by decide, rfl⟩
abbrev mX11_found : aY := (RX11, yX11_found, cX11_found, 2, some FieldType.int)
theorem mv_X11_found : a_mv mX11_found 1 11 := ⟨⟨a_in 460 (by decide +kernel) rfl, a_in 55 (by decide +kernel) rfl, (by decide +kernel), by decide, rfl⟩, a_in 459 (by decide +kernel) rfl, a_in 0 (by decide +kernel) rfl, ⟨TX11, 11, rfl⟩, by decide⟩
theorem pn_X11_found : plainName mX11_found.2.1.cls = true ∧ mX11_found.1 = mX11_found.2.1.cls := ⟨by decide, rfl⟩
abbrev mX11_plansFall : aY := (RX11, yX11_plansFall, cX11_plansFall, 1, none)
theorem mv_X11_plansFall : a_mv mX11_plansFall 0 11 := ⟨⟨a_in 481 (by decide +kernel) rfl, a_in 55 (by decide +kernel) rfl, (by decide +kernel), by decide, rfl⟩, a_in 480 (by decide +kernel) rfl, a_in 1 (by decide +kernel) rfl, ⟨TX11, 11, rfl⟩, by decide⟩
theorem pn_X11_plansFall : plainName mX11_plansFall.2.1.cls = true ∧ mX11_plansFall.1 = mX11_plansFall.2.1.cls := ⟨by decide, rfl⟩
abbrev mX11_drawPlans : aY := (RX11, yX11_drawPlans, cX11_drawPlans, 2, none)
theorem mv_X11_drawPlans : a_mv mX11_drawPlans 0 11 := ⟨⟨a_in 597 (by decide +kernel) rfl, a_in 55 (by decide +kernel) rfl, (by decide +kernel), by decide, rfl⟩, a_in 596 (by decide +kernel) rfl, a_in 3 (by decide +kernel) rfl, ⟨TX11, 11, rfl⟩, by decide⟩
theorem pn_X11_drawPlans : plainName mX11_drawPlans.2.1.cls = true ∧ mX11_drawPlans.1 = mX11_drawPlans.2.1.cls := ⟨by decide, rfl⟩
abbrev mX11_linkChains : aY := (RX11, yX11_linkChains, cX11_linkChains, 1, some FieldType.boolean)
theorem mv_X11_linkChains : a_mv mX11_linkChains 0 11 := ⟨⟨a_in 753 (by decide +kernel) rfl, a_in 55 (by decide +kernel) rfl, (by decide +kernel), by decide, rfl⟩, a_in 752 (by decide +kernel) rfl, a_in 12 (by decide +kernel) rfl, ⟨TX11, 11, rfl⟩, by decide⟩
theorem pn_X11_linkChains : plainName mX11_linkChains.2.1.cls = true ∧ mX11_linkChains.1 = mX11_linkChains.2.1.cls := ⟨by decide, rfl⟩
abbrev mX11_weighTrades : aY := (RX11, yX11_weighTrades, cX11_weighTrades, 1, some FieldType.boolean)
theorem mv_X11_weighTrades : a_mv mX11_weighTrades 0 11 := ⟨⟨a_in 867 (by decide +kernel) rfl, a_in 55 (by decide +kernel) rfl, (by decide +kernel), by decide, rfl⟩, a_in 866 (by decide +kernel) rfl, a_in 18 (by decide +kernel) rfl, ⟨TX11, 11, rfl⟩, by decide⟩
theorem pn_X11_weighTrades : plainName mX11_weighTrades.2.1.cls = true ∧ mX11_weighTrades.1 = mX11_weighTrades.2.1.cls := ⟨by decide, rfl⟩
abbrev mX11_within : aY := (RX11, yX11_within, cX11_within, 3, some FieldType.boolean)
theorem ms_X11_within : a_ms mX11_within 3 := ⟨⟨a_in 475 (by decide +kernel) rfl, a_in 55 (by decide +kernel) rfl, (by decide +kernel), by decide, rfl⟩, a_in 474 (by decide +kernel) rfl⟩
theorem pn_X11_within : plainName mX11_within.2.1.cls = true ∧ mX11_within.1 = mX11_within.2.1.cls := ⟨by decide, rfl⟩
abbrev mX11_isUnder : aY := (RX11, yX11_isUnder, cX11_isUnder, 4, some FieldType.boolean)
theorem ms_X11_isUnder : a_ms mX11_isUnder 2 := ⟨⟨a_in 534 (by decide +kernel) rfl, a_in 55 (by decide +kernel) rfl, (by decide +kernel), by decide, rfl⟩, a_in 533 (by decide +kernel) rfl⟩
theorem pn_X11_isUnder : plainName mX11_isUnder.2.1.cls = true ∧ mX11_isUnder.1 = mX11_isUnder.2.1.cls := ⟨by decide, rfl⟩
abbrev mX12_init : aY := (RX12, yX12_init, cX12_init, 1, none)
theorem mi_X12_init : a_mi mX12_init 0 := ⟨⟨a_in 1024 (by decide +kernel) rfl, a_in 66 (by decide +kernel) rfl, (by decide +kernel), by decide, rfl⟩, a_in 1023 (by decide +kernel) rfl, rfl, rfl⟩
theorem pn_X12_init : plainName mX12_init.2.1.cls = true ∧ mX12_init.1 = mX12_init.2.1.cls := ⟨by decide, rfl⟩
abbrev mX12_in : aY := (RX12, yX12_in, cX12_in, 3, some FieldType.boolean)
theorem ms_X12_in : a_ms mX12_in 3 := ⟨⟨a_in 1229 (by decide +kernel) rfl, a_in 66 (by decide +kernel) rfl, (by decide +kernel), by decide, rfl⟩, a_in 1228 (by decide +kernel) rfl⟩
theorem pn_X12_in : plainName mX12_in.2.1.cls = true ∧ mX12_in.1 = mX12_in.2.1.cls := ⟨by decide, rfl⟩
abbrev mX12_finds : aY := (RX12, yX12_finds, cX12_finds, 2, some FieldType.int)
theorem mv_X12_finds : a_mv mX12_finds 1 12 := ⟨⟨a_in 1218 (by decide +kernel) rfl, a_in 66 (by decide +kernel) rfl, (by decide +kernel), by decide, rfl⟩, a_in 1217 (by decide +kernel) rfl, a_in 24 (by decide +kernel) rfl, ⟨TX12, 61, rfl⟩, by decide⟩
theorem pn_X12_finds : plainName mX12_finds.2.1.cls = true ∧ mX12_finds.1 = mX12_finds.2.1.cls := ⟨by decide, rfl⟩
abbrev mX12_isCorner : aY := (RX12, yX12_isCorner, cX12_isCorner, 2, some FieldType.boolean)
theorem mv_X12_isCorner : a_mv mX12_isCorner 1 12 := ⟨⟨a_in 1226 (by decide +kernel) rfl, a_in 66 (by decide +kernel) rfl, (by decide +kernel), by decide, rfl⟩, a_in 1225 (by decide +kernel) rfl, a_in 25 (by decide +kernel) rfl, ⟨TX12, 61, rfl⟩, by decide⟩
theorem pn_X12_isCorner : plainName mX12_isCorner.2.1.cls = true ∧ mX12_isCorner.1 = mX12_isCorner.2.1.cls := ⟨by decide, rfl⟩
abbrev mX12_isSchool : aY := (RX12, yX12_isSchool, cX12_isSchool, 2, some FieldType.boolean)
theorem mv_X12_isSchool : a_mv mX12_isSchool 1 12 := ⟨⟨a_in 1260 (by decide +kernel) rfl, a_in 66 (by decide +kernel) rfl, (by decide +kernel), by decide, rfl⟩, a_in 1259 (by decide +kernel) rfl, a_in 28 (by decide +kernel) rfl, ⟨TX12, 61, rfl⟩, by decide⟩
theorem pn_X12_isSchool : plainName mX12_isSchool.2.1.cls = true ∧ mX12_isSchool.1 = mX12_isSchool.2.1.cls := ⟨by decide, rfl⟩
abbrev mX12_isStop : aY := (RX12, yX12_isStop, cX12_isStop, 2, some FieldType.boolean)
theorem mv_X12_isStop : a_mv mX12_isStop 1 12 := ⟨⟨a_in 1306 (by decide +kernel) rfl, a_in 66 (by decide +kernel) rfl, (by decide +kernel), by decide, rfl⟩, a_in 1305 (by decide +kernel) rfl, a_in 32 (by decide +kernel) rfl, ⟨TX12, 61, rfl⟩, by decide⟩
theorem pn_X12_isStop : plainName mX12_isStop.2.1.cls = true ∧ mX12_isStop.1 = mX12_isStop.2.1.cls := ⟨by decide, rfl⟩
abbrev mX12_has : aY := (RX12, yX12_has, cX12_has, 2, some FieldType.boolean)
theorem ms_X12_has : a_ms mX12_has 2 := ⟨⟨a_in 1282 (by decide +kernel) rfl, a_in 66 (by decide +kernel) rfl, (by decide +kernel), by decide, rfl⟩, a_in 1281 (by decide +kernel) rfl⟩
theorem pn_X12_has : plainName mX12_has.2.1.cls = true ∧ mX12_has.1 = mX12_has.2.1.cls := ⟨by decide, rfl⟩
abbrev mX12_another : aY := (RX12, yX12_another, cX12_another, 1, none)
theorem mv_X12_another : a_mv mX12_another 0 12 := ⟨⟨a_in 1234 (by decide +kernel) rfl, a_in 66 (by decide +kernel) rfl, (by decide +kernel), by decide, rfl⟩, a_in 1233 (by decide +kernel) rfl, a_in 26 (by decide +kernel) rfl, ⟨TX12, 61, rfl⟩, by decide⟩
theorem pn_X12_another : plainName mX12_another.2.1.cls = true ∧ mX12_another.1 = mX12_another.2.1.cls := ⟨by decide, rfl⟩
abbrev mX12_corner : aY := (RX12, yX12_corner, cX12_corner, 1, some FieldType.int)
theorem mv_X12_corner : a_mv mX12_corner 0 12 := ⟨⟨a_in 1213 (by decide +kernel) rfl, a_in 66 (by decide +kernel) rfl, (by decide +kernel), by decide, rfl⟩, a_in 1211 (by decide +kernel) rfl, a_in 1212 (by decide +kernel) rfl, ⟨TX12, 61, rfl⟩, by decide⟩
theorem pn_X12_corner : plainName mX12_corner.2.1.cls = true ∧ mX12_corner.1 = mX12_corner.2.1.cls := ⟨by decide, rfl⟩
abbrev mX12_street : aY := (RX12, yX12_street, cX12_street, 4, some FieldType.int)
theorem mv_X12_street : a_mv mX12_street 3 12 := ⟨⟨a_in 1222 (by decide +kernel) rfl, a_in 66 (by decide +kernel) rfl, (by decide +kernel), by decide, rfl⟩, a_in 1220 (by decide +kernel) rfl, a_in 1221 (by decide +kernel) rfl, ⟨TX12, 61, rfl⟩, by decide⟩
theorem pn_X12_street : plainName mX12_street.2.1.cls = true ∧ mX12_street.1 = mX12_street.2.1.cls := ⟨by decide, rfl⟩
abbrev mX12_shut : aY := (RX12, yX12_shut, cX12_shut, 4, some FieldType.int)
theorem mv_X12_shut : a_mv mX12_shut 2 12 := ⟨⟨a_in 1238 (by decide +kernel) rfl, a_in 66 (by decide +kernel) rfl, (by decide +kernel), by decide, rfl⟩, a_in 1236 (by decide +kernel) rfl, a_in 1237 (by decide +kernel) rfl, ⟨TX12, 61, rfl⟩, by decide⟩
theorem pn_X12_shut : plainName mX12_shut.2.1.cls = true ∧ mX12_shut.1 = mX12_shut.2.1.cls := ⟨by decide, rfl⟩
abbrev mX12_findFars : aY := (RX12, yX12_findFars, cX12_findFars, 6, none)
theorem mv_X12_findFars : a_mv mX12_findFars 1 12 := ⟨⟨a_in 1246 (by decide +kernel) rfl, a_in 66 (by decide +kernel) rfl, (by decide +kernel), by decide, rfl⟩, a_in 1245 (by decide +kernel) rfl, a_in 27 (by decide +kernel) rfl, ⟨TX12, 61, rfl⟩, by decide⟩
theorem pn_X12_findFars : plainName mX12_findFars.2.1.cls = true ∧ mX12_findFars.1 = mX12_findFars.2.1.cls := ⟨by decide, rfl⟩
abbrev mX12_far : aY := (RX12, yX12_far, cX12_far, 4, some FieldType.int)
theorem mv_X12_far : a_mv mX12_far 2 12 := ⟨⟨a_in 1242 (by decide +kernel) rfl, a_in 66 (by decide +kernel) rfl, (by decide +kernel), by decide, rfl⟩, a_in 1240 (by decide +kernel) rfl, a_in 1241 (by decide +kernel) rfl, ⟨TX12, 61, rfl⟩, by decide⟩
theorem pn_X12_far : plainName mX12_far.2.1.cls = true ∧ mX12_far.1 = mX12_far.2.1.cls := ⟨by decide, rfl⟩
abbrev mX12_school : aY := (RX12, yX12_school, cX12_school, 3, some FieldType.int)
theorem mv_X12_school : a_mv mX12_school 2 12 := ⟨⟨a_in 1252 (by decide +kernel) rfl, a_in 66 (by decide +kernel) rfl, (by decide +kernel), by decide, rfl⟩, a_in 1250 (by decide +kernel) rfl, a_in 1251 (by decide +kernel) rfl, ⟨TX12, 61, rfl⟩, by decide⟩
theorem pn_X12_school : plainName mX12_school.2.1.cls = true ∧ mX12_school.1 = mX12_school.2.1.cls := ⟨by decide, rfl⟩
abbrev mX12_isOf : aY := (RX12, yX12_isOf, cX12_isOf, 2, some FieldType.boolean)
theorem ms_X12_isOf : a_ms mX12_isOf 2 := ⟨⟨a_in 1263 (by decide +kernel) rfl, a_in 66 (by decide +kernel) rfl, (by decide +kernel), by decide, rfl⟩, a_in 1262 (by decide +kernel) rfl⟩
theorem pn_X12_isOf : plainName mX12_isOf.2.1.cls = true ∧ mX12_isOf.1 = mX12_isOf.2.1.cls := ⟨by decide, rfl⟩
abbrev mX12_as : aY := (RX12, yX12_as, cX12_as, 3, some FieldType.int)
theorem mv_X12_as : a_mv mX12_as 2 12 := ⟨⟨a_in 1256 (by decide +kernel) rfl, a_in 66 (by decide +kernel) rfl, (by decide +kernel), by decide, rfl⟩, a_in 1254 (by decide +kernel) rfl, a_in 1255 (by decide +kernel) rfl, ⟨TX12, 61, rfl⟩, by decide⟩
theorem pn_X12_as : plainName mX12_as.2.1.cls = true ∧ mX12_as.1 = mX12_as.2.1.cls := ⟨by decide, rfl⟩
abbrev mX12_stopsOf : aY := (RX12, yX12_stopsOf, cX12_stopsOf, 4, some FieldType.int)
theorem mv_X12_stopsOf : a_mv mX12_stopsOf 1 12 := ⟨⟨a_in 1272 (by decide +kernel) rfl, a_in 66 (by decide +kernel) rfl, (by decide +kernel), by decide, rfl⟩, a_in 1271 (by decide +kernel) rfl, a_in 29 (by decide +kernel) rfl, ⟨TX12, 61, rfl⟩, by decide⟩
theorem pn_X12_stopsOf : plainName mX12_stopsOf.2.1.cls = true ∧ mX12_stopsOf.1 = mX12_stopsOf.2.1.cls := ⟨by decide, rfl⟩
abbrev mX12_ones : aY := (RX12, yX12_ones, cX12_ones, 3, some FieldType.int)
theorem ms_X12_ones : a_ms mX12_ones 1 := ⟨⟨a_in 1275 (by decide +kernel) rfl, a_in 66 (by decide +kernel) rfl, (by decide +kernel), by decide, rfl⟩, a_in 1274 (by decide +kernel) rfl⟩
theorem pn_X12_ones : plainName mX12_ones.2.1.cls = true ∧ mX12_ones.1 = mX12_ones.2.1.cls := ⟨by decide, rfl⟩
abbrev mX12_pupilsOf : aY := (RX12, yX12_pupilsOf, cX12_pupilsOf, 4, some FieldType.int)
theorem mv_X12_pupilsOf : a_mv mX12_pupilsOf 1 12 := ⟨⟨a_in 1279 (by decide +kernel) rfl, a_in 66 (by decide +kernel) rfl, (by decide +kernel), by decide, rfl⟩, a_in 1278 (by decide +kernel) rfl, a_in 30 (by decide +kernel) rfl, ⟨TX12, 61, rfl⟩, by decide⟩
theorem pn_X12_pupilsOf : plainName mX12_pupilsOf.2.1.cls = true ∧ mX12_pupilsOf.1 = mX12_pupilsOf.2.1.cls := ⟨by decide, rfl⟩
abbrev mX12_mayTake : aY := (RX12, yX12_mayTake, cX12_mayTake, 2, some FieldType.int)
theorem mv_X12_mayTake : a_mv mX12_mayTake 1 12 := ⟨⟨a_in 1286 (by decide +kernel) rfl, a_in 66 (by decide +kernel) rfl, (by decide +kernel), by decide, rfl⟩, a_in 1285 (by decide +kernel) rfl, a_in 31 (by decide +kernel) rfl, ⟨TX12, 61, rfl⟩, by decide⟩
theorem pn_X12_mayTake : plainName mX12_mayTake.2.1.cls = true ∧ mX12_mayTake.1 = mX12_mayTake.2.1.cls := ⟨by decide, rfl⟩
abbrev mX12_of : aY := (RX12, yX12_of, cX12_of, 3, some FieldType.int)
theorem mv_X12_of : a_mv mX12_of 2 12 := ⟨⟨a_in 1268 (by decide +kernel) rfl, a_in 66 (by decide +kernel) rfl, (by decide +kernel), by decide, rfl⟩, a_in 1266 (by decide +kernel) rfl, a_in 1267 (by decide +kernel) rfl, ⟨TX12, 61, rfl⟩, by decide⟩
theorem pn_X12_of : plainName mX12_of.2.1.cls = true ∧ mX12_of.1 = mX12_of.2.1.cls := ⟨by decide, rfl⟩
abbrev mX12_bell : aY := (RX12, yX12_bell, cX12_bell, 4, some FieldType.int)
theorem mv_X12_bell : a_mv mX12_bell 2 12 := ⟨⟨a_in 1290 (by decide +kernel) rfl, a_in 66 (by decide +kernel) rfl, (by decide +kernel), by decide, rfl⟩, a_in 1288 (by decide +kernel) rfl, a_in 1289 (by decide +kernel) rfl, ⟨TX12, 61, rfl⟩, by decide⟩
theorem pn_X12_bell : plainName mX12_bell.2.1.cls = true ∧ mX12_bell.1 = mX12_bell.2.1.cls := ⟨by decide, rfl⟩
abbrev mX12_wish : aY := (RX12, yX12_wish, cX12_wish, 4, some FieldType.int)
theorem mv_X12_wish : a_mv mX12_wish 2 12 := ⟨⟨a_in 1294 (by decide +kernel) rfl, a_in 66 (by decide +kernel) rfl, (by decide +kernel), by decide, rfl⟩, a_in 1292 (by decide +kernel) rfl, a_in 1293 (by decide +kernel) rfl, ⟨TX12, 61, rfl⟩, by decide⟩
theorem pn_X12_wish : plainName mX12_wish.2.1.cls = true ∧ mX12_wish.1 = mX12_wish.2.1.cls := ⟨by decide, rfl⟩
abbrev mX12_stop : aY := (RX12, yX12_stop, cX12_stop, 5, some FieldType.int)
theorem mv_X12_stop : a_mv mX12_stop 4 12 := ⟨⟨a_in 1298 (by decide +kernel) rfl, a_in 66 (by decide +kernel) rfl, (by decide +kernel), by decide, rfl⟩, a_in 1296 (by decide +kernel) rfl, a_in 1297 (by decide +kernel) rfl, ⟨TX12, 61, rfl⟩, by decide⟩
theorem pn_X12_stop : plainName mX12_stop.2.1.cls = true ∧ mX12_stop.1 = mX12_stop.2.1.cls := ⟨by decide, rfl⟩
abbrev mX12_pupils : aY := (RX12, yX12_pupils, cX12_pupils, 4, some FieldType.int)
theorem mv_X12_pupils : a_mv mX12_pupils 2 12 := ⟨⟨a_in 1302 (by decide +kernel) rfl, a_in 66 (by decide +kernel) rfl, (by decide +kernel), by decide, rfl⟩, a_in 1300 (by decide +kernel) rfl, a_in 1301 (by decide +kernel) rfl, ⟨TX12, 61, rfl⟩, by decide⟩
theorem pn_X12_pupils : plainName mX12_pupils.2.1.cls = true ∧ mX12_pupils.1 = mX12_pupils.2.1.cls := ⟨by decide, rfl⟩
abbrev mX12_gone : aY := (RX12, yX12_gone, cX12_gone, 3, some FieldType.int)
theorem mv_X12_gone : a_mv mX12_gone 1 12 := ⟨⟨a_in 1310 (by decide +kernel) rfl, a_in 66 (by decide +kernel) rfl, (by decide +kernel), by decide, rfl⟩, a_in 1308 (by decide +kernel) rfl, a_in 1309 (by decide +kernel) rfl, ⟨TX12, 61, rfl⟩, by decide⟩
theorem pn_X12_gone : plainName mX12_gone.2.1.cls = true ∧ mX12_gone.1 = mX12_gone.2.1.cls := ⟨by decide, rfl⟩
abbrev mX12_terms : aY := (RX12, yX12_terms, cX12_terms, 4, some FieldType.int)
theorem mv_X12_terms : a_mv mX12_terms 3 12 := ⟨⟨a_in 1314 (by decide +kernel) rfl, a_in 66 (by decide +kernel) rfl, (by decide +kernel), by decide, rfl⟩, a_in 1312 (by decide +kernel) rfl, a_in 1313 (by decide +kernel) rfl, ⟨TX12, 61, rfl⟩, by decide⟩
theorem pn_X12_terms : plainName mX12_terms.2.1.cls = true ∧ mX12_terms.1 = mX12_terms.2.1.cls := ⟨by decide, rfl⟩
abbrev mX12_lengths : aY := (RX12, yX12_lengths, cX12_lengths, 8, none)
theorem mv_X12_lengths : a_mv mX12_lengths 2 12 := ⟨⟨a_in 1326 (by decide +kernel) rfl, a_in 66 (by decide +kernel) rfl, (by decide +kernel), by decide, rfl⟩, a_in 1325 (by decide +kernel) rfl, a_in 34 (by decide +kernel) rfl, ⟨TX12, 61, rfl⟩, by decide⟩
theorem pn_X12_lengths : plainName mX12_lengths.2.1.cls = true ∧ mX12_lengths.1 = mX12_lengths.2.1.cls := ⟨by decide, rfl⟩
abbrev mX12_isRoute : aY := (RX12, yX12_isRoute, cX12_isRoute, 3, some FieldType.boolean)
theorem mv_X12_isRoute : a_mv mX12_isRoute 2 12 := ⟨⟨a_in 1334 (by decide +kernel) rfl, a_in 66 (by decide +kernel) rfl, (by decide +kernel), by decide, rfl⟩, a_in 1333 (by decide +kernel) rfl, a_in 36 (by decide +kernel) rfl, ⟨TX12, 61, rfl⟩, by decide⟩
theorem pn_X12_isRoute : plainName mX12_isRoute.2.1.cls = true ∧ mX12_isRoute.1 = mX12_isRoute.2.1.cls := ⟨by decide, rfl⟩
abbrev mX12_part : aY := (RX12, yX12_part, cX12_part, 8, none)
theorem mv_X12_part : a_mv mX12_part 2 12 := ⟨⟨a_in 1330 (by decide +kernel) rfl, a_in 66 (by decide +kernel) rfl, (by decide +kernel), by decide, rfl⟩, a_in 1329 (by decide +kernel) rfl, a_in 35 (by decide +kernel) rfl, ⟨TX12, 61, rfl⟩, by decide⟩
theorem pn_X12_part : plainName mX12_part.2.1.cls = true ∧ mX12_part.1 = mX12_part.2.1.cls := ⟨by decide, rfl⟩
abbrev mX12_plan : aY := (RX12, yX12_plan, cX12_plan, 4, none)
theorem mv_X12_plan : a_mv mX12_plan 0 12 := ⟨⟨a_in 1322 (by decide +kernel) rfl, a_in 66 (by decide +kernel) rfl, (by decide +kernel), by decide, rfl⟩, a_in 1321 (by decide +kernel) rfl, a_in 33 (by decide +kernel) rfl, ⟨TX12, 61, rfl⟩, by decide⟩
theorem pn_X12_plan : plainName mX12_plan.2.1.cls = true ∧ mX12_plan.1 = mX12_plan.2.1.cls := ⟨by decide, rfl⟩
abbrev mX12_nextStop : aY := (RX12, yX12_nextStop, cX12_nextStop, 7, some FieldType.int)
theorem mv_X12_nextStop : a_mv mX12_nextStop 2 12 := ⟨⟨a_in 1346 (by decide +kernel) rfl, a_in 66 (by decide +kernel) rfl, (by decide +kernel), by decide, rfl⟩, a_in 1345 (by decide +kernel) rfl, a_in 38 (by decide +kernel) rfl, ⟨TX12, 61, rfl⟩, by decide⟩
theorem pn_X12_nextStop : plainName mX12_nextStop.2.1.cls = true ∧ mX12_nextStop.1 = mX12_nextStop.2.1.cls := ⟨by decide, rfl⟩
abbrev mX12_routes : aY := (RX12, yX12_routes, cX12_routes, 2, some FieldType.int)
theorem mv_X12_routes : a_mv mX12_routes 1 12 := ⟨⟨a_in 1318 (by decide +kernel) rfl, a_in 66 (by decide +kernel) rfl, (by decide +kernel), by decide, rfl⟩, a_in 1316 (by decide +kernel) rfl, a_in 1317 (by decide +kernel) rfl, ⟨TX12, 61, rfl⟩, by decide⟩
theorem pn_X12_routes : plainName mX12_routes.2.1.cls = true ∧ mX12_routes.1 = mX12_routes.2.1.cls := ⟨by decide, rfl⟩
abbrev mX12_stopOf : aY := (RX12, yX12_stopOf, cX12_stopOf, 6, some FieldType.int)
theorem mv_X12_stopOf : a_mv mX12_stopOf 2 12 := ⟨⟨a_in 1342 (by decide +kernel) rfl, a_in 66 (by decide +kernel) rfl, (by decide +kernel), by decide, rfl⟩, a_in 1341 (by decide +kernel) rfl, a_in 37 (by decide +kernel) rfl, ⟨TX12, 61, rfl⟩, by decide⟩
theorem pn_X12_stopOf : plainName mX12_stopOf.2.1.cls = true ∧ mX12_stopOf.1 = mX12_stopOf.2.1.cls := ⟨by decide, rfl⟩
abbrev mX12_route : aY := (RX12, yX12_route, cX12_route, 5, some FieldType.int)
theorem mv_X12_route : a_mv mX12_route 3 12 := ⟨⟨a_in 1338 (by decide +kernel) rfl, a_in 66 (by decide +kernel) rfl, (by decide +kernel), by decide, rfl⟩, a_in 1336 (by decide +kernel) rfl, a_in 1337 (by decide +kernel) rfl, ⟨TX12, 61, rfl⟩, by decide⟩
theorem pn_X12_route : plainName mX12_route.2.1.cls = true ∧ mX12_route.1 = mX12_route.2.1.cls := ⟨by decide, rfl⟩
abbrev mX12_rideOf : aY := (RX12, yX12_rideOf, cX12_rideOf, 5, some FieldType.int)
theorem mv_X12_rideOf : a_mv mX12_rideOf 1 12 := ⟨⟨a_in 1354 (by decide +kernel) rfl, a_in 66 (by decide +kernel) rfl, (by decide +kernel), by decide, rfl⟩, a_in 1353 (by decide +kernel) rfl, a_in 39 (by decide +kernel) rfl, ⟨TX12, 61, rfl⟩, by decide⟩
theorem pn_X12_rideOf : plainName mX12_rideOf.2.1.cls = true ∧ mX12_rideOf.1 = mX12_rideOf.2.1.cls := ⟨by decide, rfl⟩
abbrev mX12_ride : aY := (RX12, yX12_ride, cX12_ride, 2, some FieldType.int)
theorem mv_X12_ride : a_mv mX12_ride 1 12 := ⟨⟨a_in 1350 (by decide +kernel) rfl, a_in 66 (by decide +kernel) rfl, (by decide +kernel), by decide, rfl⟩, a_in 1348 (by decide +kernel) rfl, a_in 1349 (by decide +kernel) rfl, ⟨TX12, 61, rfl⟩, by decide⟩
theorem pn_X12_ride : plainName mX12_ride.2.1.cls = true ∧ mX12_ride.1 = mX12_ride.2.1.cls := ⟨by decide, rfl⟩
abbrev mX12_all : aY := (RX12, yX12_all, cX12_all, 1, some FieldType.int)
theorem mv_X12_all : a_mv mX12_all 0 12 := ⟨⟨a_in 1358 (by decide +kernel) rfl, a_in 66 (by decide +kernel) rfl, (by decide +kernel), by decide, rfl⟩, a_in 1356 (by decide +kernel) rfl, a_in 1357 (by decide +kernel) rfl, ⟨TX12, 61, rfl⟩, by decide⟩
theorem pn_X12_all : plainName mX12_all.2.1.cls = true ∧ mX12_all.1 = mX12_all.2.1.cls := ⟨by decide, rfl⟩
abbrev mX12_rings : aY := (RX12, yX12_rings, cX12_rings, 1, some FieldType.int)
theorem ms_X12_rings : a_ms mX12_rings 1 := ⟨⟨a_in 1373 (by decide +kernel) rfl, a_in 66 (by decide +kernel) rfl, (by decide +kernel), by decide, rfl⟩, a_in 1372 (by decide +kernel) rfl⟩
theorem pn_X12_rings : plainName mX12_rings.2.1.cls = true ∧ mX12_rings.1 = mX12_rings.2.1.cls := ⟨by decide, rfl⟩
abbrev mX12_asTheyAre : aY := (RX12, yX12_asTheyAre, cX12_asTheyAre, 2, none)
theorem mv_X12_asTheyAre : a_mv mX12_asTheyAre 0 12 := ⟨⟨a_in 1366 (by decide +kernel) rfl, a_in 66 (by decide +kernel) rfl, (by decide +kernel), by decide, rfl⟩, a_in 1365 (by decide +kernel) rfl, a_in 40 (by decide +kernel) rfl, ⟨TX12, 61, rfl⟩, by decide⟩
theorem pn_X12_asTheyAre : plainName mX12_asTheyAre.2.1.cls = true ∧ mX12_asTheyAre.1 = mX12_asTheyAre.2.1.cls := ⟨by decide, rfl⟩
abbrev mX12_startOf : aY := (RX12, yX12_startOf, cX12_startOf, 2, some FieldType.int)
theorem mv_X12_startOf : a_mv mX12_startOf 1 12 := ⟨⟨a_in 1370 (by decide +kernel) rfl, a_in 66 (by decide +kernel) rfl, (by decide +kernel), by decide, rfl⟩, a_in 1369 (by decide +kernel) rfl, a_in 41 (by decide +kernel) rfl, ⟨TX12, 61, rfl⟩, by decide⟩
theorem pn_X12_startOf : plainName mX12_startOf.2.1.cls = true ∧ mX12_startOf.1 = mX12_startOf.2.1.cls := ⟨by decide, rfl⟩
abbrev mX12_canFollow : aY := (RX12, yX12_canFollow, cX12_canFollow, 4, some FieldType.boolean)
theorem mv_X12_canFollow : a_mv mX12_canFollow 2 12 := ⟨⟨a_in 1381 (by decide +kernel) rfl, a_in 66 (by decide +kernel) rfl, (by decide +kernel), by decide, rfl⟩, a_in 1380 (by decide +kernel) rfl, a_in 42 (by decide +kernel) rfl, ⟨TX12, 61, rfl⟩, by decide⟩
theorem pn_X12_canFollow : plainName mX12_canFollow.2.1.cls = true ∧ mX12_canFollow.1 = mX12_canFollow.2.1.cls := ⟨by decide, rfl⟩
abbrev mX12_start : aY := (RX12, yX12_start, cX12_start, 2, some FieldType.int)
theorem mv_X12_start : a_mv mX12_start 1 12 := ⟨⟨a_in 1362 (by decide +kernel) rfl, a_in 66 (by decide +kernel) rfl, (by decide +kernel), by decide, rfl⟩, a_in 1360 (by decide +kernel) rfl, a_in 1361 (by decide +kernel) rfl, ⟨TX12, 61, rfl⟩, by decide⟩
theorem pn_X12_start : plainName mX12_start.2.1.cls = true ∧ mX12_start.1 = mX12_start.2.1.cls := ⟨by decide, rfl⟩
abbrev mX12_follows : aY := (RX12, yX12_follows, cX12_follows, 3, some FieldType.int)
theorem mv_X12_follows : a_mv mX12_follows 2 12 := ⟨⟨a_in 1377 (by decide +kernel) rfl, a_in 66 (by decide +kernel) rfl, (by decide +kernel), by decide, rfl⟩, a_in 1375 (by decide +kernel) rfl, a_in 1376 (by decide +kernel) rfl, ⟨TX12, 61, rfl⟩, by decide⟩
theorem pn_X12_follows : plainName mX12_follows.2.1.cls = true ∧ mX12_follows.1 = mX12_follows.2.1.cls := ⟨by decide, rfl⟩
abbrev mX12_findMay : aY := (RX12, yX12_findMay, cX12_findMay, 3, none)
theorem mv_X12_findMay : a_mv mX12_findMay 0 12 := ⟨⟨a_in 1393 (by decide +kernel) rfl, a_in 66 (by decide +kernel) rfl, (by decide +kernel), by decide, rfl⟩, a_in 1392 (by decide +kernel) rfl, a_in 44 (by decide +kernel) rfl, ⟨TX12, 61, rfl⟩, by decide⟩
theorem pn_X12_findMay : plainName mX12_findMay.2.1.cls = true ∧ mX12_findMay.1 = mX12_findMay.2.1.cls := ⟨by decide, rfl⟩
abbrev mX12_findChains : aY := (RX12, yX12_findChains, cX12_findChains, 6, none)
theorem mv_X12_findChains : a_mv mX12_findChains 0 12 := ⟨⟨a_in 1389 (by decide +kernel) rfl, a_in 66 (by decide +kernel) rfl, (by decide +kernel), by decide, rfl⟩, a_in 1388 (by decide +kernel) rfl, a_in 43 (by decide +kernel) rfl, ⟨TX12, 61, rfl⟩, by decide⟩
theorem pn_X12_findChains : plainName mX12_findChains.2.1.cls = true ∧ mX12_findChains.1 = mX12_findChains.2.1.cls := ⟨by decide, rfl⟩
abbrev mX12_buses : aY := (RX12, yX12_buses, cX12_buses, 1, some FieldType.int)
theorem mv_X12_buses : a_mv mX12_buses 0 12 := ⟨⟨a_in 1385 (by decide +kernel) rfl, a_in 66 (by decide +kernel) rfl, (by decide +kernel), by decide, rfl⟩, a_in 1383 (by decide +kernel) rfl, a_in 1384 (by decide +kernel) rfl, ⟨TX12, 61, rfl⟩, by decide⟩
theorem pn_X12_buses : plainName mX12_buses.2.1.cls = true ∧ mX12_buses.1 = mX12_buses.2.1.cls := ⟨by decide, rfl⟩
abbrev mX12_isFirst : aY := (RX12, yX12_isFirst, cX12_isFirst, 3, some FieldType.boolean)
theorem mv_X12_isFirst : a_mv mX12_isFirst 1 12 := ⟨⟨a_in 1401 (by decide +kernel) rfl, a_in 66 (by decide +kernel) rfl, (by decide +kernel), by decide, rfl⟩, a_in 1400 (by decide +kernel) rfl, a_in 45 (by decide +kernel) rfl, ⟨TX12, 61, rfl⟩, by decide⟩
theorem pn_X12_isFirst : plainName mX12_isFirst.2.1.cls = true ∧ mX12_isFirst.1 = mX12_isFirst.2.1.cls := ⟨by decide, rfl⟩
abbrev mX12_chain : aY := (RX12, yX12_chain, cX12_chain, 7, some FieldType.int)
theorem mv_X12_chain : a_mv mX12_chain 2 12 := ⟨⟨a_in 1397 (by decide +kernel) rfl, a_in 66 (by decide +kernel) rfl, (by decide +kernel), by decide, rfl⟩, a_in 1395 (by decide +kernel) rfl, a_in 1396 (by decide +kernel) rfl, ⟨TX12, 61, rfl⟩, by decide⟩
theorem pn_X12_chain : plainName mX12_chain.2.1.cls = true ∧ mX12_chain.1 = mX12_chain.2.1.cls := ⟨by decide, rfl⟩
abbrev mX12_aides : aY := (RX12, yX12_aides, cX12_aides, 5, some FieldType.int)
theorem mv_X12_aides : a_mv mX12_aides 0 12 := ⟨⟨a_in 1405 (by decide +kernel) rfl, a_in 66 (by decide +kernel) rfl, (by decide +kernel), by decide, rfl⟩, a_in 1403 (by decide +kernel) rfl, a_in 1404 (by decide +kernel) rfl, ⟨TX12, 61, rfl⟩, by decide⟩
theorem pn_X12_aides : plainName mX12_aides.2.1.cls = true ∧ mX12_aides.1 = mX12_aides.2.1.cls := ⟨by decide, rfl⟩
abbrev mX12_feed : aY := (RX12, yX12_feed, cX12_feed, 5, some FieldType.int)
theorem mv_X12_feed : a_mv mX12_feed 2 12 := ⟨⟨a_in 1409 (by decide +kernel) rfl, a_in 66 (by decide +kernel) rfl, (by decide +kernel), by decide, rfl⟩, a_in 1407 (by decide +kernel) rfl, a_in 1408 (by decide +kernel) rfl, ⟨TX12, 61, rfl⟩, by decide⟩
theorem pn_X12_feed : plainName mX12_feed.2.1.cls = true ∧ mX12_feed.1 = mX12_feed.2.1.cls := ⟨by decide, rfl⟩
abbrev mX12_letterOf : aY := (RX12, yX12_letterOf, cX12_letterOf, 1, some FieldType.int)
theorem ms_X12_letterOf : a_ms mX12_letterOf 1 := ⟨⟨a_in 1421 (by decide +kernel) rfl, a_in 66 (by decide +kernel) rfl, (by decide +kernel), by decide, rfl⟩, a_in 1420 (by decide +kernel) rfl⟩
theorem pn_X12_letterOf : plainName mX12_letterOf.2.1.cls = true ∧ mX12_letterOf.1 = mX12_letterOf.2.1.cls := ⟨by decide, rfl⟩
abbrev mX12_mayStand : aY := (RX12, yX12_mayStand, cX12_mayStand, 3, some FieldType.boolean)
theorem mv_X12_mayStand : a_mv mX12_mayStand 1 12 := ⟨⟨a_in 1418 (by decide +kernel) rfl, a_in 66 (by decide +kernel) rfl, (by decide +kernel), by decide, rfl⟩, a_in 1417 (by decide +kernel) rfl, a_in 46 (by decide +kernel) rfl, ⟨TX12, 61, rfl⟩, by decide⟩
theorem pn_X12_mayStand : plainName mX12_mayStand.2.1.cls = true ∧ mX12_mayStand.1 = mX12_mayStand.2.1.cls := ⟨by decide, rfl⟩
abbrev mX12_text : aY := (RX12, yX12_text, cX12_text, 3, some FieldType.int)
theorem mv_X12_text : a_mv mX12_text 0 12 := ⟨⟨a_in 1414 (by decide +kernel) rfl, a_in 66 (by decide +kernel) rfl, (by decide +kernel), by decide, rfl⟩, a_in 1412 (by decide +kernel) rfl, a_in 1413 (by decide +kernel) rfl, ⟨TX12, 61, rfl⟩, by decide⟩
theorem pn_X12_text : plainName mX12_text.2.1.cls = true ∧ mX12_text.1 = mX12_text.2.1.cls := ⟨by decide, rfl⟩
abbrev mX12_isAllowed : aY := (RX12, yX12_isAllowed, cX12_isAllowed, 4, some FieldType.boolean)
theorem mv_X12_isAllowed : a_mv mX12_isAllowed 2 12 := ⟨⟨a_in 1430 (by decide +kernel) rfl, a_in 66 (by decide +kernel) rfl, (by decide +kernel), by decide, rfl⟩, a_in 1429 (by decide +kernel) rfl, a_in 47 (by decide +kernel) rfl, ⟨TX12, 61, rfl⟩, by decide⟩
theorem pn_X12_isAllowed : plainName mX12_isAllowed.2.1.cls = true ∧ mX12_isAllowed.1 = mX12_isAllowed.2.1.cls := ⟨by decide, rfl⟩
abbrev mX12_allowed : aY := (RX12, yX12_allowed, cX12_allowed, 3, some FieldType.int)
theorem mv_X12_allowed : a_mv mX12_allowed 2 12 := ⟨⟨a_in 1426 (by decide +kernel) rfl, a_in 66 (by decide +kernel) rfl, (by decide +kernel), by decide, rfl⟩, a_in 1424 (by decide +kernel) rfl, a_in 1425 (by decide +kernel) rfl, ⟨TX12, 61, rfl⟩, by decide⟩
theorem pn_X12_allowed : plainName mX12_allowed.2.1.cls = true ∧ mX12_allowed.1 = mX12_allowed.2.1.cls := ⟨by decide, rfl⟩
abbrev mX12_costOf : aY := (RX12, yX12_costOf, cX12_costOf, 4, some FieldType.int)
theorem mv_X12_costOf : a_mv mX12_costOf 0 12 := ⟨⟨a_in 1438 (by decide +kernel) rfl, a_in 66 (by decide +kernel) rfl, (by decide +kernel), by decide, rfl⟩, a_in 1437 (by decide +kernel) rfl, a_in 48 (by decide +kernel) rfl, ⟨TX12, 61, rfl⟩, by decide⟩
theorem pn_X12_costOf : plainName mX12_costOf.2.1.cls = true ∧ mX12_costOf.1 = mX12_costOf.2.1.cls := ⟨by decide, rfl⟩
abbrev mX12_cost : aY := (RX12, yX12_cost, cX12_cost, 1, some FieldType.int)
theorem mv_X12_cost : a_mv mX12_cost 0 12 := ⟨⟨a_in 1434 (by decide +kernel) rfl, a_in 66 (by decide +kernel) rfl, (by decide +kernel), by decide, rfl⟩, a_in 1432 (by decide +kernel) rfl, a_in 1433 (by decide +kernel) rfl, ⟨TX12, 61, rfl⟩, by decide⟩
theorem pn_X12_cost : plainName mX12_cost.2.1.cls = true ∧ mX12_cost.1 = mX12_cost.2.1.cls := ⟨by decide, rfl⟩
abbrev mX12_fewest : aY := (RX12, yX12_fewest, cX12_fewest, 3, some FieldType.int)
theorem mv_X12_fewest : a_mv mX12_fewest 0 12 := ⟨⟨a_in 1451 (by decide +kernel) rfl, a_in 66 (by decide +kernel) rfl, (by decide +kernel), by decide, rfl⟩, a_in 1450 (by decide +kernel) rfl, a_in 50 (by decide +kernel) rfl, ⟨TX12, 61, rfl⟩, by decide⟩
theorem pn_X12_fewest : plainName mX12_fewest.2.1.cls = true ∧ mX12_fewest.1 = mX12_fewest.2.1.cls := ⟨by decide, rfl⟩
abbrev mX12_isFound : aY := (RX12, yX12_isFound, cX12_isFound, 7, some FieldType.boolean)
theorem mv_X12_isFound : a_mv mX12_isFound 1 12 := ⟨⟨a_in 1455 (by decide +kernel) rfl, a_in 66 (by decide +kernel) rfl, (by decide +kernel), by decide, rfl⟩, a_in 1454 (by decide +kernel) rfl, a_in 51 (by decide +kernel) rfl, ⟨TX12, 61, rfl⟩, by decide⟩
theorem pn_X12_isFound : plainName mX12_isFound.2.1.cls = true ∧ mX12_isFound.1 = mX12_isFound.2.1.cls := ⟨by decide, rfl⟩
abbrev mX12_turn : aY := (RX12, yX12_turn, cX12_turn, 8, none)
theorem mv_X12_turn : a_mv mX12_turn 2 12 := ⟨⟨a_in 1459 (by decide +kernel) rfl, a_in 66 (by decide +kernel) rfl, (by decide +kernel), by decide, rfl⟩, a_in 1458 (by decide +kernel) rfl, a_in 52 (by decide +kernel) rfl, ⟨TX12, 61, rfl⟩, by decide⟩
theorem pn_X12_turn : plainName mX12_turn.2.1.cls = true ∧ mX12_turn.1 = mX12_turn.2.1.cls := ⟨by decide, rfl⟩
abbrev mX12_findTrades : aY := (RX12, yX12_findTrades, cX12_findTrades, 8, some FieldType.boolean)
theorem mv_X12_findTrades : a_mv mX12_findTrades 0 12 := ⟨⟨a_in 1446 (by decide +kernel) rfl, a_in 66 (by decide +kernel) rfl, (by decide +kernel), by decide, rfl⟩, a_in 1445 (by decide +kernel) rfl, a_in 49 (by decide +kernel) rfl, ⟨TX12, 61, rfl⟩, by decide⟩
theorem pn_X12_findTrades : plainName mX12_findTrades.2.1.cls = true ∧ mX12_findTrades.1 = mX12_findTrades.2.1.cls := ⟨by decide, rfl⟩
abbrev mX12_trades : aY := (RX12, yX12_trades, cX12_trades, 1, some FieldType.int)
theorem mv_X12_trades : a_mv mX12_trades 0 12 := ⟨⟨a_in 1442 (by decide +kernel) rfl, a_in 66 (by decide +kernel) rfl, (by decide +kernel), by decide, rfl⟩, a_in 1440 (by decide +kernel) rfl, a_in 1441 (by decide +kernel) rfl, ⟨TX12, 61, rfl⟩, by decide⟩
theorem pn_X12_trades : plainName mX12_trades.2.1.cls = true ∧ mX12_trades.1 = mX12_trades.2.1.cls := ⟨by decide, rfl⟩
abbrev mX12_trade : aY := (RX12, yX12_trade, cX12_trade, 3, some FieldType.int)
theorem mv_X12_trade : a_mv mX12_trade 2 12 := ⟨⟨a_in 1463 (by decide +kernel) rfl, a_in 66 (by decide +kernel) rfl, (by decide +kernel), by decide, rfl⟩, a_in 1461 (by decide +kernel) rfl, a_in 1462 (by decide +kernel) rfl, ⟨TX12, 61, rfl⟩, by decide⟩
theorem pn_X12_trade : plainName mX12_trade.2.1.cls = true ∧ mX12_trade.1 = mX12_trade.2.1.cls := ⟨by decide, rfl⟩
abbrev mX12_take : aY := (RX12, yX12_take, cX12_take, 3, some FieldType.int)
theorem mv_X12_take : a_mv mX12_take 1 12 := ⟨⟨a_in 1467 (by decide +kernel) rfl, a_in 66 (by decide +kernel) rfl, (by decide +kernel), by decide, rfl⟩, a_in 1465 (by decide +kernel) rfl, a_in 1466 (by decide +kernel) rfl, ⟨TX12, 61, rfl⟩, by decide⟩
theorem pn_X12_take : plainName mX12_take.2.1.cls = true ∧ mX12_take.1 = mX12_take.2.1.cls := ⟨by decide, rfl⟩
abbrev mX12_morning : aY := (RX12, yX12_morning, cX12_morning, 10, some FieldType.int)
theorem mv_X12_morning : a_mv mX12_morning 3 12 := ⟨⟨a_in 1471 (by decide +kernel) rfl, a_in 66 (by decide +kernel) rfl, (by decide +kernel), by decide, rfl⟩, a_in 1469 (by decide +kernel) rfl, a_in 1470 (by decide +kernel) rfl, ⟨TX12, 61, rfl⟩, by decide⟩
theorem pn_X12_morning : plainName mX12_morning.2.1.cls = true ∧ mX12_morning.1 = mX12_morning.2.1.cls := ⟨by decide, rfl⟩
abbrev mX12_withSnow : aY := (RX12, yX12_withSnow, cX12_withSnow, 6, some FieldType.int)
theorem mv_X12_withSnow : a_mv mX12_withSnow 1 12 := ⟨⟨a_in 1475 (by decide +kernel) rfl, a_in 66 (by decide +kernel) rfl, (by decide +kernel), by decide, rfl⟩, a_in 1474 (by decide +kernel) rfl, a_in 53 (by decide +kernel) rfl, ⟨TX12, 61, rfl⟩, by decide⟩
theorem pn_X12_withSnow : plainName mX12_withSnow.2.1.cls = true ∧ mX12_withSnow.1 = mX12_withSnow.2.1.cls := ⟨by decide, rfl⟩
abbrev mX12_comes : aY := (RX12, yX12_comes, cX12_comes, 2, some FieldType.int)
theorem mv_X12_comes : a_mv mX12_comes 1 12 := ⟨⟨a_in 1479 (by decide +kernel) rfl, a_in 66 (by decide +kernel) rfl, (by decide +kernel), by decide, rfl⟩, a_in 1477 (by decide +kernel) rfl, a_in 1478 (by decide +kernel) rfl, ⟨TX12, 61, rfl⟩, by decide⟩
theorem pn_X12_comes : plainName mX12_comes.2.1.cls = true ∧ mX12_comes.1 = mX12_comes.2.1.cls := ⟨by decide, rfl⟩
abbrev mX12_fair : aY := (RX12, yX12_fair, cX12_fair, 6, some FieldType.int)
theorem mv_X12_fair : a_mv mX12_fair 2 12 := ⟨⟨a_in 1483 (by decide +kernel) rfl, a_in 66 (by decide +kernel) rfl, (by decide +kernel), by decide, rfl⟩, a_in 1481 (by decide +kernel) rfl, a_in 1482 (by decide +kernel) rfl, ⟨TX12, 61, rfl⟩, by decide⟩
theorem pn_X12_fair : plainName mX12_fair.2.1.cls = true ∧ mX12_fair.1 = mX12_fair.2.1.cls := ⟨by decide, rfl⟩
abbrev mX12_isSheet : aY := (RX12, yX12_isSheet, cX12_isSheet, 1, some FieldType.boolean)
theorem ms_X12_isSheet : a_ms mX12_isSheet 1 := ⟨⟨a_in 1490 (by decide +kernel) rfl, a_in 66 (by decide +kernel) rfl, (by decide +kernel), by decide, rfl⟩, a_in 1489 (by decide +kernel) rfl⟩
theorem pn_X12_isSheet : plainName mX12_isSheet.2.1.cls = true ∧ mX12_isSheet.1 = mX12_isSheet.2.1.cls := ⟨by decide, rfl⟩
abbrev mX12_sheet : aY := (RX12, yX12_sheet, cX12_sheet, 5, some FieldType.int)
theorem mv_X12_sheet : a_mv mX12_sheet 3 12 := ⟨⟨a_in 1487 (by decide +kernel) rfl, a_in 66 (by decide +kernel) rfl, (by decide +kernel), by decide, rfl⟩, a_in 1485 (by decide +kernel) rfl, a_in 1486 (by decide +kernel) rfl, ⟨TX12, 61, rfl⟩, by decide⟩
theorem pn_X12_sheet : plainName mX12_sheet.2.1.cls = true ∧ mX12_sheet.1 = mX12_sheet.2.1.cls := ⟨by decide, rfl⟩
abbrev mX12_write : aY := (RX12, yX12_write, cX12_write, 5, some FieldType.int)
theorem mv_X12_write : a_mv mX12_write 3 12 := ⟨⟨a_in 1495 (by decide +kernel) rfl, a_in 66 (by decide +kernel) rfl, (by decide +kernel), by decide, rfl⟩, a_in 1493 (by decide +kernel) rfl, a_in 1494 (by decide +kernel) rfl, ⟨TX12, 61, rfl⟩, by decide⟩
theorem pn_X12_write : plainName mX12_write.2.1.cls = true ∧ mX12_write.1 = mX12_write.2.1.cls := ⟨by decide, rfl⟩
abbrev mX12_copy : aY := (RX12, yX12_copy, cX12_copy, 7, some FieldType.int)
theorem mv_X12_copy : a_mv mX12_copy 5 12 := ⟨⟨a_in 1500 (by decide +kernel) rfl, a_in 66 (by decide +kernel) rfl, (by decide +kernel), by decide, rfl⟩, a_in 1498 (by decide +kernel) rfl, a_in 1499 (by decide +kernel) rfl, ⟨TX12, 61, rfl⟩, by decide⟩
theorem pn_X12_copy : plainName mX12_copy.2.1.cls = true ∧ mX12_copy.1 = mX12_copy.2.1.cls := ⟨by decide, rfl⟩
abbrev mX12_read : aY := (RX12, yX12_read, cX12_read, 5, some FieldType.int)
theorem mv_X12_read : a_mv mX12_read 2 12 := ⟨⟨a_in 1504 (by decide +kernel) rfl, a_in 66 (by decide +kernel) rfl, (by decide +kernel), by decide, rfl⟩, a_in 1502 (by decide +kernel) rfl, a_in 1503 (by decide +kernel) rfl, ⟨TX12, 61, rfl⟩, by decide⟩
theorem pn_X12_read : plainName mX12_read.2.1.cls = true ∧ mX12_read.1 = mX12_read.2.1.cls := ⟨by decide, rfl⟩
abbrev mX12_told : aY := (RX12, yX12_told, cX12_told, 2, some FieldType.int)
theorem mv_X12_told : a_mv mX12_told 1 12 := ⟨⟨a_in 1508 (by decide +kernel) rfl, a_in 66 (by decide +kernel) rfl, (by decide +kernel), by decide, rfl⟩, a_in 1506 (by decide +kernel) rfl, a_in 1507 (by decide +kernel) rfl, ⟨TX12, 61, rfl⟩, by decide⟩
theorem pn_X12_told : plainName mX12_told.2.1.cls = true ∧ mX12_told.1 = mX12_told.2.1.cls := ⟨by decide, rfl⟩
abbrev mJ6_bitCount_0f7a4 : aY := (RJ6, yJ6_bitCount_0f7a4, cJ6_bitCount_0f7a4, 1, some FieldType.int)
theorem ms_J6_bitCount_0f7a4 : a_ms mJ6_bitCount_0f7a4 1 := ⟨⟨a_in 782 (by decide +kernel) rfl, a_in 70 (by decide +kernel) rfl, (by decide +kernel), by decide, rfl⟩, a_in 781 (by decide +kernel) rfl⟩
theorem pn_J6_bitCount_0f7a4 : plainName mJ6_bitCount_0f7a4.2.1.cls = true ∧ mJ6_bitCount_0f7a4.1 = mJ6_bitCount_0f7a4.2.1.cls := ⟨by decide, rfl⟩
abbrev mJ7_fill_53178 : aY := (RJ7, yJ7_fill_53178, cJ7_fill_53178, 4, none)
theorem ms_J7_fill_53178 : a_ms mJ7_fill_53178 2 := ⟨⟨a_in 509 (by decide +kernel) rfl, a_in 67 (by decide +kernel) rfl, (by decide +kernel), by decide, rfl⟩, a_in 508 (by decide +kernel) rfl⟩
theorem pn_J7_fill_53178 : plainName mJ7_fill_53178.2.1.cls = true ∧ mJ7_fill_53178.1 = mJ7_fill_53178.2.1.cls := ⟨by decide, rfl⟩
abbrev mL_law : aY := (RL, yL_law, cL_law, 4, ret)
