theorem ln_X11_336 : Cond.methodLinkNest RX11 336 mX5_init.2.1 "BellWaves" ∈ lw_n := a_inN 600 (by decide +kernel) rfl
theorem ob_X5_3 : Cond.methodLink RX5 3 Lib.objectInit ∈ lw_g ∧ Cond.instanceMethod Lib.objectInit ∈ lw_g ∧ Cond.code Lib.objectInit ⟨#[0xb1]⟩ 1 none ∈ lw_g := ⟨a_in 603 (by decide +kernel) rfl, a_in 78 (by decide +kernel) rfl, a_in 79 (by decide +kernel) rfl⟩
theorem kl_X5_21 : Cond.classLink RX5 21 "[[I" ∈ lw_g := a_in 604 (by decide +kernel) rfl
theorem fp_X5_42 : a_fw RX5 42 5 9 0 false .int := ⟨RX5, TX5, cf_5, by decide, a_in 605 (by decide +kernel) rfl, rfl, by decide +kernel, fun h => by cases h⟩
theorem fw_X5_42 : a_fr RX5 42 5 9 0 := a_fw.r fp_X5_42
theorem fp_X5_9 : a_fw RX5 9 5 9 1 true (.array .int) := ⟨RX5, TX5, cf_5, by decide, a_in 606 (by decide +kernel) rfl, rfl, by decide +kernel, fun _ => rfl⟩
theorem fw_X5_9 : a_fr RX5 9 5 9 1 := a_fw.r fp_X5_9
theorem fp_X5_15 : a_fw RX5 15 5 9 2 true (.array .int) := ⟨RX5, TX5, cf_5, by decide, a_in 607 (by decide +kernel) rfl, rfl, by decide +kernel, fun _ => rfl⟩
theorem fw_X5_15 : a_fr RX5 15 5 9 2 := a_fw.r fp_X5_15
theorem fp_X5_18 : a_fw RX5 18 5 9 3 true (.array .int) := ⟨RX5, TX5, cf_5, by decide, a_in 608 (by decide +kernel) rfl, rfl, by decide +kernel, fun _ => rfl⟩
theorem fw_X5_18 : a_fr RX5 18 5 9 3 := a_fw.r fp_X5_18
theorem fp_X5_23 : a_fw RX5 23 5 9 4 true (.array (.array .int)) := ⟨RX5, TX5, cf_5, by decide, a_in 609 (by decide +kernel) rfl, rfl, by decide +kernel, fun _ => rfl⟩
theorem fw_X5_23 : a_fr RX5 23 5 9 4 := a_fw.r fp_X5_23
theorem fp_X5_26 : a_fw RX5 26 5 9 5 true (.array .int) := ⟨RX5, TX5, cf_5, by decide, a_in 610 (by decide +kernel) rfl, rfl, by decide +kernel, fun _ => rfl⟩
theorem fw_X5_26 : a_fr RX5 26 5 9 5 := a_fw.r fp_X5_26
theorem fp_X5_29 : a_fw RX5 29 5 9 6 true (.array .int) := ⟨RX5, TX5, cf_5, by decide, a_in 611 (by decide +kernel) rfl, rfl, by decide +kernel, fun _ => rfl⟩
theorem fw_X5_29 : a_fr RX5 29 5 9 6 := a_fw.r fp_X5_29
theorem fp_X5_32 : a_fw RX5 32 5 9 7 true (.array .int) := ⟨RX5, TX5, cf_5, by decide, a_in 612 (by decide +kernel) rfl, rfl, by decide +kernel, fun _ => rfl⟩
theorem fw_X5_32 : a_fr RX5 32 5 9 7 := a_fw.r fp_X5_32
theorem fp_X5_35 : a_fw RX5 35 5 9 8 true (.array .int) := ⟨RX5, TX5, cf_5, by decide, a_in 613 (by decide +kernel) rfl, rfl, by decide +kernel, fun _ => rfl⟩
theorem fw_X5_35 : a_fr RX5 35 5 9 8 := a_fw.r fp_X5_35
theorem lk_X11_337 : Cond.methodLink RX11 337 mX5_draw.2.1 ∈ lw_g := a_in 633 (by decide +kernel) rfl
theorem lk_X5_38 : Cond.methodLink RX5 38 mX5_collect.2.1 ∈ lw_g := a_in 637 (by decide +kernel) rfl
theorem lk_X5_78 : Cond.methodLink RX5 78 mX10_table.2.1 ∈ lw_g := a_in 641 (by decide +kernel) rfl
theorem ct_X5_46 : Cond.constant RX5 46 (1000000) ∈ lw_g := a_in 642 (by decide +kernel) rfl
theorem lk_X5_47 : Cond.methodLink RX5 47 mX5_load.2.1 ∈ lw_g := a_in 643 (by decide +kernel) rfl
theorem lk_X5_104 : Cond.methodLink RX5 104 mX5_has.2.1 ∈ lw_g := a_in 647 (by decide +kernel) rfl
theorem lk_X5_56 : Cond.methodLink RX5 56 mX5_shortest.2.1 ∈ lw_g := a_in 650 (by decide +kernel) rfl
theorem lk_X5_108 : Cond.methodLink RX5 108 mX5_shortestFrom.2.1 ∈ lw_g := a_in 654 (by decide +kernel) rfl
theorem mm_X5_112 : Cond.methodLink RX5 112 Lib.Math.min.name ∈ lw_g ∧ Cond.static Lib.Math.min.name ∈ lw_g ∧ Cond.initialized "java/lang/Math" ∈ lw_g ∧ Cond.code Lib.Math.min.name Lib.Math.min.code 2 (some .int) ∈ lw_g := ⟨a_in 658 (by decide +kernel) rfl, a_in 511 (by decide +kernel) rfl, a_in 68 (by decide +kernel) rfl, a_in 512 (by decide +kernel) rfl⟩
theorem lk_X5_59 : Cond.methodLink RX5 59 mX0_longest.2.1 ∈ lw_g := a_in 659 (by decide +kernel) rfl
theorem lk_X5_62 : Cond.methodLink RX5 62 mX5_part.2.1 ∈ lw_g := a_in 660 (by decide +kernel) rfl
theorem lk_X5_70 : Cond.methodLink RX5 70 mX5_record.2.1 ∈ lw_g := a_in 664 (by decide +kernel) rfl
theorem lk_X5_127 : Cond.methodLink RX5 127 mX5_recordRoute.2.1 ∈ lw_g := a_in 668 (by decide +kernel) rfl
theorem lk_X5_130 : Cond.methodLink RX5 130 mX5_firstWith.2.1 ∈ lw_g := a_in 672 (by decide +kernel) rfl
theorem lk_X11_341 : Cond.methodLink RX11 341 mX1_gather.2.1 ∈ lw_g := a_in 676 (by decide +kernel) rfl
theorem mm_X1_65 : Cond.methodLink RX1 65 Lib.Math.max.name ∈ lw_g ∧ Cond.static Lib.Math.max.name ∈ lw_g ∧ Cond.initialized "java/lang/Math" ∈ lw_g ∧ Cond.code Lib.Math.max.name Lib.Math.max.code 2 (some .int) ∈ lw_g := ⟨a_in 680 (by decide +kernel) rfl, a_in 681 (by decide +kernel) rfl, a_in 68 (by decide +kernel) rfl, a_in 682 (by decide +kernel) rfl⟩
theorem lk_X1_75 : Cond.methodLink RX1 75 mX10_table.2.1 ∈ lw_g := a_in 683 (by decide +kernel) rfl
theorem lk_X1_81 : Cond.methodLink RX1 81 mX1_schoolOf.2.1 ∈ lw_g := a_in 684 (by decide +kernel) rfl
theorem lk_X1_88 : Cond.methodLink RX1 88 mX1_firstCorner.2.1 ∈ lw_g := a_in 688 (by decide +kernel) rfl
theorem lk_X1_95 : Cond.methodLink RX1 95 mX1_lengthOf.2.1 ∈ lw_g := a_in 692 (by decide +kernel) rfl
theorem lk_L_75 : Cond.methodLink RL 75 mX11_route.2.1 ∈ lw_g := a_in 696 (by decide +kernel) rfl
theorem lk_X11_193 : Cond.methodLink RX11 193 mX7_stopsIn.2.1 ∈ lw_g := a_in 700 (by decide +kernel) rfl
theorem lk_L_79 : Cond.methodLink RL 79 mX11_ride.2.1 ∈ lw_g := a_in 704 (by decide +kernel) rfl
theorem lk_X11_205 : Cond.methodLink RX11 205 mX0_rideOf.2.1 ∈ lw_g := a_in 708 (by decide +kernel) rfl
theorem lk_X0_90 : Cond.methodLink RX0 90 mX10_table.2.1 ∈ lw_g := a_in 712 (by decide +kernel) rfl
theorem lk_X0_94 : Cond.methodLink RX0 94 mX0_minutesFrom.2.1 ∈ lw_g := a_in 713 (by decide +kernel) rfl
theorem lk_L_83 : Cond.methodLink RL 83 mX11_all.2.1 ∈ lw_g := a_in 717 (by decide +kernel) rfl
theorem lk_L_87 : Cond.methodLink RL 87 mX11_start.2.1 ∈ lw_g := a_in 721 (by decide +kernel) rfl
theorem lk_X11_214 : Cond.methodLink RX11 214 mX1_has.2.1 ∈ lw_g := a_in 725 (by decide +kernel) rfl
theorem ln_X1_41 : Cond.methodLinkNest RX1 41 mX11_within.2.1 "BellWaves" ∈ lw_n := a_inN 729 (by decide +kernel) rfl
theorem lk_X11_217 : Cond.methodLink RX11 217 mX1_startOf.2.1 ∈ lw_g := a_in 730 (by decide +kernel) rfl
theorem lk_X1_118 : Cond.methodLink RX1 118 mX0_rings.2.1 ∈ lw_g := a_in 734 (by decide +kernel) rfl
theorem lk_L_91 : Cond.methodLink RL 91 mX11_follows.2.1 ∈ lw_g := a_in 738 (by decide +kernel) rfl
theorem lk_X11_221 : Cond.methodLink RX11 221 mX1_canFollow.2.1 ∈ lw_g := a_in 742 (by decide +kernel) rfl
theorem lk_L_95 : Cond.methodLink RL 95 mX11_buses.2.1 ∈ lw_g := a_in 746 (by decide +kernel) rfl
theorem lk_X11_225 : Cond.methodLink RX11 225 mX11_linkChains.2.1 ∈ lw_g := a_in 750 (by decide +kernel) rfl
theorem lk_X11_345 : Cond.methodLink RX11 345 mX1_link.2.1 ∈ lw_g := a_in 754 (by decide +kernel) rfl
theorem lk_X1_125 : Cond.methodLink RX1 125 mX1_fillMatcher.2.1 ∈ lw_g := a_in 758 (by decide +kernel) rfl
theorem lk_X1_139 : Cond.methodLink RX1 139 mX1_canFollow.2.1 ∈ lw_g := a_in 762 (by decide +kernel) rfl
theorem lk_X1_129 : Cond.methodLink RX1 129 mX3_most.2.1 ∈ lw_g := a_in 763 (by decide +kernel) rfl
theorem lk_X3_27 : Cond.methodLink RX3 27 mJ7_fill_53178.2.1 ∈ lw_g := a_in 767 (by decide +kernel) rfl
theorem lk_X3_37 : Cond.methodLink RX3 37 mX3_gains.2.1 ∈ lw_g := a_in 768 (by decide +kernel) rfl
theorem lk_X3_41 : Cond.methodLink RX3 41 mX3_move.2.1 ∈ lw_g := a_in 772 (by decide +kernel) rfl
theorem lk_X11_229 : Cond.methodLink RX11 229 mX1_busCount.2.1 ∈ lw_g := a_in 776 (by decide +kernel) rfl
theorem lk_X1_143 : Cond.methodLink RX1 143 mJ6_bitCount_0f7a4.2.1 ∈ lw_g := a_in 780 (by decide +kernel) rfl
theorem ct_J6_265 : Cond.constant RJ6 265 (1431655765) ∈ lw_g := a_in 783 (by decide +kernel) rfl
theorem ct_J6_266 : Cond.constant RJ6 266 (858993459) ∈ lw_g := a_in 784 (by decide +kernel) rfl
theorem ct_J6_267 : Cond.constant RJ6 267 (252645135) ∈ lw_g := a_in 785 (by decide +kernel) rfl
theorem lk_L_99 : Cond.methodLink RL 99 mX11_chain.2.1 ∈ lw_g := a_in 786 (by decide +kernel) rfl
theorem lk_X11_232 : Cond.methodLink RX11 232 mX1_driven.2.1 ∈ lw_g := a_in 790 (by decide +kernel) rfl
theorem lk_X1_148 : Cond.methodLink RX1 148 mX1_isFirst.2.1 ∈ lw_g := a_in 794 (by decide +kernel) rfl
theorem lk_L_103 : Cond.methodLink RL 103 mX11_aides.2.1 ∈ lw_g := a_in 798 (by decide +kernel) rfl
theorem lk_X11_235 : Cond.methodLink RX11 235 mX1_specialBuses.2.1 ∈ lw_g := a_in 802 (by decide +kernel) rfl
theorem lk_X1_152 : Cond.methodLink RX1 152 mX1_drivesSpecial.2.1 ∈ lw_g := a_in 806 (by decide +kernel) rfl
theorem lk_L_109 : Cond.methodLink RL 109 mX11_feed.2.1 ∈ lw_g := a_in 810 (by decide +kernel) rfl
theorem lk_X11_242 : Cond.methodLink RX11 242 mX6_lengthen.2.1 ∈ lw_g := a_in 814 (by decide +kernel) rfl
theorem lk_L_114 : Cond.methodLink RL 114 mX11_text.2.1 ∈ lw_g := a_in 818 (by decide +kernel) rfl
theorem lk_X11_246 : Cond.methodLink RX11 246 mX6_firstWrong.2.1 ∈ lw_g := a_in 822 (by decide +kernel) rfl
theorem lk_X6_28 : Cond.methodLink RX6 28 mX6_canStand.2.1 ∈ lw_g := a_in 826 (by decide +kernel) rfl
theorem lk_X6_32 : Cond.methodLink RX6 32 mX6_kindOf.2.1 ∈ lw_g := a_in 830 (by decide +kernel) rfl
theorem ln_X6_36 : Cond.methodLinkNest RX6 36 mX11_within.2.1 "BellWaves" ∈ lw_n := a_inN 833 (by decide +kernel) rfl
theorem lk_X11_249 : Cond.methodLink RX11 249 mX6_adopt.2.1 ∈ lw_g := a_in 834 (by decide +kernel) rfl
theorem ct_X11_253 : Cond.constant RX11 253 (-1000100) ∈ lw_g := a_in 838 (by decide +kernel) rfl
theorem lk_L_118 : Cond.methodLink RL 118 mX11_allowed.2.1 ∈ lw_g := a_in 839 (by decide +kernel) rfl
theorem lk_X11_254 : Cond.methodLink RX11 254 mX6_permit.2.1 ∈ lw_g := a_in 843 (by decide +kernel) rfl
theorem ln_X6_43 : Cond.methodLinkNest RX6 43 mX11_isUnder.2.1 "BellWaves" ∈ lw_n := a_inN 847 (by decide +kernel) rfl
theorem lk_L_122 : Cond.methodLink RL 122 mX11_cost.2.1 ∈ lw_g := a_in 848 (by decide +kernel) rfl
theorem lk_X11_257 : Cond.methodLink RX11 257 mX0_costOf.2.1 ∈ lw_g := a_in 852 (by decide +kernel) rfl
theorem lk_X0_72 : Cond.methodLink RX0 72 mX0_pupilsOf.2.1 ∈ lw_g := a_in 856 (by decide +kernel) rfl
theorem mm_X0_76 : Cond.methodLink RX0 76 Lib.Math.abs.name ∈ lw_g ∧ Cond.static Lib.Math.abs.name ∈ lw_g ∧ Cond.initialized "java/lang/Math" ∈ lw_g ∧ Cond.code Lib.Math.abs.name Lib.Math.abs.code 1 (some .int) ∈ lw_g := ⟨a_in 857 (by decide +kernel) rfl, a_in 858 (by decide +kernel) rfl, a_in 68 (by decide +kernel) rfl, a_in 859 (by decide +kernel) rfl⟩
theorem lk_L_126 : Cond.methodLink RL 126 mX11_trades.2.1 ∈ lw_g := a_in 860 (by decide +kernel) rfl
theorem lk_X11_260 : Cond.methodLink RX11 260 mX11_weighTrades.2.1 ∈ lw_g := a_in 864 (by decide +kernel) rfl
theorem lk_X11_349 : Cond.methodLink RX11 349 mX2_weigh.2.1 ∈ lw_g := a_in 868 (by decide +kernel) rfl
theorem lk_X2_46 : Cond.methodLink RX2 46 mX6_permit.2.1 ∈ lw_g := a_in 872 (by decide +kernel) rfl
theorem lk_X2_52 : Cond.methodLink RX2 52 mX0_costOf.2.1 ∈ lw_g := a_in 873 (by decide +kernel) rfl
theorem ct_X2_56 : Cond.constant RX2 56 (1000000) ∈ lw_g := a_in 874 (by decide +kernel) rfl
theorem lk_X2_57 : Cond.methodLink RX2 57 mJ7_fill_53178.2.1 ∈ lw_g := a_in 875 (by decide +kernel) rfl
theorem lk_X2_63 : Cond.methodLink RX2 63 mX2_decode.2.1 ∈ lw_g := a_in 876 (by decide +kernel) rfl
theorem lk_X2_67 : Cond.methodLink RX2 67 mX2_priceOfBells.2.1 ∈ lw_g := a_in 880 (by decide +kernel) rfl
theorem lk_X2_76 : Cond.methodLink RX2 76 mX1_fewestBuses.2.1 ∈ lw_g := a_in 884 (by decide +kernel) rfl
theorem lk_X2_80 : Cond.methodLink RX2 80 mX2_note.2.1 ∈ lw_g := a_in 888 (by decide +kernel) rfl
theorem lk_X2_84 : Cond.methodLink RX2 84 mX2_list.2.1 ∈ lw_g := a_in 892 (by decide +kernel) rfl
theorem lk_L_130 : Cond.methodLink RL 130 mX11_trade.2.1 ∈ lw_g := a_in 896 (by decide +kernel) rfl
theorem lk_X11_264 : Cond.methodLink RX11 264 mX2_busesIn.2.1 ∈ lw_g := a_in 900 (by decide +kernel) rfl
theorem lk_X11_267 : Cond.methodLink RX11 267 mX2_costIn.2.1 ∈ lw_g := a_in 904 (by decide +kernel) rfl
theorem lk_X11_270 : Cond.methodLink RX11 270 mX2_bellsIn.2.1 ∈ lw_g := a_in 908 (by decide +kernel) rfl
theorem lk_L_134 : Cond.methodLink RL 134 mX11_take.2.1 ∈ lw_g := a_in 912 (by decide +kernel) rfl
theorem ac_X11_274 : Cond.methodLink RX11 274 arraycopyName ∈ lw_g ∧ Cond.native arraycopyName ∈ lw_g ∧ Cond.static arraycopyName ∈ lw_g ∧ Cond.initialized "java/lang/System" ∈ lw_g := ⟨a_in 916 (by decide +kernel) rfl, a_in 918 (by decide +kernel) rfl, a_in 917 (by decide +kernel) rfl, a_in 71 (by decide +kernel) rfl⟩
theorem lk_L_138 : Cond.methodLink RL 138 mX11_morning.2.1 ∈ lw_g := a_in 919 (by decide +kernel) rfl
theorem lk_X11_280 : Cond.methodLink RX11 280 mX4_drive.2.1 ∈ lw_g := a_in 923 (by decide +kernel) rfl
theorem lk_X4_21 : Cond.methodLink RX4 21 mX10_tableWith.2.1 ∈ lw_g := a_in 927 (by decide +kernel) rfl
theorem lk_X4_34 : Cond.methodLink RX4 34 mX1_isFirst.2.1 ∈ lw_g := a_in 931 (by decide +kernel) rfl
theorem lk_X4_38 : Cond.methodLink RX4 38 mX4_driveBus.2.1 ∈ lw_g := a_in 932 (by decide +kernel) rfl
theorem lk_X4_53 : Cond.methodLink RX4 53 mX1_startOf.2.1 ∈ lw_g := a_in 936 (by decide +kernel) rfl
theorem mm_X4_56 : Cond.methodLink RX4 56 Lib.Math.max.name ∈ lw_g ∧ Cond.static Lib.Math.max.name ∈ lw_g ∧ Cond.initialized "java/lang/Math" ∈ lw_g ∧ Cond.code Lib.Math.max.name Lib.Math.max.code 2 (some .int) ∈ lw_g := ⟨a_in 937 (by decide +kernel) rfl, a_in 681 (by decide +kernel) rfl, a_in 68 (by decide +kernel) rfl, a_in 682 (by decide +kernel) rfl⟩
theorem lk_X4_62 : Cond.methodLink RX4 62 mX1_lengthOn.2.1 ∈ lw_g := a_in 938 (by decide +kernel) rfl
theorem lk_X1_114 : Cond.methodLink RX1 114 mX0_minutesFrom.2.1 ∈ lw_g := a_in 942 (by decide +kernel) rfl
theorem lk_X4_69 : Cond.methodLink RX4 69 mX1_schoolOf.2.1 ∈ lw_g := a_in 943 (by decide +kernel) rfl
theorem lk_X4_78 : Cond.methodLink RX4 78 mX1_firstCorner.2.1 ∈ lw_g := a_in 944 (by decide +kernel) rfl
theorem lk_X4_45 : Cond.methodLink RX4 45 mX0_rings.2.1 ∈ lw_g := a_in 945 (by decide +kernel) rfl
theorem lk_X4_49 : Cond.methodLink RX4 49 mX1_pupilsOn.2.1 ∈ lw_g := a_in 946 (by decide +kernel) rfl
theorem lk_L_142 : Cond.methodLink RL 142 mX11_comes.2.1 ∈ lw_g := a_in 950 (by decide +kernel) rfl
theorem lk_L_146 : Cond.methodLink RL 146 mX11_fair.2.1 ∈ lw_g := a_in 954 (by decide +kernel) rfl
theorem lk_X11_288 : Cond.methodLink RX11 288 mX0_pupilsFrom.2.1 ∈ lw_g := a_in 958 (by decide +kernel) rfl
theorem lk_X11_291 : Cond.methodLink RX11 291 mX0_ridesFrom.2.1 ∈ lw_g := a_in 962 (by decide +kernel) rfl
theorem lk_X0_98 : Cond.methodLink RX0 98 mX0_rideOf.2.1 ∈ lw_g := a_in 966 (by decide +kernel) rfl
theorem lk_X11_294 : Cond.methodLink RX11 294 mX0_greatestRide.2.1 ∈ lw_g := a_in 967 (by decide +kernel) rfl
theorem mm_X0_101 : Cond.methodLink RX0 101 Lib.Math.max.name ∈ lw_g ∧ Cond.static Lib.Math.max.name ∈ lw_g ∧ Cond.initialized "java/lang/Math" ∈ lw_g ∧ Cond.code Lib.Math.max.name Lib.Math.max.code 2 (some .int) ∈ lw_g := ⟨a_in 971 (by decide +kernel) rfl, a_in 681 (by decide +kernel) rfl, a_in 68 (by decide +kernel) rfl, a_in 682 (by decide +kernel) rfl⟩
theorem lk_X11_297 : Cond.methodLink RX11 297 mX0_earlyFrom.2.1 ∈ lw_g := a_in 972 (by decide +kernel) rfl
theorem lk_L_150 : Cond.methodLink RL 150 mX11_sheet.2.1 ∈ lw_g := a_in 976 (by decide +kernel) rfl
theorem ct_X11_300 : Cond.constant RX11 300 (-1000006) ∈ lw_g := a_in 980 (by decide +kernel) rfl
theorem lk_X11_301 : Cond.methodLink RX11 301 mX8_lay.2.1 ∈ lw_g := a_in 981 (by decide +kernel) rfl
theorem lk_X8_22 : Cond.methodLink RX8 22 mJ7_fill_53178.2.1 ∈ lw_g := a_in 985 (by decide +kernel) rfl
theorem lk_L_154 : Cond.methodLink RL 154 mX11_write.2.1 ∈ lw_g := a_in 986 (by decide +kernel) rfl
theorem lk_X11_304 : Cond.methodLink RX11 304 mX8_isMissing.2.1 ∈ lw_g := a_in 990 (by decide +kernel) rfl
theorem ct_X11_307 : Cond.constant RX11 307 (-1000005) ∈ lw_g := a_in 994 (by decide +kernel) rfl
theorem lk_X11_309 : Cond.methodLink RX11 309 mX8_put.2.1 ∈ lw_g := a_in 995 (by decide +kernel) rfl
theorem lk_L_158 : Cond.methodLink RL 158 mX11_copy.2.1 ∈ lw_g := a_in 999 (by decide +kernel) rfl
theorem lk_X11_315 : Cond.methodLink RX11 315 mX8_holds.2.1 ∈ lw_g := a_in 1003 (by decide +kernel) rfl
theorem lk_L_163 : Cond.methodLink RL 163 mX11_read.2.1 ∈ lw_g := a_in 1007 (by decide +kernel) rfl
theorem lk_X11_321 : Cond.methodLink RX11 321 mX8_allWithin.2.1 ∈ lw_g := a_in 1011 (by decide +kernel) rfl
theorem ln_X8_28 : Cond.methodLinkNest RX8 28 mX11_within.2.1 "BellWaves" ∈ lw_n := a_inN 1015 (by decide +kernel) rfl
theorem lk_L_167 : Cond.methodLink RL 167 mX11_told.2.1 ∈ lw_g := a_in 1016 (by decide +kernel) rfl
theorem nw_L_10 : Cond.classLink RL 10 RX12 ∈ lw_g ∧ Cond.instantiable RX12 61 ∈ lw_g ∧ Cond.initialized RX12 ∈ lw_g := ⟨a_in 1020 (by decide +kernel) rfl, a_in 1021 (by decide +kernel) rfl, a_in 66 (by decide +kernel) rfl⟩
theorem kl_L_10 : Cond.classLink RL 10 "BellWavesModel" ∈ lw_g := a_in 1020 (by decide +kernel) rfl
theorem lk_L_12 : Cond.methodLink RL 12 mX12_init.2.1 ∈ lw_g := a_in 1022 (by decide +kernel) rfl
theorem ob_X12_1 : Cond.methodLink RX12 1 Lib.objectInit ∈ lw_g ∧ Cond.instanceMethod Lib.objectInit ∈ lw_g ∧ Cond.code Lib.objectInit ⟨#[0xb1]⟩ 1 none ∈ lw_g := ⟨a_in 1025 (by decide +kernel) rfl, a_in 78 (by decide +kernel) rfl, a_in 79 (by decide +kernel) rfl⟩
theorem fp_X12_156 : a_fw RX12 156 12 61 0 false .int := ⟨RX12, TX12, cf_12, by decide, a_in 1026 (by decide +kernel) rfl, rfl, by decide +kernel, fun h => by cases h⟩
theorem fw_X12_156 : a_fr RX12 156 12 61 0 := a_fw.r fp_X12_156
theorem fp_X12_186 : a_fw RX12 186 12 61 1 false .int := ⟨RX12, TX12, cf_12, by decide, a_in 1027 (by decide +kernel) rfl, rfl, by decide +kernel, fun h => by cases h⟩
theorem fw_X12_186 : a_fr RX12 186 12 61 1 := a_fw.r fp_X12_186
theorem fp_X12_163 : a_fw RX12 163 12 61 2 false .int := ⟨RX12, TX12, cf_12, by decide, a_in 1028 (by decide +kernel) rfl, rfl, by decide +kernel, fun h => by cases h⟩
theorem fw_X12_163 : a_fr RX12 163 12 61 2 := a_fw.r fp_X12_163
theorem fp_X12_166 : a_fw RX12 166 12 61 3 false .int := ⟨RX12, TX12, cf_12, by decide, a_in 1029 (by decide +kernel) rfl, rfl, by decide +kernel, fun h => by cases h⟩
theorem fw_X12_166 : a_fr RX12 166 12 61 3 := a_fw.r fp_X12_166
theorem fp_X12_289 : a_fw RX12 289 12 61 4 false .int := ⟨RX12, TX12, cf_12, by decide, a_in 1030 (by decide +kernel) rfl, rfl, by decide +kernel, fun h => by cases h⟩
theorem fw_X12_289 : a_fr RX12 289 12 61 4 := a_fw.r fp_X12_289
theorem fp_X12_277 : a_fw RX12 277 12 61 5 false .int := ⟨RX12, TX12, cf_12, by decide, a_in 1031 (by decide +kernel) rfl, rfl, by decide +kernel, fun h => by cases h⟩
theorem fw_X12_277 : a_fr RX12 277 12 61 5 := a_fw.r fp_X12_277
theorem fp_X12_153 : a_fw RX12 153 12 61 6 false .int := ⟨RX12, TX12, cf_12, by decide, a_in 1032 (by decide +kernel) rfl, rfl, by decide +kernel, fun h => by cases h⟩
theorem fw_X12_153 : a_fr RX12 153 12 61 6 := a_fw.r fp_X12_153
theorem fp_X12_7 : a_fw RX12 7 12 61 7 false .int := ⟨RX12, TX12, cf_12, by decide, a_in 1033 (by decide +kernel) rfl, rfl, by decide +kernel, fun h => by cases h⟩
theorem fw_X12_7 : a_fr RX12 7 12 61 7 := a_fw.r fp_X12_7
theorem fp_X12_13 : a_fw RX12 13 12 61 8 false .int := ⟨RX12, TX12, cf_12, by decide, a_in 1034 (by decide +kernel) rfl, rfl, by decide +kernel, fun h => by cases h⟩
theorem fw_X12_13 : a_fr RX12 13 12 61 8 := a_fw.r fp_X12_13
theorem fp_X12_224 : a_fw RX12 224 12 61 9 false .int := ⟨RX12, TX12, cf_12, by decide, a_in 1035 (by decide +kernel) rfl, rfl, by decide +kernel, fun h => by cases h⟩
theorem fw_X12_224 : a_fr RX12 224 12 61 9 := a_fw.r fp_X12_224
theorem fp_X12_16 : a_fw RX12 16 12 61 10 true (.array .int) := ⟨RX12, TX12, cf_12, by decide, a_in 1036 (by decide +kernel) rfl, rfl, by decide +kernel, fun _ => rfl⟩
theorem fw_X12_16 : a_fr RX12 16 12 61 10 := a_fw.r fp_X12_16
theorem fp_X12_20 : a_fw RX12 20 12 61 11 true (.array .int) := ⟨RX12, TX12, cf_12, by decide, a_in 1037 (by decide +kernel) rfl, rfl, by decide +kernel, fun _ => rfl⟩
theorem fw_X12_20 : a_fr RX12 20 12 61 11 := a_fw.r fp_X12_20
theorem fp_X12_23 : a_fw RX12 23 12 61 12 true (.array .int) := ⟨RX12, TX12, cf_12, by decide, a_in 1038 (by decide +kernel) rfl, rfl, by decide +kernel, fun _ => rfl⟩
theorem fw_X12_23 : a_fr RX12 23 12 61 12 := a_fw.r fp_X12_23
theorem fp_X12_26 : a_fw RX12 26 12 61 13 true (.array .boolean) := ⟨RX12, TX12, cf_12, by decide, a_in 1039 (by decide +kernel) rfl, rfl, by decide +kernel, fun _ => rfl⟩
theorem fw_X12_26 : a_fr RX12 26 12 61 13 := a_fw.r fp_X12_26
theorem fp_X12_30 : a_fw RX12 30 12 61 14 true (.array .int) := ⟨RX12, TX12, cf_12, by decide, a_in 1040 (by decide +kernel) rfl, rfl, by decide +kernel, fun _ => rfl⟩
theorem fw_X12_30 : a_fr RX12 30 12 61 14 := a_fw.r fp_X12_30
theorem fp_X12_33 : a_fw RX12 33 12 61 15 true (.array .int) := ⟨RX12, TX12, cf_12, by decide, a_in 1041 (by decide +kernel) rfl, rfl, by decide +kernel, fun _ => rfl⟩
theorem fw_X12_33 : a_fr RX12 33 12 61 15 := a_fw.r fp_X12_33
theorem fp_X12_36 : a_fw RX12 36 12 61 16 true (.array .int) := ⟨RX12, TX12, cf_12, by decide, a_in 1042 (by decide +kernel) rfl, rfl, by decide +kernel, fun _ => rfl⟩
theorem fw_X12_36 : a_fr RX12 36 12 61 16 := a_fw.r fp_X12_36
theorem fp_X12_39 : a_fw RX12 39 12 61 17 true (.array .int) := ⟨RX12, TX12, cf_12, by decide, a_in 1043 (by decide +kernel) rfl, rfl, by decide +kernel, fun _ => rfl⟩
theorem fw_X12_39 : a_fr RX12 39 12 61 17 := a_fw.r fp_X12_39
theorem fp_X12_42 : a_fw RX12 42 12 61 18 true (.array .int) := ⟨RX12, TX12, cf_12, by decide, a_in 1044 (by decide +kernel) rfl, rfl, by decide +kernel, fun _ => rfl⟩
theorem fw_X12_42 : a_fr RX12 42 12 61 18 := a_fw.r fp_X12_42
theorem fp_X12_45 : a_fw RX12 45 12 61 19 true (.array .int) := ⟨RX12, TX12, cf_12, by decide, a_in 1045 (by decide +kernel) rfl, rfl, by decide +kernel, fun _ => rfl⟩
theorem fw_X12_45 : a_fr RX12 45 12 61 19 := a_fw.r fp_X12_45
theorem fp_X12_48 : a_fw RX12 48 12 61 20 true (.array .int) := ⟨RX12, TX12, cf_12, by decide, a_in 1046 (by decide +kernel) rfl, rfl, by decide +kernel, fun _ => rfl⟩
theorem fw_X12_48 : a_fr RX12 48 12 61 20 := a_fw.r fp_X12_48
theorem fp_X12_51 : a_fw RX12 51 12 61 21 true (.array .int) := ⟨RX12, TX12, cf_12, by decide, a_in 1047 (by decide +kernel) rfl, rfl, by decide +kernel, fun _ => rfl⟩
theorem fw_X12_51 : a_fr RX12 51 12 61 21 := a_fw.r fp_X12_51
theorem fp_X12_54 : a_fw RX12 54 12 61 22 true (.array .int) := ⟨RX12, TX12, cf_12, by decide, a_in 1048 (by decide +kernel) rfl, rfl, by decide +kernel, fun _ => rfl⟩
theorem fw_X12_54 : a_fr RX12 54 12 61 22 := a_fw.r fp_X12_54
theorem fp_X12_57 : a_fw RX12 57 12 61 23 true (.array .int) := ⟨RX12, TX12, cf_12, by decide, a_in 1049 (by decide +kernel) rfl, rfl, by decide +kernel, fun _ => rfl⟩
theorem fw_X12_57 : a_fr RX12 57 12 61 23 := a_fw.r fp_X12_57
theorem fp_X12_60 : a_fw RX12 60 12 61 24 true (.array .int) := ⟨RX12, TX12, cf_12, by decide, a_in 1050 (by decide +kernel) rfl, rfl, by decide +kernel, fun _ => rfl⟩
theorem fw_X12_60 : a_fr RX12 60 12 61 24 := a_fw.r fp_X12_60
theorem fp_X12_63 : a_fw RX12 63 12 61 25 true (.array .int) := ⟨RX12, TX12, cf_12, by decide, a_in 1051 (by decide +kernel) rfl, rfl, by decide +kernel, fun _ => rfl⟩
theorem fw_X12_63 : a_fr RX12 63 12 61 25 := a_fw.r fp_X12_63
theorem fp_X12_66 : a_fw RX12 66 12 61 26 true (.array .int) := ⟨RX12, TX12, cf_12, by decide, a_in 1052 (by decide +kernel) rfl, rfl, by decide +kernel, fun _ => rfl⟩
theorem fw_X12_66 : a_fr RX12 66 12 61 26 := a_fw.r fp_X12_66
theorem fp_X12_69 : a_fw RX12 69 12 61 27 true (.array .int) := ⟨RX12, TX12, cf_12, by decide, a_in 1053 (by decide +kernel) rfl, rfl, by decide +kernel, fun _ => rfl⟩
theorem fw_X12_69 : a_fr RX12 69 12 61 27 := a_fw.r fp_X12_69
theorem fp_X12_72 : a_fw RX12 72 12 61 28 true (.array .int) := ⟨RX12, TX12, cf_12, by decide, a_in 1054 (by decide +kernel) rfl, rfl, by decide +kernel, fun _ => rfl⟩
theorem fw_X12_72 : a_fr RX12 72 12 61 28 := a_fw.r fp_X12_72
theorem fp_X12_169 : a_fw RX12 169 12 61 29 false .boolean := ⟨RX12, TX12, cf_12, by decide, a_in 1055 (by decide +kernel) rfl, rfl, by decide +kernel, fun h => by cases h⟩
theorem fw_X12_169 : a_fr RX12 169 12 61 29 := a_fw.r fp_X12_169
theorem fp_X12_173 : a_fw RX12 173 12 61 30 false .boolean := ⟨RX12, TX12, cf_12, by decide, a_in 1056 (by decide +kernel) rfl, rfl, by decide +kernel, fun h => by cases h⟩
theorem fw_X12_173 : a_fr RX12 173 12 61 30 := a_fw.r fp_X12_173
theorem fp_X12_75 : a_fw RX12 75 12 61 31 true (.array .int) := ⟨RX12, TX12, cf_12, by decide, a_in 1057 (by decide +kernel) rfl, rfl, by decide +kernel, fun _ => rfl⟩
theorem fw_X12_75 : a_fr RX12 75 12 61 31 := a_fw.r fp_X12_75
theorem fp_X12_78 : a_fw RX12 78 12 61 32 true (.array .int) := ⟨RX12, TX12, cf_12, by decide, a_in 1058 (by decide +kernel) rfl, rfl, by decide +kernel, fun _ => rfl⟩
theorem fw_X12_78 : a_fr RX12 78 12 61 32 := a_fw.r fp_X12_78
theorem fp_X12_81 : a_fw RX12 81 12 61 33 true (.array .int) := ⟨RX12, TX12, cf_12, by decide, a_in 1059 (by decide +kernel) rfl, rfl, by decide +kernel, fun _ => rfl⟩
theorem fw_X12_81 : a_fr RX12 81 12 61 33 := a_fw.r fp_X12_81
theorem fp_X12_84 : a_fw RX12 84 12 61 34 true (.array .int) := ⟨RX12, TX12, cf_12, by decide, a_in 1060 (by decide +kernel) rfl, rfl, by decide +kernel, fun _ => rfl⟩
theorem fw_X12_84 : a_fr RX12 84 12 61 34 := a_fw.r fp_X12_84
theorem fp_X12_87 : a_fw RX12 87 12 61 35 true (.array .int) := ⟨RX12, TX12, cf_12, by decide, a_in 1061 (by decide +kernel) rfl, rfl, by decide +kernel, fun _ => rfl⟩
theorem fw_X12_87 : a_fr RX12 87 12 61 35 := a_fw.r fp_X12_87
theorem fp_X12_90 : a_fw RX12 90 12 61 36 true (.array .int) := ⟨RX12, TX12, cf_12, by decide, a_in 1062 (by decide +kernel) rfl, rfl, by decide +kernel, fun _ => rfl⟩
theorem fw_X12_90 : a_fr RX12 90 12 61 36 := a_fw.r fp_X12_90
theorem fp_X12_93 : a_fw RX12 93 12 61 37 true (.array .int) := ⟨RX12, TX12, cf_12, by decide, a_in 1063 (by decide +kernel) rfl, rfl, by decide +kernel, fun _ => rfl⟩
theorem fw_X12_93 : a_fr RX12 93 12 61 37 := a_fw.r fp_X12_93
theorem fp_X12_96 : a_fw RX12 96 12 61 38 true (.array .int) := ⟨RX12, TX12, cf_12, by decide, a_in 1064 (by decide +kernel) rfl, rfl, by decide +kernel, fun _ => rfl⟩
theorem fw_X12_96 : a_fr RX12 96 12 61 38 := a_fw.r fp_X12_96
theorem fp_X12_99 : a_fw RX12 99 12 61 39 true (.array .int) := ⟨RX12, TX12, cf_12, by decide, a_in 1065 (by decide +kernel) rfl, rfl, by decide +kernel, fun _ => rfl⟩
theorem fw_X12_99 : a_fr RX12 99 12 61 39 := a_fw.r fp_X12_99
theorem fp_X12_102 : a_fw RX12 102 12 61 40 true (.array .int) := ⟨RX12, TX12, cf_12, by decide, a_in 1066 (by decide +kernel) rfl, rfl, by decide +kernel, fun _ => rfl⟩
theorem fw_X12_102 : a_fr RX12 102 12 61 40 := a_fw.r fp_X12_102
theorem fp_X12_105 : a_fw RX12 105 12 61 41 true (.array .int) := ⟨RX12, TX12, cf_12, by decide, a_in 1067 (by decide +kernel) rfl, rfl, by decide +kernel, fun _ => rfl⟩
theorem fw_X12_105 : a_fr RX12 105 12 61 41 := a_fw.r fp_X12_105
theorem fp_X12_230 : a_fw RX12 230 12 61 42 false .int := ⟨RX12, TX12, cf_12, by decide, a_in 1068 (by decide +kernel) rfl, rfl, by decide +kernel, fun h => by cases h⟩
theorem fw_X12_230 : a_fr RX12 230 12 61 42 := a_fw.r fp_X12_230
theorem fp_X12_233 : a_fw RX12 233 12 61 43 false .boolean := ⟨RX12, TX12, cf_12, by decide, a_in 1069 (by decide +kernel) rfl, rfl, by decide +kernel, fun h => by cases h⟩
theorem fw_X12_233 : a_fr RX12 233 12 61 43 := a_fw.r fp_X12_233
theorem fp_X12_108 : a_fw RX12 108 12 61 44 true (.array .int) := ⟨RX12, TX12, cf_12, by decide, a_in 1070 (by decide +kernel) rfl, rfl, by decide +kernel, fun _ => rfl⟩
theorem fw_X12_108 : a_fr RX12 108 12 61 44 := a_fw.r fp_X12_108
theorem fp_X12_111 : a_fw RX12 111 12 61 45 true (.array .int) := ⟨RX12, TX12, cf_12, by decide, a_in 1071 (by decide +kernel) rfl, rfl, by decide +kernel, fun _ => rfl⟩
theorem fw_X12_111 : a_fr RX12 111 12 61 45 := a_fw.r fp_X12_111
theorem fp_X12_114 : a_fw RX12 114 12 61 46 true (.array .int) := ⟨RX12, TX12, cf_12, by decide, a_in 1072 (by decide +kernel) rfl, rfl, by decide +kernel, fun _ => rfl⟩
theorem fw_X12_114 : a_fr RX12 114 12 61 46 := a_fw.r fp_X12_114
theorem fp_X12_117 : a_fw RX12 117 12 61 47 true (.array .int) := ⟨RX12, TX12, cf_12, by decide, a_in 1073 (by decide +kernel) rfl, rfl, by decide +kernel, fun _ => rfl⟩
theorem fw_X12_117 : a_fr RX12 117 12 61 47 := a_fw.r fp_X12_117
theorem fp_X12_120 : a_fw RX12 120 12 61 48 true (.array .int) := ⟨RX12, TX12, cf_12, by decide, a_in 1074 (by decide +kernel) rfl, rfl, by decide +kernel, fun _ => rfl⟩
theorem fw_X12_120 : a_fr RX12 120 12 61 48 := a_fw.r fp_X12_120
theorem fp_X12_123 : a_fw RX12 123 12 61 49 true (.array .int) := ⟨RX12, TX12, cf_12, by decide, a_in 1075 (by decide +kernel) rfl, rfl, by decide +kernel, fun _ => rfl⟩
theorem fw_X12_123 : a_fr RX12 123 12 61 49 := a_fw.r fp_X12_123
theorem fp_X12_126 : a_fw RX12 126 12 61 50 true (.array .int) := ⟨RX12, TX12, cf_12, by decide, a_in 1076 (by decide +kernel) rfl, rfl, by decide +kernel, fun _ => rfl⟩
theorem fw_X12_126 : a_fr RX12 126 12 61 50 := a_fw.r fp_X12_126
theorem fp_X12_129 : a_fw RX12 129 12 61 51 true (.array .int) := ⟨RX12, TX12, cf_12, by decide, a_in 1077 (by decide +kernel) rfl, rfl, by decide +kernel, fun _ => rfl⟩
theorem fw_X12_129 : a_fr RX12 129 12 61 51 := a_fw.r fp_X12_129
theorem fp_X12_132 : a_fw RX12 132 12 61 52 true (.array .int) := ⟨RX12, TX12, cf_12, by decide, a_in 1078 (by decide +kernel) rfl, rfl, by decide +kernel, fun _ => rfl⟩
theorem fw_X12_132 : a_fr RX12 132 12 61 52 := a_fw.r fp_X12_132
theorem fp_X12_135 : a_fw RX12 135 12 61 53 true (.array .int) := ⟨RX12, TX12, cf_12, by decide, a_in 1079 (by decide +kernel) rfl, rfl, by decide +kernel, fun _ => rfl⟩
theorem fw_X12_135 : a_fr RX12 135 12 61 53 := a_fw.r fp_X12_135
theorem fp_X12_138 : a_fw RX12 138 12 61 54 true (.array .int) := ⟨RX12, TX12, cf_12, by decide, a_in 1080 (by decide +kernel) rfl, rfl, by decide +kernel, fun _ => rfl⟩
theorem fw_X12_138 : a_fr RX12 138 12 61 54 := a_fw.r fp_X12_138
theorem fp_X12_141 : a_fw RX12 141 12 61 55 true (.array .int) := ⟨RX12, TX12, cf_12, by decide, a_in 1081 (by decide +kernel) rfl, rfl, by decide +kernel, fun _ => rfl⟩
theorem fw_X12_141 : a_fr RX12 141 12 61 55 := a_fw.r fp_X12_141
theorem fp_X12_305 : a_fw RX12 305 12 61 56 false .int := ⟨RX12, TX12, cf_12, by decide, a_in 1082 (by decide +kernel) rfl, rfl, by decide +kernel, fun h => by cases h⟩
theorem fw_X12_305 : a_fr RX12 305 12 61 56 := a_fw.r fp_X12_305
theorem fp_X12_319 : a_fw RX12 319 12 61 57 false .int := ⟨RX12, TX12, cf_12, by decide, a_in 1083 (by decide +kernel) rfl, rfl, by decide +kernel, fun h => by cases h⟩
theorem fw_X12_319 : a_fr RX12 319 12 61 57 := a_fw.r fp_X12_319
theorem fp_X12_144 : a_fw RX12 144 12 61 58 true (.array .int) := ⟨RX12, TX12, cf_12, by decide, a_in 1084 (by decide +kernel) rfl, rfl, by decide +kernel, fun _ => rfl⟩
theorem fw_X12_144 : a_fr RX12 144 12 61 58 := a_fw.r fp_X12_144
theorem fp_X12_147 : a_fw RX12 147 12 61 59 true (.array .int) := ⟨RX12, TX12, cf_12, by decide, a_in 1085 (by decide +kernel) rfl, rfl, by decide +kernel, fun _ => rfl⟩
theorem fw_X12_147 : a_fr RX12 147 12 61 59 := a_fw.r fp_X12_147
theorem fp_X12_150 : a_fw RX12 150 12 61 60 true (.array .int) := ⟨RX12, TX12, cf_12, by decide, a_in 1086 (by decide +kernel) rfl, rfl, by decide +kernel, fun _ => rfl⟩
theorem fw_X12_150 : a_fr RX12 150 12 61 60 := a_fw.r fp_X12_150
theorem lk_L_17 : Cond.methodLink RL 17 mX12_corner.2.1 ∈ lw_g := a_in 1210 (by decide +kernel) rfl
theorem ct_X12_176 : Cond.constant RX12 176 (-1000002) ∈ lw_g := a_in 1214 (by decide +kernel) rfl
theorem lk_X12_177 : Cond.methodLink RX12 177 mX12_finds.2.1 ∈ lw_g := a_in 1215 (by decide +kernel) rfl
theorem lk_L_22 : Cond.methodLink RL 22 mX12_street.2.1 ∈ lw_g := a_in 1219 (by decide +kernel) rfl
theorem lk_X12_181 : Cond.methodLink RX12 181 mX12_isCorner.2.1 ∈ lw_g := a_in 1223 (by decide +kernel) rfl
theorem lk_X12_159 : Cond.methodLink RX12 159 mX12_in.2.1 ∈ lw_g := a_in 1227 (by decide +kernel) rfl
theorem ct_X12_185 : Cond.constant RX12 185 (-1000001) ∈ lw_g := a_in 1230 (by decide +kernel) rfl
theorem lk_X12_189 : Cond.methodLink RX12 189 mX12_another.2.1 ∈ lw_g := a_in 1231 (by decide +kernel) rfl
theorem lk_L_27 : Cond.methodLink RL 27 mX12_shut.2.1 ∈ lw_g := a_in 1235 (by decide +kernel) rfl
theorem lk_L_32 : Cond.methodLink RL 32 mX12_far.2.1 ∈ lw_g := a_in 1239 (by decide +kernel) rfl
theorem lk_X12_193 : Cond.methodLink RX12 193 mX12_findFars.2.1 ∈ lw_g := a_in 1243 (by decide +kernel) rfl
theorem ct_X12_192 : Cond.constant RX12 192 (1000000) ∈ lw_g := a_in 1247 (by decide +kernel) rfl
theorem ct_X12_197 : Cond.constant RX12 197 (-1000004) ∈ lw_g := a_in 1248 (by decide +kernel) rfl
theorem lk_L_36 : Cond.methodLink RL 36 mX12_school.2.1 ∈ lw_g := a_in 1249 (by decide +kernel) rfl
theorem lk_L_40 : Cond.methodLink RL 40 mX12_as.2.1 ∈ lw_g := a_in 1253 (by decide +kernel) rfl
theorem lk_X12_198 : Cond.methodLink RX12 198 mX12_isSchool.2.1 ∈ lw_g := a_in 1257 (by decide +kernel) rfl
theorem lk_X12_201 : Cond.methodLink RX12 201 mX12_isOf.2.1 ∈ lw_g := a_in 1261 (by decide +kernel) rfl
theorem ct_X12_205 : Cond.constant RX12 205 (-1000003) ∈ lw_g := a_in 1264 (by decide +kernel) rfl
theorem lk_L_44 : Cond.methodLink RL 44 mX12_of.2.1 ∈ lw_g := a_in 1265 (by decide +kernel) rfl
theorem lk_X12_209 : Cond.methodLink RX12 209 mX12_stopsOf.2.1 ∈ lw_g := a_in 1269 (by decide +kernel) rfl
theorem lk_X12_212 : Cond.methodLink RX12 212 mX12_ones.2.1 ∈ lw_g := a_in 1273 (by decide +kernel) rfl
theorem lk_X12_215 : Cond.methodLink RX12 215 mX12_pupilsOf.2.1 ∈ lw_g := a_in 1276 (by decide +kernel) rfl
theorem lk_X12_206 : Cond.methodLink RX12 206 mX12_has.2.1 ∈ lw_g := a_in 1280 (by decide +kernel) rfl
theorem lk_X12_218 : Cond.methodLink RX12 218 mX12_mayTake.2.1 ∈ lw_g := a_in 1283 (by decide +kernel) rfl
theorem lk_L_48 : Cond.methodLink RL 48 mX12_bell.2.1 ∈ lw_g := a_in 1287 (by decide +kernel) rfl
theorem lk_L_52 : Cond.methodLink RL 52 mX12_wish.2.1 ∈ lw_g := a_in 1291 (by decide +kernel) rfl
theorem lk_L_57 : Cond.methodLink RL 57 mX12_stop.2.1 ∈ lw_g := a_in 1295 (by decide +kernel) rfl
theorem lk_L_61 : Cond.methodLink RL 61 mX12_pupils.2.1 ∈ lw_g := a_in 1299 (by decide +kernel) rfl
theorem lk_X12_221 : Cond.methodLink RX12 221 mX12_isStop.2.1 ∈ lw_g := a_in 1303 (by decide +kernel) rfl
theorem lk_L_66 : Cond.methodLink RL 66 mX12_gone.2.1 ∈ lw_g := a_in 1307 (by decide +kernel) rfl
theorem lk_L_70 : Cond.methodLink RL 70 mX12_terms.2.1 ∈ lw_g := a_in 1311 (by decide +kernel) rfl
theorem lk_L_74 : Cond.methodLink RL 74 mX12_routes.2.1 ∈ lw_g := a_in 1315 (by decide +kernel) rfl
theorem lk_X12_243 : Cond.methodLink RX12 243 mX12_plan.2.1 ∈ lw_g := a_in 1319 (by decide +kernel) rfl
theorem lk_X12_236 : Cond.methodLink RX12 236 mX12_lengths.2.1 ∈ lw_g := a_in 1323 (by decide +kernel) rfl
theorem lk_X12_240 : Cond.methodLink RX12 240 mX12_part.2.1 ∈ lw_g := a_in 1327 (by decide +kernel) rfl
theorem lk_X12_227 : Cond.methodLink RX12 227 mX12_isRoute.2.1 ∈ lw_g := a_in 1331 (by decide +kernel) rfl
theorem lk_L_78 : Cond.methodLink RL 78 mX12_route.2.1 ∈ lw_g := a_in 1335 (by decide +kernel) rfl
theorem lk_X12_250 : Cond.methodLink RX12 250 mX12_stopOf.2.1 ∈ lw_g := a_in 1339 (by decide +kernel) rfl
theorem lk_X12_246 : Cond.methodLink RX12 246 mX12_nextStop.2.1 ∈ lw_g := a_in 1343 (by decide +kernel) rfl
theorem lk_L_82 : Cond.methodLink RL 82 mX12_ride.2.1 ∈ lw_g := a_in 1347 (by decide +kernel) rfl
theorem lk_X12_253 : Cond.methodLink RX12 253 mX12_rideOf.2.1 ∈ lw_g := a_in 1351 (by decide +kernel) rfl
theorem lk_L_86 : Cond.methodLink RL 86 mX12_all.2.1 ∈ lw_g := a_in 1355 (by decide +kernel) rfl
theorem lk_L_90 : Cond.methodLink RL 90 mX12_start.2.1 ∈ lw_g := a_in 1359 (by decide +kernel) rfl
theorem lk_X12_262 : Cond.methodLink RX12 262 mX12_asTheyAre.2.1 ∈ lw_g := a_in 1363 (by decide +kernel) rfl
theorem lk_X12_259 : Cond.methodLink RX12 259 mX12_startOf.2.1 ∈ lw_g := a_in 1367 (by decide +kernel) rfl
theorem lk_X12_256 : Cond.methodLink RX12 256 mX12_rings.2.1 ∈ lw_g := a_in 1371 (by decide +kernel) rfl
theorem lk_L_94 : Cond.methodLink RL 94 mX12_follows.2.1 ∈ lw_g := a_in 1374 (by decide +kernel) rfl
theorem lk_X12_265 : Cond.methodLink RX12 265 mX12_canFollow.2.1 ∈ lw_g := a_in 1378 (by decide +kernel) rfl
theorem lk_L_98 : Cond.methodLink RL 98 mX12_buses.2.1 ∈ lw_g := a_in 1382 (by decide +kernel) rfl
theorem lk_X12_271 : Cond.methodLink RX12 271 mX12_findChains.2.1 ∈ lw_g := a_in 1386 (by decide +kernel) rfl
theorem lk_X12_268 : Cond.methodLink RX12 268 mX12_findMay.2.1 ∈ lw_g := a_in 1390 (by decide +kernel) rfl
theorem lk_L_102 : Cond.methodLink RL 102 mX12_chain.2.1 ∈ lw_g := a_in 1394 (by decide +kernel) rfl
theorem lk_X12_274 : Cond.methodLink RX12 274 mX12_isFirst.2.1 ∈ lw_g := a_in 1398 (by decide +kernel) rfl
theorem lk_L_106 : Cond.methodLink RL 106 mX12_aides.2.1 ∈ lw_g := a_in 1402 (by decide +kernel) rfl
theorem lk_L_113 : Cond.methodLink RL 113 mX12_feed.2.1 ∈ lw_g := a_in 1406 (by decide +kernel) rfl
theorem ct_X12_280 : Cond.constantLong RX12 280 (255) ∈ lw_g := a_in 1410 (by decide +kernel) rfl
theorem lk_L_117 : Cond.methodLink RL 117 mX12_text.2.1 ∈ lw_g := a_in 1411 (by decide +kernel) rfl
theorem lk_X12_285 : Cond.methodLink RX12 285 mX12_mayStand.2.1 ∈ lw_g := a_in 1415 (by decide +kernel) rfl
theorem lk_X12_282 : Cond.methodLink RX12 282 mX12_letterOf.2.1 ∈ lw_g := a_in 1419 (by decide +kernel) rfl
theorem ct_X12_288 : Cond.constant RX12 288 (-1000100) ∈ lw_g := a_in 1422 (by decide +kernel) rfl
theorem lk_L_121 : Cond.methodLink RL 121 mX12_allowed.2.1 ∈ lw_g := a_in 1423 (by decide +kernel) rfl
theorem lk_X12_292 : Cond.methodLink RX12 292 mX12_isAllowed.2.1 ∈ lw_g := a_in 1427 (by decide +kernel) rfl
theorem lk_L_125 : Cond.methodLink RL 125 mX12_cost.2.1 ∈ lw_g := a_in 1431 (by decide +kernel) rfl
theorem lk_X12_295 : Cond.methodLink RX12 295 mX12_costOf.2.1 ∈ lw_g := a_in 1435 (by decide +kernel) rfl
theorem lk_L_129 : Cond.methodLink RL 129 mX12_trades.2.1 ∈ lw_g := a_in 1439 (by decide +kernel) rfl
theorem lk_X12_312 : Cond.methodLink RX12 312 mX12_findTrades.2.1 ∈ lw_g := a_in 1443 (by decide +kernel) rfl
theorem ct_X12_308 : Cond.constant RX12 308 (2000000000) ∈ lw_g := a_in 1447 (by decide +kernel) rfl
theorem lk_X12_309 : Cond.methodLink RX12 309 mX12_fewest.2.1 ∈ lw_g := a_in 1448 (by decide +kernel) rfl
theorem lk_X12_299 : Cond.methodLink RX12 299 mX12_isFound.2.1 ∈ lw_g := a_in 1452 (by decide +kernel) rfl
theorem lk_X12_302 : Cond.methodLink RX12 302 mX12_turn.2.1 ∈ lw_g := a_in 1456 (by decide +kernel) rfl
theorem lk_L_133 : Cond.methodLink RL 133 mX12_trade.2.1 ∈ lw_g := a_in 1460 (by decide +kernel) rfl
theorem lk_L_137 : Cond.methodLink RL 137 mX12_take.2.1 ∈ lw_g := a_in 1464 (by decide +kernel) rfl
theorem lk_L_141 : Cond.methodLink RL 141 mX12_morning.2.1 ∈ lw_g := a_in 1468 (by decide +kernel) rfl
theorem lk_X12_316 : Cond.methodLink RX12 316 mX12_withSnow.2.1 ∈ lw_g := a_in 1472 (by decide +kernel) rfl
theorem lk_L_145 : Cond.methodLink RL 145 mX12_comes.2.1 ∈ lw_g := a_in 1476 (by decide +kernel) rfl
theorem lk_L_149 : Cond.methodLink RL 149 mX12_fair.2.1 ∈ lw_g := a_in 1480 (by decide +kernel) rfl
theorem lk_L_153 : Cond.methodLink RL 153 mX12_sheet.2.1 ∈ lw_g := a_in 1484 (by decide +kernel) rfl
theorem lk_X12_322 : Cond.methodLink RX12 322 mX12_isSheet.2.1 ∈ lw_g := a_in 1488 (by decide +kernel) rfl
theorem ct_X12_325 : Cond.constant RX12 325 (-1000006) ∈ lw_g := a_in 1491 (by decide +kernel) rfl
theorem lk_L_157 : Cond.methodLink RL 157 mX12_write.2.1 ∈ lw_g := a_in 1492 (by decide +kernel) rfl
theorem ct_X12_326 : Cond.constant RX12 326 (-1000005) ∈ lw_g := a_in 1496 (by decide +kernel) rfl
theorem lk_L_162 : Cond.methodLink RL 162 mX12_copy.2.1 ∈ lw_g := a_in 1497 (by decide +kernel) rfl
theorem lk_L_166 : Cond.methodLink RL 166 mX12_read.2.1 ∈ lw_g := a_in 1501 (by decide +kernel) rfl
theorem lk_L_170 : Cond.methodLink RL 170 mX12_told.2.1 ∈ lw_g := a_in 1505 (by decide +kernel) rfl
theorem ct_L_107 : Cond.constantLong RL 107 (4294967295) ∈ lw_g := a_in 1509 (by decide +kernel) rfl
