theorem dX1_link_154 : decode cX1_link 154 = .ok (.iand, 1) := by decide +kernel
theorem dX1_link_155 : decode cX1_link 155 = .ok (.putfield 135, 3) := by decide +kernel
theorem dX1_link_158 : decode cX1_link 158 = .ok (.return_, 1) := by decide +kernel
theorem dX1_fillMatcher_0 : decode cX1_fillMatcher 0 = .ok (.aload_n 0, 1) := by decide +kernel
theorem dX1_fillMatcher_1 : decode cX1_fillMatcher 1 = .ok (.getfield 29, 3) := by decide +kernel
theorem dX1_fillMatcher_4 : decode cX1_fillMatcher 4 = .ok (.aload_n 0, 1) := by decide +kernel
theorem dX1_fillMatcher_5 : decode cX1_fillMatcher 5 = .ok (.getfield 37, 3) := by decide +kernel
theorem dX1_fillMatcher_8 : decode cX1_fillMatcher 8 = .ok (.putfield 138, 3) := by decide +kernel
theorem dX1_fillMatcher_11 : decode cX1_fillMatcher 11 = .ok (.iconst 0, 1) := by decide +kernel
theorem dX1_fillMatcher_12 : decode cX1_fillMatcher 12 = .ok (.istore_n 2, 1) := by decide +kernel
theorem dX1_fillMatcher_13 : decode cX1_fillMatcher 13 = .ok (.iload_n 2, 1) := by decide +kernel
theorem dX1_fillMatcher_14 : decode cX1_fillMatcher 14 = .ok (.aload_n 0, 1) := by decide +kernel
theorem dX1_fillMatcher_15 : decode cX1_fillMatcher 15 = .ok (.getfield 37, 3) := by decide +kernel
theorem dX1_fillMatcher_18 : decode cX1_fillMatcher 18 = .ok (.if_icmp .ge 57, 3) := by decide +kernel
theorem dX1_fillMatcher_21 : decode cX1_fillMatcher 21 = .ok (.iconst 0, 1) := by decide +kernel
theorem dX1_fillMatcher_22 : decode cX1_fillMatcher 22 = .ok (.istore_n 3, 1) := by decide +kernel
theorem dX1_fillMatcher_23 : decode cX1_fillMatcher 23 = .ok (.iconst 0, 1) := by decide +kernel
theorem dX1_fillMatcher_24 : decode cX1_fillMatcher 24 = .ok (.istore 4, 2) := by decide +kernel
theorem dX1_fillMatcher_26 : decode cX1_fillMatcher 26 = .ok (.iload 4, 2) := by decide +kernel
theorem dX1_fillMatcher_28 : decode cX1_fillMatcher 28 = .ok (.aload_n 0, 1) := by decide +kernel
theorem dX1_fillMatcher_29 : decode cX1_fillMatcher 29 = .ok (.getfield 37, 3) := by decide +kernel
theorem dX1_fillMatcher_32 : decode cX1_fillMatcher 32 = .ok (.if_icmp .ge 27, 3) := by decide +kernel
theorem dX1_fillMatcher_35 : decode cX1_fillMatcher 35 = .ok (.aload_n 0, 1) := by decide +kernel
theorem dX1_fillMatcher_36 : decode cX1_fillMatcher 36 = .ok (.aload_n 1, 1) := by decide +kernel
theorem dX1_fillMatcher_37 : decode cX1_fillMatcher 37 = .ok (.iload_n 2, 1) := by decide +kernel
theorem dX1_fillMatcher_38 : decode cX1_fillMatcher 38 = .ok (.iload 4, 2) := by decide +kernel
theorem dX1_fillMatcher_40 : decode cX1_fillMatcher 40 = .ok (.invokevirtual 139, 3) := by decide +kernel
theorem dX1_fillMatcher_43 : decode cX1_fillMatcher 43 = .ok (.ifCond .eq 10, 3) := by decide +kernel
theorem dX1_fillMatcher_46 : decode cX1_fillMatcher 46 = .ok (.iload_n 3, 1) := by decide +kernel
theorem dX1_fillMatcher_47 : decode cX1_fillMatcher 47 = .ok (.iconst 1, 1) := by decide +kernel
theorem dX1_fillMatcher_48 : decode cX1_fillMatcher 48 = .ok (.iload 4, 2) := by decide +kernel
theorem dX1_fillMatcher_50 : decode cX1_fillMatcher 50 = .ok (.ishl, 1) := by decide +kernel
theorem dX1_fillMatcher_51 : decode cX1_fillMatcher 51 = .ok (.ior, 1) := by decide +kernel
theorem dX1_fillMatcher_52 : decode cX1_fillMatcher 52 = .ok (.istore_n 3, 1) := by decide +kernel
theorem dX1_fillMatcher_53 : decode cX1_fillMatcher 53 = .ok (.iinc 4 1, 3) := by decide +kernel
theorem dX1_fillMatcher_56 : decode cX1_fillMatcher 56 = .ok (.goto (-30), 3) := by decide +kernel
theorem dX1_fillMatcher_59 : decode cX1_fillMatcher 59 = .ok (.aload_n 0, 1) := by decide +kernel
theorem dX1_fillMatcher_60 : decode cX1_fillMatcher 60 = .ok (.getfield 29, 3) := by decide +kernel
theorem dX1_fillMatcher_63 : decode cX1_fillMatcher 63 = .ok (.getfield 132, 3) := by decide +kernel
theorem dX1_fillMatcher_66 : decode cX1_fillMatcher 66 = .ok (.iload_n 2, 1) := by decide +kernel
theorem dX1_fillMatcher_67 : decode cX1_fillMatcher 67 = .ok (.iload_n 3, 1) := by decide +kernel
theorem dX1_fillMatcher_68 : decode cX1_fillMatcher 68 = .ok (.iastore, 1) := by decide +kernel
theorem dX1_fillMatcher_69 : decode cX1_fillMatcher 69 = .ok (.iinc 2 1, 3) := by decide +kernel
theorem dX1_fillMatcher_72 : decode cX1_fillMatcher 72 = .ok (.goto (-59), 3) := by decide +kernel
theorem dX1_fillMatcher_75 : decode cX1_fillMatcher 75 = .ok (.return_, 1) := by decide +kernel
theorem dX1_busCount_0 : decode cX1_busCount 0 = .ok (.aload_n 0, 1) := by decide +kernel
theorem dX1_busCount_1 : decode cX1_busCount 1 = .ok (.getfield 37, 3) := by decide +kernel
theorem dX1_busCount_4 : decode cX1_busCount 4 = .ok (.aload_n 0, 1) := by decide +kernel
theorem dX1_busCount_5 : decode cX1_busCount 5 = .ok (.getfield 135, 3) := by decide +kernel
theorem dX1_busCount_8 : decode cX1_busCount 8 = .ok (.invokestatic 143, 3) := by decide +kernel
theorem dX1_busCount_11 : decode cX1_busCount 11 = .ok (.isub, 1) := by decide +kernel
theorem dX1_busCount_12 : decode cX1_busCount 12 = .ok (.ireturn, 1) := by decide +kernel
theorem dX1_isFirst_0 : decode cX1_isFirst 0 = .ok (.aload_n 0, 1) := by decide +kernel
theorem dX1_isFirst_1 : decode cX1_isFirst 1 = .ok (.getfield 135, 3) := by decide +kernel
theorem dX1_isFirst_4 : decode cX1_isFirst 4 = .ok (.iload_n 1, 1) := by decide +kernel
theorem dX1_isFirst_5 : decode cX1_isFirst 5 = .ok (.ishr, 1) := by decide +kernel
theorem dX1_isFirst_6 : decode cX1_isFirst 6 = .ok (.iconst 1, 1) := by decide +kernel
theorem dX1_isFirst_7 : decode cX1_isFirst 7 = .ok (.iand, 1) := by decide +kernel
theorem dX1_isFirst_8 : decode cX1_isFirst 8 = .ok (.ifCond .ne 7, 3) := by decide +kernel
theorem dX1_isFirst_11 : decode cX1_isFirst 11 = .ok (.iconst 1, 1) := by decide +kernel
theorem dX1_isFirst_12 : decode cX1_isFirst 12 = .ok (.goto 4, 3) := by decide +kernel
theorem dX1_isFirst_15 : decode cX1_isFirst 15 = .ok (.iconst 0, 1) := by decide +kernel
theorem dX1_isFirst_16 : decode cX1_isFirst 16 = .ok (.ireturn, 1) := by decide +kernel
theorem dX1_driven_0 : decode cX1_driven 0 = .ok (.iload_n 1, 1) := by decide +kernel
theorem dX1_driven_1 : decode cX1_driven 1 = .ok (.istore_n 3, 1) := by decide +kernel
theorem dX1_driven_2 : decode cX1_driven 2 = .ok (.iconst (-1), 1) := by decide +kernel
theorem dX1_driven_3 : decode cX1_driven 3 = .ok (.istore 4, 2) := by decide +kernel
theorem dX1_driven_5 : decode cX1_driven 5 = .ok (.iconst 0, 1) := by decide +kernel
theorem dX1_driven_6 : decode cX1_driven 6 = .ok (.istore 5, 2) := by decide +kernel
theorem dX1_driven_8 : decode cX1_driven 8 = .ok (.iload 5, 2) := by decide +kernel
theorem dX1_driven_10 : decode cX1_driven 10 = .ok (.aload_n 0, 1) := by decide +kernel
theorem dX1_driven_11 : decode cX1_driven 11 = .ok (.getfield 37, 3) := by decide +kernel
theorem dX1_driven_14 : decode cX1_driven 14 = .ok (.if_icmp .ge 38, 3) := by decide +kernel
theorem dX1_driven_17 : decode cX1_driven 17 = .ok (.iload 4, 2) := by decide +kernel
theorem dX1_driven_19 : decode cX1_driven 19 = .ok (.ifCond .ge 33, 3) := by decide +kernel
theorem dX1_driven_22 : decode cX1_driven 22 = .ok (.aload_n 0, 1) := by decide +kernel
theorem dX1_driven_23 : decode cX1_driven 23 = .ok (.iload 5, 2) := by decide +kernel
theorem dX1_driven_25 : decode cX1_driven 25 = .ok (.invokevirtual 148, 3) := by decide +kernel
theorem dX1_driven_28 : decode cX1_driven 28 = .ok (.ifCond .eq 18, 3) := by decide +kernel
theorem dX1_driven_31 : decode cX1_driven 31 = .ok (.iload_n 3, 1) := by decide +kernel
theorem dX1_driven_32 : decode cX1_driven 32 = .ok (.ifCond .ne 8, 3) := by decide +kernel
theorem dX1_driven_35 : decode cX1_driven 35 = .ok (.iload 5, 2) := by decide +kernel
theorem dX1_driven_37 : decode cX1_driven 37 = .ok (.goto 4, 3) := by decide +kernel
theorem dX1_driven_40 : decode cX1_driven 40 = .ok (.iconst (-1), 1) := by decide +kernel
theorem dX1_driven_41 : decode cX1_driven 41 = .ok (.istore 4, 2) := by decide +kernel
theorem dX1_driven_43 : decode cX1_driven 43 = .ok (.iinc 3 (-1), 3) := by decide +kernel
theorem dX1_driven_46 : decode cX1_driven 46 = .ok (.iinc 5 1, 3) := by decide +kernel
theorem dX1_driven_49 : decode cX1_driven 49 = .ok (.goto (-41), 3) := by decide +kernel
theorem dX1_driven_52 : decode cX1_driven 52 = .ok (.iconst 0, 1) := by decide +kernel
theorem dX1_driven_53 : decode cX1_driven 53 = .ok (.istore 5, 2) := by decide +kernel
theorem dX1_driven_55 : decode cX1_driven 55 = .ok (.iload 5, 2) := by decide +kernel
theorem dX1_driven_57 : decode cX1_driven 57 = .ok (.iload_n 2, 1) := by decide +kernel
theorem dX1_driven_58 : decode cX1_driven 58 = .ok (.if_icmp .ge 32, 3) := by decide +kernel
theorem dX1_driven_61 : decode cX1_driven 61 = .ok (.iload 5, 2) := by decide +kernel
theorem dX1_driven_63 : decode cX1_driven 63 = .ok (.aload_n 0, 1) := by decide +kernel
theorem dX1_driven_64 : decode cX1_driven 64 = .ok (.getfield 37, 3) := by decide +kernel
theorem dX1_driven_67 : decode cX1_driven 67 = .ok (.if_icmp .ge 23, 3) := by decide +kernel
theorem dX1_driven_70 : decode cX1_driven 70 = .ok (.iload 4, 2) := by decide +kernel
theorem dX1_driven_72 : decode cX1_driven 72 = .ok (.ifCond .lt 18, 3) := by decide +kernel
theorem dX1_driven_75 : decode cX1_driven 75 = .ok (.aload_n 0, 1) := by decide +kernel
theorem dX1_driven_76 : decode cX1_driven 76 = .ok (.getfield 15, 3) := by decide +kernel
theorem dX1_driven_79 : decode cX1_driven 79 = .ok (.iload 4, 2) := by decide +kernel
theorem dX1_driven_81 : decode cX1_driven 81 = .ok (.iaload, 1) := by decide +kernel
theorem dX1_driven_82 : decode cX1_driven 82 = .ok (.istore 4, 2) := by decide +kernel
theorem dX1_driven_84 : decode cX1_driven 84 = .ok (.iinc 5 1, 3) := by decide +kernel
theorem dX1_driven_87 : decode cX1_driven 87 = .ok (.goto (-32), 3) := by decide +kernel
theorem dX1_driven_90 : decode cX1_driven 90 = .ok (.iload 4, 2) := by decide +kernel
theorem dX1_driven_92 : decode cX1_driven 92 = .ok (.ireturn, 1) := by decide +kernel
theorem dX1_specialBuses_0 : decode cX1_specialBuses 0 = .ok (.iconst 0, 1) := by decide +kernel
theorem dX1_specialBuses_1 : decode cX1_specialBuses 1 = .ok (.istore_n 2, 1) := by decide +kernel
theorem dX1_specialBuses_2 : decode cX1_specialBuses 2 = .ok (.iconst 0, 1) := by decide +kernel
theorem dX1_specialBuses_3 : decode cX1_specialBuses 3 = .ok (.istore_n 3, 1) := by decide +kernel
theorem dX1_specialBuses_4 : decode cX1_specialBuses 4 = .ok (.iload_n 3, 1) := by decide +kernel
theorem dX1_specialBuses_5 : decode cX1_specialBuses 5 = .ok (.aload_n 0, 1) := by decide +kernel
theorem dX1_specialBuses_6 : decode cX1_specialBuses 6 = .ok (.getfield 37, 3) := by decide +kernel
theorem dX1_specialBuses_9 : decode cX1_specialBuses 9 = .ok (.if_icmp .ge 29, 3) := by decide +kernel
theorem dX1_specialBuses_12 : decode cX1_specialBuses 12 = .ok (.aload_n 0, 1) := by decide +kernel
theorem dX1_specialBuses_13 : decode cX1_specialBuses 13 = .ok (.iload_n 3, 1) := by decide +kernel
theorem dX1_specialBuses_14 : decode cX1_specialBuses 14 = .ok (.invokevirtual 148, 3) := by decide +kernel
theorem dX1_specialBuses_17 : decode cX1_specialBuses 17 = .ok (.ifCond .eq 15, 3) := by decide +kernel
theorem dX1_specialBuses_20 : decode cX1_specialBuses 20 = .ok (.aload_n 0, 1) := by decide +kernel
theorem dX1_specialBuses_21 : decode cX1_specialBuses 21 = .ok (.aload_n 1, 1) := by decide +kernel
theorem dX1_specialBuses_22 : decode cX1_specialBuses 22 = .ok (.iload_n 3, 1) := by decide +kernel
theorem dX1_specialBuses_23 : decode cX1_specialBuses 23 = .ok (.invokevirtual 152, 3) := by decide +kernel
theorem dX1_specialBuses_26 : decode cX1_specialBuses 26 = .ok (.ifCond .eq 6, 3) := by decide +kernel
theorem dX1_specialBuses_29 : decode cX1_specialBuses 29 = .ok (.iinc 2 1, 3) := by decide +kernel
theorem dX1_specialBuses_32 : decode cX1_specialBuses 32 = .ok (.iinc 3 1, 3) := by decide +kernel
theorem dX1_specialBuses_35 : decode cX1_specialBuses 35 = .ok (.goto (-31), 3) := by decide +kernel
theorem dX1_specialBuses_38 : decode cX1_specialBuses 38 = .ok (.iload_n 2, 1) := by decide +kernel
theorem dX1_specialBuses_39 : decode cX1_specialBuses 39 = .ok (.ireturn, 1) := by decide +kernel
theorem dX1_drivesSpecial_0 : decode cX1_drivesSpecial 0 = .ok (.iload_n 2, 1) := by decide +kernel
theorem dX1_drivesSpecial_1 : decode cX1_drivesSpecial 1 = .ok (.istore_n 3, 1) := by decide +kernel
theorem dX1_drivesSpecial_2 : decode cX1_drivesSpecial 2 = .ok (.iconst 0, 1) := by decide +kernel
theorem dX1_drivesSpecial_3 : decode cX1_drivesSpecial 3 = .ok (.istore 4, 2) := by decide +kernel
theorem dX1_drivesSpecial_5 : decode cX1_drivesSpecial 5 = .ok (.iload 4, 2) := by decide +kernel
theorem dX1_drivesSpecial_7 : decode cX1_drivesSpecial 7 = .ok (.aload_n 0, 1) := by decide +kernel
theorem dX1_drivesSpecial_8 : decode cX1_drivesSpecial 8 = .ok (.getfield 37, 3) := by decide +kernel
theorem dX1_drivesSpecial_11 : decode cX1_drivesSpecial 11 = .ok (.if_icmp .ge 35, 3) := by decide +kernel
theorem dX1_drivesSpecial_14 : decode cX1_drivesSpecial 14 = .ok (.iload_n 3, 1) := by decide +kernel
theorem dX1_drivesSpecial_15 : decode cX1_drivesSpecial 15 = .ok (.ifCond .lt 31, 3) := by decide +kernel
theorem dX1_drivesSpecial_18 : decode cX1_drivesSpecial 18 = .ok (.aload_n 0, 1) := by decide +kernel
theorem dX1_drivesSpecial_19 : decode cX1_drivesSpecial 19 = .ok (.aload_n 1, 1) := by decide +kernel
theorem dX1_drivesSpecial_20 : decode cX1_drivesSpecial 20 = .ok (.iload_n 3, 1) := by decide +kernel
theorem dX1_drivesSpecial_21 : decode cX1_drivesSpecial 21 = .ok (.invokevirtual 81, 3) := by decide +kernel
theorem dX1_drivesSpecial_24 : decode cX1_drivesSpecial 24 = .ok (.getfield 156, 3) := by decide +kernel
theorem dX1_drivesSpecial_27 : decode cX1_drivesSpecial 27 = .ok (.iconst 3, 1) := by decide +kernel
theorem dX1_drivesSpecial_28 : decode cX1_drivesSpecial 28 = .ok (.if_icmp .ne 5, 3) := by decide +kernel
theorem dX1_drivesSpecial_31 : decode cX1_drivesSpecial 31 = .ok (.iconst 1, 1) := by decide +kernel
theorem dX1_drivesSpecial_32 : decode cX1_drivesSpecial 32 = .ok (.ireturn, 1) := by decide +kernel
theorem dX1_drivesSpecial_33 : decode cX1_drivesSpecial 33 = .ok (.aload_n 0, 1) := by decide +kernel
theorem dX1_drivesSpecial_34 : decode cX1_drivesSpecial 34 = .ok (.getfield 15, 3) := by decide +kernel
theorem dX1_drivesSpecial_37 : decode cX1_drivesSpecial 37 = .ok (.iload_n 3, 1) := by decide +kernel
theorem dX1_drivesSpecial_38 : decode cX1_drivesSpecial 38 = .ok (.iaload, 1) := by decide +kernel
theorem dX1_drivesSpecial_39 : decode cX1_drivesSpecial 39 = .ok (.istore_n 3, 1) := by decide +kernel
theorem dX1_drivesSpecial_40 : decode cX1_drivesSpecial 40 = .ok (.iinc 4 1, 3) := by decide +kernel
theorem dX1_drivesSpecial_43 : decode cX1_drivesSpecial 43 = .ok (.goto (-38), 3) := by decide +kernel
theorem dX1_drivesSpecial_46 : decode cX1_drivesSpecial 46 = .ok (.iconst 0, 1) := by decide +kernel
theorem dX1_drivesSpecial_47 : decode cX1_drivesSpecial 47 = .ok (.ireturn, 1) := by decide +kernel
theorem dX2_init_0 : decode cX2_init 0 = .ok (.aload_n 0, 1) := by decide +kernel
theorem dX2_init_1 : decode cX2_init 1 = .ok (.invokespecial 3, 3) := by decide +kernel
theorem dX2_init_4 : decode cX2_init 4 = .ok (.aload_n 0, 1) := by decide +kernel
theorem dX2_init_5 : decode cX2_init 5 = .ok (.bipush 11, 2) := by decide +kernel
theorem dX2_init_7 : decode cX2_init 7 = .ok (.newarray .int, 2) := by decide +kernel
theorem dX2_init_9 : decode cX2_init 9 = .ok (.putfield 9, 3) := by decide +kernel
theorem dX2_init_12 : decode cX2_init 12 = .ok (.aload_n 0, 1) := by decide +kernel
theorem dX2_init_13 : decode cX2_init 13 = .ok (.bipush 11, 2) := by decide +kernel
theorem dX2_init_15 : decode cX2_init 15 = .ok (.newarray .int, 2) := by decide +kernel
theorem dX2_init_17 : decode cX2_init 17 = .ok (.putfield 15, 3) := by decide +kernel
theorem dX2_init_20 : decode cX2_init 20 = .ok (.aload_n 0, 1) := by decide +kernel
theorem dX2_init_21 : decode cX2_init 21 = .ok (.bipush 11, 2) := by decide +kernel
theorem dX2_init_23 : decode cX2_init 23 = .ok (.newarray .int, 2) := by decide +kernel
theorem dX2_init_25 : decode cX2_init 25 = .ok (.putfield 18, 3) := by decide +kernel
theorem dX2_init_28 : decode cX2_init 28 = .ok (.aload_n 0, 1) := by decide +kernel
theorem dX2_init_29 : decode cX2_init 29 = .ok (.iconst 4, 1) := by decide +kernel
theorem dX2_init_30 : decode cX2_init 30 = .ok (.bipush 7, 2) := by decide +kernel
theorem dX2_init_32 : decode cX2_init 32 = .ok (.multianewarray 21 2, 4) := by decide +kernel
theorem dX2_init_36 : decode cX2_init 36 = .ok (.putfield 23, 3) := by decide +kernel
theorem dX2_init_39 : decode cX2_init 39 = .ok (.aload_n 0, 1) := by decide +kernel
theorem dX2_init_40 : decode cX2_init 40 = .ok (.iconst 4, 1) := by decide +kernel
theorem dX2_init_41 : decode cX2_init 41 = .ok (.newarray .int, 2) := by decide +kernel
theorem dX2_init_43 : decode cX2_init 43 = .ok (.putfield 26, 3) := by decide +kernel
theorem dX2_init_46 : decode cX2_init 46 = .ok (.return_, 1) := by decide +kernel
theorem dX2_weigh_0 : decode cX2_weigh 0 = .ok (.aload_n 0, 1) := by decide +kernel
theorem dX2_weigh_1 : decode cX2_weigh 1 = .ok (.aload_n 1, 1) := by decide +kernel
theorem dX2_weigh_2 : decode cX2_weigh 2 = .ok (.getfield 29, 3) := by decide +kernel
theorem dX2_weigh_5 : decode cX2_weigh 5 = .ok (.putfield 35, 3) := by decide +kernel
theorem dX2_weigh_8 : decode cX2_weigh 8 = .ok (.iconst 1, 1) := by decide +kernel
theorem dX2_weigh_9 : decode cX2_weigh 9 = .ok (.istore 4, 2) := by decide +kernel
theorem dX2_weigh_11 : decode cX2_weigh 11 = .ok (.iconst 0, 1) := by decide +kernel
theorem dX2_weigh_12 : decode cX2_weigh 12 = .ok (.istore 5, 2) := by decide +kernel
theorem dX2_weigh_14 : decode cX2_weigh 14 = .ok (.iload 5, 2) := by decide +kernel
theorem dX2_weigh_16 : decode cX2_weigh 16 = .ok (.aload_n 0, 1) := by decide +kernel
theorem dX2_weigh_17 : decode cX2_weigh 17 = .ok (.getfield 35, 3) := by decide +kernel
theorem dX2_weigh_20 : decode cX2_weigh 20 = .ok (.if_icmp .ge 77, 3) := by decide +kernel
theorem dX2_weigh_23 : decode cX2_weigh 23 = .ok (.iload 4, 2) := by decide +kernel
theorem dX2_weigh_25 : decode cX2_weigh 25 = .ok (.bipush 7, 2) := by decide +kernel
theorem dX2_weigh_27 : decode cX2_weigh 27 = .ok (.imul, 1) := by decide +kernel
theorem dX2_weigh_28 : decode cX2_weigh 28 = .ok (.istore 4, 2) := by decide +kernel
theorem dX2_weigh_30 : decode cX2_weigh 30 = .ok (.iconst 0, 1) := by decide +kernel
theorem dX2_weigh_31 : decode cX2_weigh 31 = .ok (.istore 6, 2) := by decide +kernel
theorem dX2_weigh_33 : decode cX2_weigh 33 = .ok (.iload 6, 2) := by decide +kernel
theorem dX2_weigh_35 : decode cX2_weigh 35 = .ok (.bipush 7, 2) := by decide +kernel
theorem dX2_weigh_37 : decode cX2_weigh 37 = .ok (.if_icmp .ge 54, 3) := by decide +kernel
theorem dX2_weigh_40 : decode cX2_weigh 40 = .ok (.aload_n 3, 1) := by decide +kernel
theorem dX2_weigh_41 : decode cX2_weigh 41 = .ok (.aload_n 1, 1) := by decide +kernel
theorem dX2_weigh_42 : decode cX2_weigh 42 = .ok (.getfield 38, 3) := by decide +kernel
theorem dX2_weigh_45 : decode cX2_weigh 45 = .ok (.iload 5, 2) := by decide +kernel
theorem dX2_weigh_47 : decode cX2_weigh 47 = .ok (.aaload, 1) := by decide +kernel
theorem dX2_weigh_48 : decode cX2_weigh 48 = .ok (.getfield 41, 3) := by decide +kernel
theorem dX2_weigh_51 : decode cX2_weigh 51 = .ok (.iload 6, 2) := by decide +kernel
theorem dX2_weigh_53 : decode cX2_weigh 53 = .ok (.invokevirtual 46, 3) := by decide +kernel
theorem dX2_weigh_56 : decode cX2_weigh 56 = .ok (.istore 7, 2) := by decide +kernel
theorem dX2_weigh_58 : decode cX2_weigh 58 = .ok (.aload_n 0, 1) := by decide +kernel
theorem dX2_weigh_59 : decode cX2_weigh 59 = .ok (.getfield 23, 3) := by decide +kernel
theorem dX2_weigh_62 : decode cX2_weigh 62 = .ok (.iload 5, 2) := by decide +kernel
theorem dX2_weigh_64 : decode cX2_weigh 64 = .ok (.aaload, 1) := by decide +kernel
theorem dX2_weigh_65 : decode cX2_weigh 65 = .ok (.iload 6, 2) := by decide +kernel
theorem dX2_weigh_67 : decode cX2_weigh 67 = .ok (.iload 7, 2) := by decide +kernel
theorem dX2_weigh_69 : decode cX2_weigh 69 = .ok (.ifCond .eq 14, 3) := by decide +kernel
theorem dX2_weigh_72 : decode cX2_weigh 72 = .ok (.aload_n 1, 1) := by decide +kernel
theorem dX2_weigh_73 : decode cX2_weigh 73 = .ok (.iload 5, 2) := by decide +kernel
theorem dX2_weigh_75 : decode cX2_weigh 75 = .ok (.iload 6, 2) := by decide +kernel
theorem dX2_weigh_77 : decode cX2_weigh 77 = .ok (.invokevirtual 52, 3) := by decide +kernel
theorem dX2_weigh_80 : decode cX2_weigh 80 = .ok (.goto 4, 3) := by decide +kernel
theorem dX2_weigh_83 : decode cX2_weigh 83 = .ok (.iconst (-1), 1) := by decide +kernel
theorem dX2_weigh_84 : decode cX2_weigh 84 = .ok (.iastore, 1) := by decide +kernel
theorem dX2_weigh_85 : decode cX2_weigh 85 = .ok (.iinc 6 1, 3) := by decide +kernel
theorem dX2_weigh_88 : decode cX2_weigh 88 = .ok (.goto (-55), 3) := by decide +kernel
theorem dX2_weigh_91 : decode cX2_weigh 91 = .ok (.iinc 5 1, 3) := by decide +kernel
theorem dX2_weigh_94 : decode cX2_weigh 94 = .ok (.goto (-80), 3) := by decide +kernel
theorem dX2_weigh_97 : decode cX2_weigh 97 = .ok (.aload_n 0, 1) := by decide +kernel
theorem dX2_weigh_98 : decode cX2_weigh 98 = .ok (.getfield 15, 3) := by decide +kernel
theorem dX2_weigh_101 : decode cX2_weigh 101 = .ok (.ldc 56, 2) := by decide +kernel
theorem dX2_weigh_103 : decode cX2_weigh 103 = .ok (.invokestatic 57, 3) := by decide +kernel
theorem dX2_weigh_106 : decode cX2_weigh 106 = .ok (.iconst 0, 1) := by decide +kernel
theorem dX2_weigh_107 : decode cX2_weigh 107 = .ok (.istore 5, 2) := by decide +kernel
theorem dX2_weigh_109 : decode cX2_weigh 109 = .ok (.iload 5, 2) := by decide +kernel
theorem dX2_weigh_111 : decode cX2_weigh 111 = .ok (.iload 4, 2) := by decide +kernel
theorem dX2_weigh_113 : decode cX2_weigh 113 = .ok (.if_icmp .ge 57, 3) := by decide +kernel
theorem dX2_weigh_116 : decode cX2_weigh 116 = .ok (.aload_n 0, 1) := by decide +kernel
theorem dX2_weigh_117 : decode cX2_weigh 117 = .ok (.iload 5, 2) := by decide +kernel
theorem dX2_weigh_119 : decode cX2_weigh 119 = .ok (.invokevirtual 63, 3) := by decide +kernel
theorem dX2_weigh_122 : decode cX2_weigh 122 = .ok (.aload_n 0, 1) := by decide +kernel
theorem dX2_weigh_123 : decode cX2_weigh 123 = .ok (.invokevirtual 67, 3) := by decide +kernel
theorem dX2_weigh_126 : decode cX2_weigh 126 = .ok (.istore 6, 2) := by decide +kernel
theorem dX2_weigh_128 : decode cX2_weigh 128 = .ok (.iload 6, 2) := by decide +kernel
theorem dX2_weigh_130 : decode cX2_weigh 130 = .ok (.iconst (-1), 1) := by decide +kernel
theorem dX2_weigh_131 : decode cX2_weigh 131 = .ok (.if_icmp .eq 33, 3) := by decide +kernel
theorem dX2_weigh_134 : decode cX2_weigh 134 = .ok (.iload 6, 2) := by decide +kernel
theorem dX2_weigh_136 : decode cX2_weigh 136 = .ok (.aload_n 0, 1) := by decide +kernel
theorem dX2_weigh_137 : decode cX2_weigh 137 = .ok (.getfield 15, 3) := by decide +kernel
theorem dX2_weigh_140 : decode cX2_weigh 140 = .ok (.aload_n 2, 1) := by decide +kernel
theorem dX2_weigh_141 : decode cX2_weigh 141 = .ok (.getfield 71, 3) := by decide +kernel
theorem dX2_weigh_144 : decode cX2_weigh 144 = .ok (.iaload, 1) := by decide +kernel
theorem dX2_weigh_145 : decode cX2_weigh 145 = .ok (.if_icmp .ge 19, 3) := by decide +kernel
theorem dX2_weigh_148 : decode cX2_weigh 148 = .ok (.aload_n 0, 1) := by decide +kernel
theorem dX2_weigh_149 : decode cX2_weigh 149 = .ok (.iload 5, 2) := by decide +kernel
theorem dX2_weigh_151 : decode cX2_weigh 151 = .ok (.iload 6, 2) := by decide +kernel
theorem dX2_weigh_153 : decode cX2_weigh 153 = .ok (.aload_n 2, 1) := by decide +kernel
theorem dX2_weigh_154 : decode cX2_weigh 154 = .ok (.aload_n 0, 1) := by decide +kernel
theorem dX2_weigh_155 : decode cX2_weigh 155 = .ok (.getfield 26, 3) := by decide +kernel
theorem dX2_weigh_158 : decode cX2_weigh 158 = .ok (.invokevirtual 76, 3) := by decide +kernel
theorem dX2_weigh_161 : decode cX2_weigh 161 = .ok (.invokevirtual 80, 3) := by decide +kernel
theorem dX2_weigh_164 : decode cX2_weigh 164 = .ok (.iinc 5 1, 3) := by decide +kernel
theorem dX2_weigh_167 : decode cX2_weigh 167 = .ok (.goto (-58), 3) := by decide +kernel
theorem dX2_weigh_170 : decode cX2_weigh 170 = .ok (.aload_n 0, 1) := by decide +kernel
theorem dX2_weigh_171 : decode cX2_weigh 171 = .ok (.invokevirtual 84, 3) := by decide +kernel
theorem dX2_weigh_174 : decode cX2_weigh 174 = .ok (.return_, 1) := by decide +kernel
theorem dX2_priceOfBells_0 : decode cX2_priceOfBells 0 = .ok (.iconst 0, 1) := by decide +kernel
theorem dX2_priceOfBells_1 : decode cX2_priceOfBells 1 = .ok (.istore_n 1, 1) := by decide +kernel
theorem dX2_priceOfBells_2 : decode cX2_priceOfBells 2 = .ok (.iconst 0, 1) := by decide +kernel
theorem dX2_priceOfBells_3 : decode cX2_priceOfBells 3 = .ok (.istore_n 2, 1) := by decide +kernel
theorem dX2_priceOfBells_4 : decode cX2_priceOfBells 4 = .ok (.iload_n 2, 1) := by decide +kernel
theorem dX2_priceOfBells_5 : decode cX2_priceOfBells 5 = .ok (.aload_n 0, 1) := by decide +kernel
theorem dX2_priceOfBells_6 : decode cX2_priceOfBells 6 = .ok (.getfield 35, 3) := by decide +kernel
theorem dX2_priceOfBells_9 : decode cX2_priceOfBells 9 = .ok (.if_icmp .ge 44, 3) := by decide +kernel
theorem dX2_priceOfBells_12 : decode cX2_priceOfBells 12 = .ok (.aload_n 0, 1) := by decide +kernel
theorem dX2_priceOfBells_13 : decode cX2_priceOfBells 13 = .ok (.getfield 23, 3) := by decide +kernel
theorem dX2_priceOfBells_16 : decode cX2_priceOfBells 16 = .ok (.iload_n 2, 1) := by decide +kernel
theorem dX2_priceOfBells_17 : decode cX2_priceOfBells 17 = .ok (.aaload, 1) := by decide +kernel
theorem dX2_priceOfBells_18 : decode cX2_priceOfBells 18 = .ok (.aload_n 0, 1) := by decide +kernel
theorem dX2_priceOfBells_19 : decode cX2_priceOfBells 19 = .ok (.getfield 26, 3) := by decide +kernel
theorem dX2_priceOfBells_22 : decode cX2_priceOfBells 22 = .ok (.iload_n 2, 1) := by decide +kernel
theorem dX2_priceOfBells_23 : decode cX2_priceOfBells 23 = .ok (.iaload, 1) := by decide +kernel
theorem dX2_priceOfBells_24 : decode cX2_priceOfBells 24 = .ok (.iaload, 1) := by decide +kernel
theorem dX2_priceOfBells_25 : decode cX2_priceOfBells 25 = .ok (.iconst (-1), 1) := by decide +kernel
theorem dX2_priceOfBells_26 : decode cX2_priceOfBells 26 = .ok (.if_icmp .ne 5, 3) := by decide +kernel
theorem dX2_priceOfBells_29 : decode cX2_priceOfBells 29 = .ok (.iconst (-1), 1) := by decide +kernel
theorem dX2_priceOfBells_30 : decode cX2_priceOfBells 30 = .ok (.ireturn, 1) := by decide +kernel
theorem dX2_priceOfBells_31 : decode cX2_priceOfBells 31 = .ok (.iload_n 1, 1) := by decide +kernel
theorem dX2_priceOfBells_32 : decode cX2_priceOfBells 32 = .ok (.aload_n 0, 1) := by decide +kernel
theorem dX2_priceOfBells_33 : decode cX2_priceOfBells 33 = .ok (.getfield 23, 3) := by decide +kernel
theorem dX2_priceOfBells_36 : decode cX2_priceOfBells 36 = .ok (.iload_n 2, 1) := by decide +kernel
theorem dX2_priceOfBells_37 : decode cX2_priceOfBells 37 = .ok (.aaload, 1) := by decide +kernel
theorem dX2_priceOfBells_38 : decode cX2_priceOfBells 38 = .ok (.aload_n 0, 1) := by decide +kernel
theorem dX2_priceOfBells_39 : decode cX2_priceOfBells 39 = .ok (.getfield 26, 3) := by decide +kernel
theorem dX2_priceOfBells_42 : decode cX2_priceOfBells 42 = .ok (.iload_n 2, 1) := by decide +kernel
theorem dX2_priceOfBells_43 : decode cX2_priceOfBells 43 = .ok (.iaload, 1) := by decide +kernel
theorem dX2_priceOfBells_44 : decode cX2_priceOfBells 44 = .ok (.iaload, 1) := by decide +kernel
theorem dX2_priceOfBells_45 : decode cX2_priceOfBells 45 = .ok (.iadd, 1) := by decide +kernel
theorem dX2_priceOfBells_46 : decode cX2_priceOfBells 46 = .ok (.istore_n 1, 1) := by decide +kernel
theorem dX2_priceOfBells_47 : decode cX2_priceOfBells 47 = .ok (.iinc 2 1, 3) := by decide +kernel
theorem dX2_priceOfBells_50 : decode cX2_priceOfBells 50 = .ok (.goto (-46), 3) := by decide +kernel
theorem dX2_priceOfBells_53 : decode cX2_priceOfBells 53 = .ok (.iload_n 1, 1) := by decide +kernel
theorem dX2_priceOfBells_54 : decode cX2_priceOfBells 54 = .ok (.ireturn, 1) := by decide +kernel
theorem dX2_note_0 : decode cX2_note 0 = .ok (.iload_n 2, 1) := by decide +kernel
theorem dX2_note_1 : decode cX2_note 1 = .ok (.aload_n 0, 1) := by decide +kernel
theorem dX2_note_2 : decode cX2_note 2 = .ok (.getfield 15, 3) := by decide +kernel
theorem dX2_note_5 : decode cX2_note 5 = .ok (.iload_n 3, 1) := by decide +kernel
theorem dX2_note_6 : decode cX2_note 6 = .ok (.iaload, 1) := by decide +kernel
theorem dX2_note_7 : decode cX2_note 7 = .ok (.if_icmp .ge 17, 3) := by decide +kernel
theorem dX2_note_10 : decode cX2_note 10 = .ok (.aload_n 0, 1) := by decide +kernel
theorem dX2_note_11 : decode cX2_note 11 = .ok (.getfield 15, 3) := by decide +kernel
theorem dX2_note_14 : decode cX2_note 14 = .ok (.iload_n 3, 1) := by decide +kernel
theorem dX2_note_15 : decode cX2_note 15 = .ok (.iload_n 2, 1) := by decide +kernel
theorem dX2_note_16 : decode cX2_note 16 = .ok (.iastore, 1) := by decide +kernel
theorem dX2_note_17 : decode cX2_note 17 = .ok (.aload_n 0, 1) := by decide +kernel
theorem dX2_note_18 : decode cX2_note 18 = .ok (.getfield 18, 3) := by decide +kernel
theorem dX2_note_21 : decode cX2_note 21 = .ok (.iload_n 3, 1) := by decide +kernel
theorem dX2_note_22 : decode cX2_note 22 = .ok (.iload_n 1, 1) := by decide +kernel
theorem dX2_note_23 : decode cX2_note 23 = .ok (.iastore, 1) := by decide +kernel
theorem dX2_note_24 : decode cX2_note 24 = .ok (.return_, 1) := by decide +kernel
theorem dX2_decode_0 : decode cX2_decode 0 = .ok (.iload_n 1, 1) := by decide +kernel
theorem dX2_decode_1 : decode cX2_decode 1 = .ok (.istore_n 2, 1) := by decide +kernel
theorem dX2_decode_2 : decode cX2_decode 2 = .ok (.aload_n 0, 1) := by decide +kernel
theorem dX2_decode_3 : decode cX2_decode 3 = .ok (.getfield 35, 3) := by decide +kernel
theorem dX2_decode_6 : decode cX2_decode 6 = .ok (.iconst 1, 1) := by decide +kernel
theorem dX2_decode_7 : decode cX2_decode 7 = .ok (.isub, 1) := by decide +kernel
theorem dX2_decode_8 : decode cX2_decode 8 = .ok (.istore_n 3, 1) := by decide +kernel
theorem dX2_decode_9 : decode cX2_decode 9 = .ok (.iload_n 3, 1) := by decide +kernel
theorem dX2_decode_10 : decode cX2_decode 10 = .ok (.ifCond .lt 24, 3) := by decide +kernel
theorem dX2_decode_13 : decode cX2_decode 13 = .ok (.aload_n 0, 1) := by decide +kernel
theorem dX2_decode_14 : decode cX2_decode 14 = .ok (.getfield 26, 3) := by decide +kernel
theorem dX2_decode_17 : decode cX2_decode 17 = .ok (.iload_n 3, 1) := by decide +kernel
theorem dX2_decode_18 : decode cX2_decode 18 = .ok (.iload_n 2, 1) := by decide +kernel
theorem dX2_decode_19 : decode cX2_decode 19 = .ok (.bipush 7, 2) := by decide +kernel
theorem dX2_decode_21 : decode cX2_decode 21 = .ok (.irem, 1) := by decide +kernel
theorem dX2_decode_22 : decode cX2_decode 22 = .ok (.iastore, 1) := by decide +kernel
theorem dX2_decode_23 : decode cX2_decode 23 = .ok (.iload_n 2, 1) := by decide +kernel
theorem dX2_decode_24 : decode cX2_decode 24 = .ok (.bipush 7, 2) := by decide +kernel
theorem dX2_decode_26 : decode cX2_decode 26 = .ok (.idiv, 1) := by decide +kernel
theorem dX2_decode_27 : decode cX2_decode 27 = .ok (.istore_n 2, 1) := by decide +kernel
theorem dX2_decode_28 : decode cX2_decode 28 = .ok (.iinc 3 (-1), 3) := by decide +kernel
theorem dX2_decode_31 : decode cX2_decode 31 = .ok (.goto (-22), 3) := by decide +kernel
theorem dX2_decode_34 : decode cX2_decode 34 = .ok (.return_, 1) := by decide +kernel
theorem dX2_list_0 : decode cX2_list 0 = .ok (.aload_n 0, 1) := by decide +kernel
theorem dX2_list_1 : decode cX2_list 1 = .ok (.iconst 0, 1) := by decide +kernel
theorem dX2_list_2 : decode cX2_list 2 = .ok (.putfield 87, 3) := by decide +kernel
theorem dX2_list_5 : decode cX2_list 5 = .ok (.ldc 56, 2) := by decide +kernel
theorem dX2_list_7 : decode cX2_list 7 = .ok (.istore_n 1, 1) := by decide +kernel
theorem dX2_list_8 : decode cX2_list 8 = .ok (.iconst 0, 1) := by decide +kernel
theorem dX2_list_9 : decode cX2_list 9 = .ok (.istore_n 2, 1) := by decide +kernel
theorem dX2_list_10 : decode cX2_list 10 = .ok (.iload_n 2, 1) := by decide +kernel
theorem dX2_list_11 : decode cX2_list 11 = .ok (.bipush 10, 2) := by decide +kernel
theorem dX2_list_13 : decode cX2_list 13 = .ok (.if_icmp .gt 46, 3) := by decide +kernel
theorem dX2_list_16 : decode cX2_list 16 = .ok (.aload_n 0, 1) := by decide +kernel
theorem dX2_list_17 : decode cX2_list 17 = .ok (.getfield 15, 3) := by decide +kernel
theorem dX2_list_20 : decode cX2_list 20 = .ok (.iload_n 2, 1) := by decide +kernel
theorem dX2_list_21 : decode cX2_list 21 = .ok (.iaload, 1) := by decide +kernel
theorem dX2_list_22 : decode cX2_list 22 = .ok (.iload_n 1, 1) := by decide +kernel
theorem dX2_list_23 : decode cX2_list 23 = .ok (.if_icmp .ge 30, 3) := by decide +kernel
theorem dX2_list_26 : decode cX2_list 26 = .ok (.aload_n 0, 1) := by decide +kernel
theorem dX2_list_27 : decode cX2_list 27 = .ok (.getfield 15, 3) := by decide +kernel
theorem dX2_list_30 : decode cX2_list 30 = .ok (.iload_n 2, 1) := by decide +kernel
theorem dX2_list_31 : decode cX2_list 31 = .ok (.iaload, 1) := by decide +kernel
theorem dX2_list_32 : decode cX2_list 32 = .ok (.istore_n 1, 1) := by decide +kernel
theorem dX2_list_33 : decode cX2_list 33 = .ok (.aload_n 0, 1) := by decide +kernel
theorem dX2_list_34 : decode cX2_list 34 = .ok (.getfield 9, 3) := by decide +kernel
theorem dX2_list_37 : decode cX2_list 37 = .ok (.aload_n 0, 1) := by decide +kernel
theorem dX2_list_38 : decode cX2_list 38 = .ok (.getfield 87, 3) := by decide +kernel
theorem dX2_list_41 : decode cX2_list 41 = .ok (.iload_n 2, 1) := by decide +kernel
theorem dX2_list_42 : decode cX2_list 42 = .ok (.iastore, 1) := by decide +kernel
theorem dX2_list_43 : decode cX2_list 43 = .ok (.aload_n 0, 1) := by decide +kernel
theorem dX2_list_44 : decode cX2_list 44 = .ok (.dup, 1) := by decide +kernel
theorem dX2_list_45 : decode cX2_list 45 = .ok (.getfield 87, 3) := by decide +kernel
theorem dX2_list_48 : decode cX2_list 48 = .ok (.iconst 1, 1) := by decide +kernel
theorem dX2_list_49 : decode cX2_list 49 = .ok (.iadd, 1) := by decide +kernel
theorem dX2_list_50 : decode cX2_list 50 = .ok (.putfield 87, 3) := by decide +kernel
theorem dX2_list_53 : decode cX2_list 53 = .ok (.iinc 2 1, 3) := by decide +kernel
theorem dX2_list_56 : decode cX2_list 56 = .ok (.goto (-46), 3) := by decide +kernel
theorem dX2_list_59 : decode cX2_list 59 = .ok (.return_, 1) := by decide +kernel
theorem dX2_busesIn_0 : decode cX2_busesIn 0 = .ok (.aload_n 0, 1) := by decide +kernel
theorem dX2_busesIn_1 : decode cX2_busesIn 1 = .ok (.getfield 9, 3) := by decide +kernel
theorem dX2_busesIn_4 : decode cX2_busesIn 4 = .ok (.iload_n 1, 1) := by decide +kernel
theorem dX2_busesIn_5 : decode cX2_busesIn 5 = .ok (.iaload, 1) := by decide +kernel
theorem dX2_busesIn_6 : decode cX2_busesIn 6 = .ok (.ireturn, 1) := by decide +kernel
theorem dX2_costIn_0 : decode cX2_costIn 0 = .ok (.aload_n 0, 1) := by decide +kernel
theorem dX2_costIn_1 : decode cX2_costIn 1 = .ok (.getfield 15, 3) := by decide +kernel
theorem dX2_costIn_4 : decode cX2_costIn 4 = .ok (.aload_n 0, 1) := by decide +kernel
theorem dX2_costIn_5 : decode cX2_costIn 5 = .ok (.getfield 9, 3) := by decide +kernel
theorem dX2_costIn_8 : decode cX2_costIn 8 = .ok (.iload_n 1, 1) := by decide +kernel
theorem dX2_costIn_9 : decode cX2_costIn 9 = .ok (.iaload, 1) := by decide +kernel
theorem dX2_costIn_10 : decode cX2_costIn 10 = .ok (.iaload, 1) := by decide +kernel
theorem dX2_costIn_11 : decode cX2_costIn 11 = .ok (.ireturn, 1) := by decide +kernel
theorem dX2_bellsIn_0 : decode cX2_bellsIn 0 = .ok (.aload_n 0, 1) := by decide +kernel
theorem dX2_bellsIn_1 : decode cX2_bellsIn 1 = .ok (.aload_n 0, 1) := by decide +kernel
theorem dX2_bellsIn_2 : decode cX2_bellsIn 2 = .ok (.getfield 18, 3) := by decide +kernel
theorem dX2_bellsIn_5 : decode cX2_bellsIn 5 = .ok (.aload_n 0, 1) := by decide +kernel
theorem dX2_bellsIn_6 : decode cX2_bellsIn 6 = .ok (.getfield 9, 3) := by decide +kernel
theorem dX2_bellsIn_9 : decode cX2_bellsIn 9 = .ok (.iload_n 1, 1) := by decide +kernel
theorem dX2_bellsIn_10 : decode cX2_bellsIn 10 = .ok (.iaload, 1) := by decide +kernel
theorem dX2_bellsIn_11 : decode cX2_bellsIn 11 = .ok (.iaload, 1) := by decide +kernel
theorem dX2_bellsIn_12 : decode cX2_bellsIn 12 = .ok (.invokevirtual 63, 3) := by decide +kernel
theorem dX2_bellsIn_15 : decode cX2_bellsIn 15 = .ok (.aload_n 0, 1) := by decide +kernel
theorem dX2_bellsIn_16 : decode cX2_bellsIn 16 = .ok (.getfield 26, 3) := by decide +kernel
theorem dX2_bellsIn_19 : decode cX2_bellsIn 19 = .ok (.areturn, 1) := by decide +kernel
theorem dX3_init_0 : decode cX3_init 0 = .ok (.aload_n 0, 1) := by decide +kernel
theorem dX3_init_1 : decode cX3_init 1 = .ok (.invokespecial 3, 3) := by decide +kernel
theorem dX3_init_4 : decode cX3_init 4 = .ok (.aload_n 0, 1) := by decide +kernel
theorem dX3_init_5 : decode cX3_init 5 = .ok (.bipush 10, 2) := by decide +kernel
theorem dX3_init_7 : decode cX3_init 7 = .ok (.newarray .int, 2) := by decide +kernel
theorem dX3_init_9 : decode cX3_init 9 = .ok (.putfield 9, 3) := by decide +kernel
theorem dX3_init_12 : decode cX3_init 12 = .ok (.aload_n 0, 1) := by decide +kernel
theorem dX3_init_13 : decode cX3_init 13 = .ok (.bipush 10, 2) := by decide +kernel
theorem dX3_init_15 : decode cX3_init 15 = .ok (.newarray .int, 2) := by decide +kernel
theorem dX3_init_17 : decode cX3_init 17 = .ok (.putfield 15, 3) := by decide +kernel
theorem dX3_init_20 : decode cX3_init 20 = .ok (.aload_n 0, 1) := by decide +kernel
theorem dX3_init_21 : decode cX3_init 21 = .ok (.bipush 10, 2) := by decide +kernel
theorem dX3_init_23 : decode cX3_init 23 = .ok (.newarray .int, 2) := by decide +kernel
theorem dX3_init_25 : decode cX3_init 25 = .ok (.putfield 18, 3) := by decide +kernel
theorem dX3_init_28 : decode cX3_init 28 = .ok (.aload_n 0, 1) := by decide +kernel
theorem dX3_init_29 : decode cX3_init 29 = .ok (.bipush 10, 2) := by decide +kernel
theorem dX3_init_31 : decode cX3_init 31 = .ok (.newarray .int, 2) := by decide +kernel
theorem dX3_init_33 : decode cX3_init 33 = .ok (.putfield 21, 3) := by decide +kernel
theorem dX3_init_36 : decode cX3_init 36 = .ok (.aload_n 0, 1) := by decide +kernel
theorem dX3_init_37 : decode cX3_init 37 = .ok (.bipush 10, 2) := by decide +kernel
theorem dX3_init_39 : decode cX3_init 39 = .ok (.newarray .int, 2) := by decide +kernel
theorem dX3_init_41 : decode cX3_init 41 = .ok (.putfield 24, 3) := by decide +kernel
theorem dX3_init_44 : decode cX3_init 44 = .ok (.return_, 1) := by decide +kernel
theorem dX3_most_0 : decode cX3_most 0 = .ok (.aload_n 0, 1) := by decide +kernel
theorem dX3_most_1 : decode cX3_most 1 = .ok (.getfield 15, 3) := by decide +kernel
theorem dX3_most_4 : decode cX3_most 4 = .ok (.iconst (-1), 1) := by decide +kernel
theorem dX3_most_5 : decode cX3_most 5 = .ok (.invokestatic 27, 3) := by decide +kernel
theorem dX3_most_8 : decode cX3_most 8 = .ok (.aload_n 0, 1) := by decide +kernel
theorem dX3_most_9 : decode cX3_most 9 = .ok (.getfield 18, 3) := by decide +kernel
theorem dX3_most_12 : decode cX3_most 12 = .ok (.iconst (-1), 1) := by decide +kernel
theorem dX3_most_13 : decode cX3_most 13 = .ok (.invokestatic 27, 3) := by decide +kernel
theorem dX3_most_16 : decode cX3_most 16 = .ok (.iconst 0, 1) := by decide +kernel
theorem dX3_most_17 : decode cX3_most 17 = .ok (.istore_n 3, 1) := by decide +kernel
theorem dX3_most_18 : decode cX3_most 18 = .ok (.iload_n 1, 1) := by decide +kernel
theorem dX3_most_19 : decode cX3_most 19 = .ok (.istore 4, 2) := by decide +kernel
theorem dX3_most_21 : decode cX3_most 21 = .ok (.iload 4, 2) := by decide +kernel
theorem dX3_most_23 : decode cX3_most 23 = .ok (.aload_n 0, 1) := by decide +kernel
theorem dX3_most_24 : decode cX3_most 24 = .ok (.getfield 33, 3) := by decide +kernel
theorem dX3_most_27 : decode cX3_most 27 = .ok (.if_icmp .ge 22, 3) := by decide +kernel
theorem dX3_most_30 : decode cX3_most 30 = .ok (.aload_n 0, 1) := by decide +kernel
theorem dX3_most_31 : decode cX3_most 31 = .ok (.iload 4, 2) := by decide +kernel
theorem dX3_most_33 : decode cX3_most 33 = .ok (.iload_n 2, 1) := by decide +kernel
theorem dX3_most_34 : decode cX3_most 34 = .ok (.invokevirtual 37, 3) := by decide +kernel
theorem dX3_most_37 : decode cX3_most 37 = .ok (.ifCond .eq 6, 3) := by decide +kernel
theorem dX3_most_40 : decode cX3_most 40 = .ok (.iinc 3 1, 3) := by decide +kernel
theorem dX3_most_43 : decode cX3_most 43 = .ok (.iinc 4 1, 3) := by decide +kernel
theorem dX3_most_46 : decode cX3_most 46 = .ok (.goto (-25), 3) := by decide +kernel
theorem dX3_most_49 : decode cX3_most 49 = .ok (.iload_n 3, 1) := by decide +kernel
theorem dX3_most_50 : decode cX3_most 50 = .ok (.ireturn, 1) := by decide +kernel
theorem dX3_gains_0 : decode cX3_gains 0 = .ok (.iload_n 2, 1) := by decide +kernel
theorem dX3_gains_1 : decode cX3_gains 1 = .ok (.istore_n 3, 1) := by decide +kernel
theorem dX3_gains_2 : decode cX3_gains 2 = .ok (.iconst 1, 1) := by decide +kernel
theorem dX3_gains_3 : decode cX3_gains 3 = .ok (.istore 4, 2) := by decide +kernel
theorem dX3_gains_5 : decode cX3_gains 5 = .ok (.aload_n 0, 1) := by decide +kernel
theorem dX3_gains_6 : decode cX3_gains 6 = .ok (.getfield 24, 3) := by decide +kernel
theorem dX3_gains_9 : decode cX3_gains 9 = .ok (.iconst 0, 1) := by decide +kernel
theorem dX3_gains_10 : decode cX3_gains 10 = .ok (.iload_n 1, 1) := by decide +kernel
theorem dX3_gains_11 : decode cX3_gains 11 = .ok (.iastore, 1) := by decide +kernel
theorem dX3_gains_12 : decode cX3_gains 12 = .ok (.iconst 0, 1) := by decide +kernel
theorem dX3_gains_13 : decode cX3_gains 13 = .ok (.istore 5, 2) := by decide +kernel
theorem dX3_gains_15 : decode cX3_gains 15 = .ok (.iload 5, 2) := by decide +kernel
theorem dX3_gains_17 : decode cX3_gains 17 = .ok (.iload 4, 2) := by decide +kernel
theorem dX3_gains_19 : decode cX3_gains 19 = .ok (.if_icmp .ge 113, 3) := by decide +kernel
theorem dX3_gains_22 : decode cX3_gains 22 = .ok (.aload_n 0, 1) := by decide +kernel
theorem dX3_gains_23 : decode cX3_gains 23 = .ok (.getfield 24, 3) := by decide +kernel
theorem dX3_gains_26 : decode cX3_gains 26 = .ok (.iload 5, 2) := by decide +kernel
theorem dX3_gains_28 : decode cX3_gains 28 = .ok (.iaload, 1) := by decide +kernel
theorem dX3_gains_29 : decode cX3_gains 29 = .ok (.istore 6, 2) := by decide +kernel
theorem dX3_gains_31 : decode cX3_gains 31 = .ok (.iconst 0, 1) := by decide +kernel
theorem dX3_gains_32 : decode cX3_gains 32 = .ok (.istore 7, 2) := by decide +kernel
theorem dX3_gains_34 : decode cX3_gains 34 = .ok (.iload 7, 2) := by decide +kernel
theorem dX3_gains_36 : decode cX3_gains 36 = .ok (.aload_n 0, 1) := by decide +kernel
theorem dX3_gains_37 : decode cX3_gains 37 = .ok (.getfield 33, 3) := by decide +kernel
theorem dX3_gains_40 : decode cX3_gains 40 = .ok (.if_icmp .ge 86, 3) := by decide +kernel
theorem dX3_gains_43 : decode cX3_gains 43 = .ok (.aload_n 0, 1) := by decide +kernel
theorem dX3_gains_44 : decode cX3_gains 44 = .ok (.getfield 9, 3) := by decide +kernel
theorem dX3_gains_47 : decode cX3_gains 47 = .ok (.iload 6, 2) := by decide +kernel
theorem dX3_gains_49 : decode cX3_gains 49 = .ok (.iaload, 1) := by decide +kernel
theorem dX3_gains_50 : decode cX3_gains 50 = .ok (.iload_n 3, 1) := by decide +kernel
theorem dX3_gains_51 : decode cX3_gains 51 = .ok (.iand, 1) := by decide +kernel
theorem dX3_gains_52 : decode cX3_gains 52 = .ok (.iconst 1, 1) := by decide +kernel
theorem dX3_gains_53 : decode cX3_gains 53 = .ok (.iload 7, 2) := by decide +kernel
theorem dX3_gains_55 : decode cX3_gains 55 = .ok (.ishl, 1) := by decide +kernel
theorem dX3_gains_56 : decode cX3_gains 56 = .ok (.iand, 1) := by decide +kernel
theorem dX3_gains_57 : decode cX3_gains 57 = .ok (.ifCond .eq 63, 3) := by decide +kernel
theorem dX3_gains_60 : decode cX3_gains 60 = .ok (.iload_n 3, 1) := by decide +kernel
theorem dX3_gains_61 : decode cX3_gains 61 = .ok (.iconst 1, 1) := by decide +kernel
theorem dX3_gains_62 : decode cX3_gains 62 = .ok (.iload 7, 2) := by decide +kernel
theorem dX3_gains_64 : decode cX3_gains 64 = .ok (.ishl, 1) := by decide +kernel
theorem dX3_gains_65 : decode cX3_gains 65 = .ok (.iconst (-1), 1) := by decide +kernel
theorem dX3_gains_66 : decode cX3_gains 66 = .ok (.ixor, 1) := by decide +kernel
theorem dX3_gains_67 : decode cX3_gains 67 = .ok (.iand, 1) := by decide +kernel
theorem dX3_gains_68 : decode cX3_gains 68 = .ok (.istore_n 3, 1) := by decide +kernel
theorem dX3_gains_69 : decode cX3_gains 69 = .ok (.aload_n 0, 1) := by decide +kernel
theorem dX3_gains_70 : decode cX3_gains 70 = .ok (.getfield 21, 3) := by decide +kernel
theorem dX3_gains_73 : decode cX3_gains 73 = .ok (.iload 7, 2) := by decide +kernel
theorem dX3_gains_75 : decode cX3_gains 75 = .ok (.iload 6, 2) := by decide +kernel
theorem dX3_gains_77 : decode cX3_gains 77 = .ok (.iastore, 1) := by decide +kernel
theorem dX3_gains_78 : decode cX3_gains 78 = .ok (.aload_n 0, 1) := by decide +kernel
theorem dX3_gains_79 : decode cX3_gains 79 = .ok (.getfield 18, 3) := by decide +kernel
theorem dX3_gains_82 : decode cX3_gains 82 = .ok (.iload 7, 2) := by decide +kernel
theorem dX3_gains_84 : decode cX3_gains 84 = .ok (.iaload, 1) := by decide +kernel
theorem dX3_gains_85 : decode cX3_gains 85 = .ok (.ifCond .ge 11, 3) := by decide +kernel
theorem dX3_gains_88 : decode cX3_gains 88 = .ok (.aload_n 0, 1) := by decide +kernel
theorem dX3_gains_89 : decode cX3_gains 89 = .ok (.iload 7, 2) := by decide +kernel
theorem dX3_gains_91 : decode cX3_gains 91 = .ok (.invokevirtual 41, 3) := by decide +kernel
theorem dX3_gains_94 : decode cX3_gains 94 = .ok (.iconst 1, 1) := by decide +kernel
theorem dX3_gains_95 : decode cX3_gains 95 = .ok (.ireturn, 1) := by decide +kernel
theorem dX3_gains_96 : decode cX3_gains 96 = .ok (.iload 4, 2) := by decide +kernel
theorem dX3_gains_98 : decode cX3_gains 98 = .ok (.bipush 10, 2) := by decide +kernel
theorem dX3_gains_100 : decode cX3_gains 100 = .ok (.if_icmp .ge 20, 3) := by decide +kernel
theorem dX3_gains_103 : decode cX3_gains 103 = .ok (.aload_n 0, 1) := by decide +kernel
theorem dX3_gains_104 : decode cX3_gains 104 = .ok (.getfield 24, 3) := by decide +kernel
theorem dX3_gains_107 : decode cX3_gains 107 = .ok (.iload 4, 2) := by decide +kernel
theorem dX3_gains_109 : decode cX3_gains 109 = .ok (.aload_n 0, 1) := by decide +kernel
theorem dX3_gains_110 : decode cX3_gains 110 = .ok (.getfield 18, 3) := by decide +kernel
theorem dX3_gains_113 : decode cX3_gains 113 = .ok (.iload 7, 2) := by decide +kernel
theorem dX3_gains_115 : decode cX3_gains 115 = .ok (.iaload, 1) := by decide +kernel
theorem dX3_gains_116 : decode cX3_gains 116 = .ok (.iastore, 1) := by decide +kernel
theorem dX3_gains_117 : decode cX3_gains 117 = .ok (.iinc 4 1, 3) := by decide +kernel
theorem dX3_gains_120 : decode cX3_gains 120 = .ok (.iinc 7 1, 3) := by decide +kernel
theorem dX3_gains_123 : decode cX3_gains 123 = .ok (.goto (-89), 3) := by decide +kernel
theorem dX3_gains_126 : decode cX3_gains 126 = .ok (.iinc 5 1, 3) := by decide +kernel
theorem dX3_gains_129 : decode cX3_gains 129 = .ok (.goto (-114), 3) := by decide +kernel
theorem dX3_gains_132 : decode cX3_gains 132 = .ok (.iconst 0, 1) := by decide +kernel
theorem dX3_gains_133 : decode cX3_gains 133 = .ok (.ireturn, 1) := by decide +kernel
theorem dX3_move_0 : decode cX3_move 0 = .ok (.iload_n 1, 1) := by decide +kernel
theorem dX3_move_1 : decode cX3_move 1 = .ok (.istore_n 2, 1) := by decide +kernel
theorem dX3_move_2 : decode cX3_move 2 = .ok (.iconst 0, 1) := by decide +kernel
theorem dX3_move_3 : decode cX3_move 3 = .ok (.istore_n 3, 1) := by decide +kernel
theorem dX3_move_4 : decode cX3_move 4 = .ok (.iload_n 3, 1) := by decide +kernel
theorem dX3_move_5 : decode cX3_move 5 = .ok (.aload_n 0, 1) := by decide +kernel
theorem dX3_move_6 : decode cX3_move 6 = .ok (.getfield 33, 3) := by decide +kernel
theorem dX3_move_9 : decode cX3_move 9 = .ok (.if_icmp .ge 49, 3) := by decide +kernel
theorem dX3_move_12 : decode cX3_move 12 = .ok (.iload_n 2, 1) := by decide +kernel
theorem dX3_move_13 : decode cX3_move 13 = .ok (.ifCond .lt 45, 3) := by decide +kernel
theorem dX3_move_16 : decode cX3_move 16 = .ok (.aload_n 0, 1) := by decide +kernel
theorem dX3_move_17 : decode cX3_move 17 = .ok (.getfield 21, 3) := by decide +kernel
theorem dX3_move_20 : decode cX3_move 20 = .ok (.iload_n 2, 1) := by decide +kernel
theorem dX3_move_21 : decode cX3_move 21 = .ok (.iaload, 1) := by decide +kernel
theorem dX3_move_22 : decode cX3_move 22 = .ok (.istore 4, 2) := by decide +kernel
theorem dX3_move_24 : decode cX3_move 24 = .ok (.aload_n 0, 1) := by decide +kernel
theorem dX3_move_25 : decode cX3_move 25 = .ok (.getfield 15, 3) := by decide +kernel
theorem dX3_move_28 : decode cX3_move 28 = .ok (.iload 4, 2) := by decide +kernel
theorem dX3_move_30 : decode cX3_move 30 = .ok (.iaload, 1) := by decide +kernel
theorem dX3_move_31 : decode cX3_move 31 = .ok (.istore 5, 2) := by decide +kernel
theorem dX3_move_33 : decode cX3_move 33 = .ok (.aload_n 0, 1) := by decide +kernel
theorem dX3_move_34 : decode cX3_move 34 = .ok (.getfield 15, 3) := by decide +kernel
theorem dX3_move_37 : decode cX3_move 37 = .ok (.iload 4, 2) := by decide +kernel
theorem dX3_move_39 : decode cX3_move 39 = .ok (.iload_n 2, 1) := by decide +kernel
theorem dX3_move_40 : decode cX3_move 40 = .ok (.iastore, 1) := by decide +kernel
theorem dX3_move_41 : decode cX3_move 41 = .ok (.aload_n 0, 1) := by decide +kernel
theorem dX3_move_42 : decode cX3_move 42 = .ok (.getfield 18, 3) := by decide +kernel
theorem dX3_move_45 : decode cX3_move 45 = .ok (.iload_n 2, 1) := by decide +kernel
theorem dX3_move_46 : decode cX3_move 46 = .ok (.iload 4, 2) := by decide +kernel
theorem dX3_move_48 : decode cX3_move 48 = .ok (.iastore, 1) := by decide +kernel
theorem dX3_move_49 : decode cX3_move 49 = .ok (.iload 5, 2) := by decide +kernel
theorem dX3_move_51 : decode cX3_move 51 = .ok (.istore_n 2, 1) := by decide +kernel
theorem dX3_move_52 : decode cX3_move 52 = .ok (.iinc 3 1, 3) := by decide +kernel
theorem dX3_move_55 : decode cX3_move 55 = .ok (.goto (-51), 3) := by decide +kernel
theorem dX3_move_58 : decode cX3_move 58 = .ok (.return_, 1) := by decide +kernel
theorem dX4_init_0 : decode cX4_init 0 = .ok (.aload_n 0, 1) := by decide +kernel
theorem dX4_init_1 : decode cX4_init 1 = .ok (.invokespecial 3, 3) := by decide +kernel
theorem dX4_init_4 : decode cX4_init 4 = .ok (.aload_n 0, 1) := by decide +kernel
theorem dX4_init_5 : decode cX4_init 5 = .ok (.bipush 10, 2) := by decide +kernel
theorem dX4_init_7 : decode cX4_init 7 = .ok (.newarray .int, 2) := by decide +kernel
theorem dX4_init_9 : decode cX4_init 9 = .ok (.putfield 9, 3) := by decide +kernel
theorem dX4_init_12 : decode cX4_init 12 = .ok (.return_, 1) := by decide +kernel
theorem dX4_drive_0 : decode cX4_drive 0 = .ok (.aload_n 1, 1) := by decide +kernel
theorem dX4_drive_1 : decode cX4_drive 1 = .ok (.getfield 15, 3) := by decide +kernel
theorem dX4_drive_4 : decode cX4_drive 4 = .ok (.iload 5, 2) := by decide +kernel
theorem dX4_drive_6 : decode cX4_drive 6 = .ok (.invokevirtual 21, 3) := by decide +kernel
theorem dX4_drive_9 : decode cX4_drive 9 = .ok (.astore 6, 2) := by decide +kernel
theorem dX4_drive_11 : decode cX4_drive 11 = .ok (.iconst 0, 1) := by decide +kernel
theorem dX4_drive_12 : decode cX4_drive 12 = .ok (.istore 7, 2) := by decide +kernel
theorem dX4_drive_14 : decode cX4_drive 14 = .ok (.aload_n 0, 1) := by decide +kernel
theorem dX4_drive_15 : decode cX4_drive 15 = .ok (.aload_n 2, 1) := by decide +kernel
theorem dX4_drive_16 : decode cX4_drive 16 = .ok (.getfield 27, 3) := by decide +kernel
theorem dX4_drive_19 : decode cX4_drive 19 = .ok (.putfield 33, 3) := by decide +kernel
theorem dX4_drive_22 : decode cX4_drive 22 = .ok (.iconst 0, 1) := by decide +kernel
theorem dX4_drive_23 : decode cX4_drive 23 = .ok (.istore 8, 2) := by decide +kernel
theorem dX4_drive_25 : decode cX4_drive 25 = .ok (.iload 8, 2) := by decide +kernel
theorem dX4_drive_27 : decode cX4_drive 27 = .ok (.aload_n 0, 1) := by decide +kernel
theorem dX4_drive_28 : decode cX4_drive 28 = .ok (.getfield 33, 3) := by decide +kernel
theorem dX4_drive_31 : decode cX4_drive 31 = .ok (.if_icmp .ge 31, 3) := by decide +kernel
theorem dX4_drive_34 : decode cX4_drive 34 = .ok (.aload_n 2, 1) := by decide +kernel
theorem dX4_drive_35 : decode cX4_drive 35 = .ok (.iload 8, 2) := by decide +kernel
theorem dX4_drive_37 : decode cX4_drive 37 = .ok (.invokevirtual 34, 3) := by decide +kernel
theorem dX4_drive_40 : decode cX4_drive 40 = .ok (.ifCond .eq 16, 3) := by decide +kernel
theorem dX4_drive_43 : decode cX4_drive 43 = .ok (.aload_n 0, 1) := by decide +kernel
theorem dX4_drive_44 : decode cX4_drive 44 = .ok (.aload_n 1, 1) := by decide +kernel
theorem dX4_drive_45 : decode cX4_drive 45 = .ok (.aload_n 2, 1) := by decide +kernel
theorem dX4_drive_46 : decode cX4_drive 46 = .ok (.iload 8, 2) := by decide +kernel
theorem dX4_drive_48 : decode cX4_drive 48 = .ok (.iload_n 3, 1) := by decide +kernel
theorem dX4_drive_49 : decode cX4_drive 49 = .ok (.iload 4, 2) := by decide +kernel
theorem dX4_drive_51 : decode cX4_drive 51 = .ok (.aload 6, 2) := by decide +kernel
theorem dX4_drive_53 : decode cX4_drive 53 = .ok (.invokevirtual 38, 3) := by decide +kernel
theorem dX4_drive_56 : decode cX4_drive 56 = .ok (.iinc 8 1, 3) := by decide +kernel
theorem dX4_drive_59 : decode cX4_drive 59 = .ok (.goto (-34), 3) := by decide +kernel
theorem dX4_drive_62 : decode cX4_drive 62 = .ok (.iconst 0, 1) := by decide +kernel
theorem dX4_drive_63 : decode cX4_drive 63 = .ok (.istore 8, 2) := by decide +kernel
theorem dX4_drive_65 : decode cX4_drive 65 = .ok (.iload 8, 2) := by decide +kernel
theorem dX4_drive_67 : decode cX4_drive 67 = .ok (.aload_n 0, 1) := by decide +kernel
theorem dX4_drive_68 : decode cX4_drive 68 = .ok (.getfield 33, 3) := by decide +kernel
theorem dX4_drive_71 : decode cX4_drive 71 = .ok (.if_icmp .ge 42, 3) := by decide +kernel
theorem dX4_drive_74 : decode cX4_drive 74 = .ok (.aload_n 0, 1) := by decide +kernel
theorem dX4_drive_75 : decode cX4_drive 75 = .ok (.getfield 9, 3) := by decide +kernel
theorem dX4_drive_78 : decode cX4_drive 78 = .ok (.iload 8, 2) := by decide +kernel
theorem dX4_drive_80 : decode cX4_drive 80 = .ok (.iaload, 1) := by decide +kernel
theorem dX4_drive_81 : decode cX4_drive 81 = .ok (.aload_n 1, 1) := by decide +kernel
theorem dX4_drive_82 : decode cX4_drive 82 = .ok (.aload_n 2, 1) := by decide +kernel
theorem dX4_drive_83 : decode cX4_drive 83 = .ok (.getfield 42, 3) := by decide +kernel
theorem dX4_drive_86 : decode cX4_drive 86 = .ok (.iload 8, 2) := by decide +kernel
theorem dX4_drive_88 : decode cX4_drive 88 = .ok (.iaload, 1) := by decide +kernel
theorem dX4_drive_89 : decode cX4_drive 89 = .ok (.invokevirtual 45, 3) := by decide +kernel
theorem dX4_drive_92 : decode cX4_drive 92 = .ok (.if_icmp .le 15, 3) := by decide +kernel
theorem dX4_drive_95 : decode cX4_drive 95 = .ok (.iload 7, 2) := by decide +kernel
theorem dX4_drive_97 : decode cX4_drive 97 = .ok (.aload_n 2, 1) := by decide +kernel
theorem dX4_drive_98 : decode cX4_drive 98 = .ok (.aload_n 1, 1) := by decide +kernel
theorem dX4_drive_99 : decode cX4_drive 99 = .ok (.iload 8, 2) := by decide +kernel
theorem dX4_drive_101 : decode cX4_drive 101 = .ok (.invokevirtual 49, 3) := by decide +kernel
theorem dX4_drive_104 : decode cX4_drive 104 = .ok (.iadd, 1) := by decide +kernel
theorem dX4_drive_105 : decode cX4_drive 105 = .ok (.istore 7, 2) := by decide +kernel
theorem dX4_drive_107 : decode cX4_drive 107 = .ok (.iinc 8 1, 3) := by decide +kernel
theorem dX4_drive_110 : decode cX4_drive 110 = .ok (.goto (-45), 3) := by decide +kernel
theorem dX4_drive_113 : decode cX4_drive 113 = .ok (.iload 7, 2) := by decide +kernel
theorem dX4_drive_115 : decode cX4_drive 115 = .ok (.ireturn, 1) := by decide +kernel
theorem dX4_driveBus_0 : decode cX4_driveBus 0 = .ok (.iload_n 3, 1) := by decide +kernel
theorem dX4_driveBus_1 : decode cX4_driveBus 1 = .ok (.istore 7, 2) := by decide +kernel
theorem dX4_driveBus_3 : decode cX4_driveBus 3 = .ok (.aload_n 2, 1) := by decide +kernel
theorem dX4_driveBus_4 : decode cX4_driveBus 4 = .ok (.aload_n 1, 1) := by decide +kernel
theorem dX4_driveBus_5 : decode cX4_driveBus 5 = .ok (.iload_n 3, 1) := by decide +kernel
theorem dX4_driveBus_6 : decode cX4_driveBus 6 = .ok (.invokevirtual 53, 3) := by decide +kernel
theorem dX4_driveBus_9 : decode cX4_driveBus 9 = .ok (.istore 8, 2) := by decide +kernel
theorem dX4_driveBus_11 : decode cX4_driveBus 11 = .ok (.iconst 0, 1) := by decide +kernel
theorem dX4_driveBus_12 : decode cX4_driveBus 12 = .ok (.istore 9, 2) := by decide +kernel
theorem dX4_driveBus_14 : decode cX4_driveBus 14 = .ok (.iload 9, 2) := by decide +kernel
theorem dX4_driveBus_16 : decode cX4_driveBus 16 = .ok (.aload_n 0, 1) := by decide +kernel
theorem dX4_driveBus_17 : decode cX4_driveBus 17 = .ok (.getfield 33, 3) := by decide +kernel
theorem dX4_driveBus_20 : decode cX4_driveBus 20 = .ok (.if_icmp .ge 114, 3) := by decide +kernel
theorem dX4_driveBus_23 : decode cX4_driveBus 23 = .ok (.iload 7, 2) := by decide +kernel
theorem dX4_driveBus_25 : decode cX4_driveBus 25 = .ok (.ifCond .lt 109, 3) := by decide +kernel
theorem dX4_driveBus_28 : decode cX4_driveBus 28 = .ok (.iload 8, 2) := by decide +kernel
theorem dX4_driveBus_30 : decode cX4_driveBus 30 = .ok (.aload_n 2, 1) := by decide +kernel
theorem dX4_driveBus_31 : decode cX4_driveBus 31 = .ok (.aload_n 1, 1) := by decide +kernel
theorem dX4_driveBus_32 : decode cX4_driveBus 32 = .ok (.iload 7, 2) := by decide +kernel
theorem dX4_driveBus_34 : decode cX4_driveBus 34 = .ok (.invokevirtual 53, 3) := by decide +kernel
theorem dX4_driveBus_37 : decode cX4_driveBus 37 = .ok (.invokestatic 56, 3) := by decide +kernel
theorem dX4_driveBus_40 : decode cX4_driveBus 40 = .ok (.iload 7, 2) := by decide +kernel
theorem dX4_driveBus_42 : decode cX4_driveBus 42 = .ok (.iload 4, 2) := by decide +kernel
theorem dX4_driveBus_44 : decode cX4_driveBus 44 = .ok (.if_icmp .ne 8, 3) := by decide +kernel
theorem dX4_driveBus_47 : decode cX4_driveBus 47 = .ok (.iload 5, 2) := by decide +kernel
theorem dX4_driveBus_49 : decode cX4_driveBus 49 = .ok (.goto 4, 3) := by decide +kernel
theorem dX4_driveBus_52 : decode cX4_driveBus 52 = .ok (.iconst 0, 1) := by decide +kernel
theorem dX4_driveBus_53 : decode cX4_driveBus 53 = .ok (.iadd, 1) := by decide +kernel
theorem dX4_driveBus_54 : decode cX4_driveBus 54 = .ok (.istore 10, 2) := by decide +kernel
theorem dX4_driveBus_56 : decode cX4_driveBus 56 = .ok (.aload_n 0, 1) := by decide +kernel
theorem dX4_driveBus_57 : decode cX4_driveBus 57 = .ok (.getfield 9, 3) := by decide +kernel
theorem dX4_driveBus_60 : decode cX4_driveBus 60 = .ok (.iload 7, 2) := by decide +kernel
theorem dX4_driveBus_62 : decode cX4_driveBus 62 = .ok (.iload 10, 2) := by decide +kernel
theorem dX4_driveBus_64 : decode cX4_driveBus 64 = .ok (.aload_n 2, 1) := by decide +kernel
theorem dX4_driveBus_65 : decode cX4_driveBus 65 = .ok (.aload_n 1, 1) := by decide +kernel
theorem dX4_driveBus_66 : decode cX4_driveBus 66 = .ok (.iload 7, 2) := by decide +kernel
theorem dX4_driveBus_68 : decode cX4_driveBus 68 = .ok (.aload 6, 2) := by decide +kernel
theorem dX4_driveBus_70 : decode cX4_driveBus 70 = .ok (.invokevirtual 62, 3) := by decide +kernel
theorem dX4_driveBus_73 : decode cX4_driveBus 73 = .ok (.iadd, 1) := by decide +kernel
theorem dX4_driveBus_74 : decode cX4_driveBus 74 = .ok (.iastore, 1) := by decide +kernel
theorem dX4_driveBus_75 : decode cX4_driveBus 75 = .ok (.aload_n 2, 1) := by decide +kernel
theorem dX4_driveBus_76 : decode cX4_driveBus 76 = .ok (.getfield 66, 3) := by decide +kernel
theorem dX4_driveBus_79 : decode cX4_driveBus 79 = .ok (.iload 7, 2) := by decide +kernel
theorem dX4_driveBus_81 : decode cX4_driveBus 81 = .ok (.iaload, 1) := by decide +kernel
theorem dX4_driveBus_82 : decode cX4_driveBus 82 = .ok (.istore 11, 2) := by decide +kernel
theorem dX4_driveBus_84 : decode cX4_driveBus 84 = .ok (.iload 11, 2) := by decide +kernel
theorem dX4_driveBus_86 : decode cX4_driveBus 86 = .ok (.ifCond .lt 38, 3) := by decide +kernel
theorem dX4_driveBus_89 : decode cX4_driveBus 89 = .ok (.aload_n 2, 1) := by decide +kernel
theorem dX4_driveBus_90 : decode cX4_driveBus 90 = .ok (.aload_n 1, 1) := by decide +kernel
theorem dX4_driveBus_91 : decode cX4_driveBus 91 = .ok (.iload 7, 2) := by decide +kernel
theorem dX4_driveBus_93 : decode cX4_driveBus 93 = .ok (.invokevirtual 69, 3) := by decide +kernel
theorem dX4_driveBus_96 : decode cX4_driveBus 96 = .ok (.getfield 73, 3) := by decide +kernel
theorem dX4_driveBus_99 : decode cX4_driveBus 99 = .ok (.istore 12, 2) := by decide +kernel
theorem dX4_driveBus_101 : decode cX4_driveBus 101 = .ok (.aload_n 0, 1) := by decide +kernel
theorem dX4_driveBus_102 : decode cX4_driveBus 102 = .ok (.getfield 9, 3) := by decide +kernel
theorem dX4_driveBus_105 : decode cX4_driveBus 105 = .ok (.iload 7, 2) := by decide +kernel
theorem dX4_driveBus_107 : decode cX4_driveBus 107 = .ok (.iaload, 1) := by decide +kernel
theorem dX4_driveBus_108 : decode cX4_driveBus 108 = .ok (.aload 6, 2) := by decide +kernel
theorem dX4_driveBus_110 : decode cX4_driveBus 110 = .ok (.iload 12, 2) := by decide +kernel
theorem dX4_driveBus_112 : decode cX4_driveBus 112 = .ok (.aaload, 1) := by decide +kernel
theorem dX4_driveBus_113 : decode cX4_driveBus 113 = .ok (.aload_n 2, 1) := by decide +kernel
theorem dX4_driveBus_114 : decode cX4_driveBus 114 = .ok (.aload_n 1, 1) := by decide +kernel
theorem dX4_driveBus_115 : decode cX4_driveBus 115 = .ok (.iload 11, 2) := by decide +kernel
theorem dX4_driveBus_117 : decode cX4_driveBus 117 = .ok (.invokevirtual 78, 3) := by decide +kernel
theorem dX4_driveBus_120 : decode cX4_driveBus 120 = .ok (.iaload, 1) := by decide +kernel
theorem dX4_driveBus_121 : decode cX4_driveBus 121 = .ok (.iadd, 1) := by decide +kernel
theorem dX4_driveBus_122 : decode cX4_driveBus 122 = .ok (.istore 8, 2) := by decide +kernel
theorem dX4_driveBus_124 : decode cX4_driveBus 124 = .ok (.iload 11, 2) := by decide +kernel
theorem dX4_driveBus_126 : decode cX4_driveBus 126 = .ok (.istore 7, 2) := by decide +kernel
theorem dX4_driveBus_128 : decode cX4_driveBus 128 = .ok (.iinc 9 1, 3) := by decide +kernel
theorem dX4_driveBus_131 : decode cX4_driveBus 131 = .ok (.goto (-117), 3) := by decide +kernel
theorem dX4_driveBus_134 : decode cX4_driveBus 134 = .ok (.return_, 1) := by decide +kernel
theorem dX5_init_0 : decode cX5_init 0 = .ok (.aload_n 0, 1) := by decide +kernel
theorem dX5_init_1 : decode cX5_init 1 = .ok (.invokespecial 3, 3) := by decide +kernel
theorem dX5_init_4 : decode cX5_init 4 = .ok (.aload_n 0, 1) := by decide +kernel
theorem dX5_init_5 : decode cX5_init 5 = .ok (.bipush 10, 2) := by decide +kernel
theorem dX5_init_7 : decode cX5_init 7 = .ok (.newarray .int, 2) := by decide +kernel
theorem dX5_init_9 : decode cX5_init 9 = .ok (.putfield 9, 3) := by decide +kernel
theorem dX5_init_12 : decode cX5_init 12 = .ok (.aload_n 0, 1) := by decide +kernel
theorem dX5_init_13 : decode cX5_init 13 = .ok (.bipush 10, 2) := by decide +kernel
theorem dX5_init_15 : decode cX5_init 15 = .ok (.newarray .int, 2) := by decide +kernel
theorem dX5_init_17 : decode cX5_init 17 = .ok (.putfield 15, 3) := by decide +kernel
theorem dX5_init_20 : decode cX5_init 20 = .ok (.aload_n 0, 1) := by decide +kernel
theorem dX5_init_21 : decode cX5_init 21 = .ok (.bipush 10, 2) := by decide +kernel
theorem dX5_init_23 : decode cX5_init 23 = .ok (.newarray .int, 2) := by decide +kernel
theorem dX5_init_25 : decode cX5_init 25 = .ok (.putfield 18, 3) := by decide +kernel
theorem dX5_init_28 : decode cX5_init 28 = .ok (.aload_n 0, 1) := by decide +kernel
theorem dX5_init_29 : decode cX5_init 29 = .ok (.bipush 10, 2) := by decide +kernel
theorem dX5_init_31 : decode cX5_init 31 = .ok (.bipush 10, 2) := by decide +kernel
theorem dX5_init_33 : decode cX5_init 33 = .ok (.multianewarray 21 2, 4) := by decide +kernel
theorem dX5_init_37 : decode cX5_init 37 = .ok (.putfield 23, 3) := by decide +kernel
theorem dX5_init_40 : decode cX5_init 40 = .ok (.aload_n 0, 1) := by decide +kernel
theorem dX5_init_41 : decode cX5_init 41 = .ok (.sipush 10240, 3) := by decide +kernel
theorem dX5_init_44 : decode cX5_init 44 = .ok (.newarray .int, 2) := by decide +kernel
theorem dX5_init_46 : decode cX5_init 46 = .ok (.putfield 26, 3) := by decide +kernel
theorem dX5_init_49 : decode cX5_init 49 = .ok (.aload_n 0, 1) := by decide +kernel
theorem dX5_init_50 : decode cX5_init 50 = .ok (.sipush 1024, 3) := by decide +kernel
theorem dX5_init_53 : decode cX5_init 53 = .ok (.newarray .int, 2) := by decide +kernel
theorem dX5_init_55 : decode cX5_init 55 = .ok (.putfield 29, 3) := by decide +kernel
theorem dX5_init_58 : decode cX5_init 58 = .ok (.aload_n 0, 1) := by decide +kernel
theorem dX5_init_59 : decode cX5_init 59 = .ok (.sipush 1024, 3) := by decide +kernel
theorem dX5_init_62 : decode cX5_init 62 = .ok (.newarray .int, 2) := by decide +kernel
theorem dX5_init_64 : decode cX5_init 64 = .ok (.putfield 32, 3) := by decide +kernel
theorem dX5_init_67 : decode cX5_init 67 = .ok (.aload_n 0, 1) := by decide +kernel
theorem dX5_init_68 : decode cX5_init 68 = .ok (.sipush 1024, 3) := by decide +kernel
theorem dX5_init_71 : decode cX5_init 71 = .ok (.newarray .int, 2) := by decide +kernel
theorem dX5_init_73 : decode cX5_init 73 = .ok (.putfield 35, 3) := by decide +kernel
theorem dX5_init_76 : decode cX5_init 76 = .ok (.return_, 1) := by decide +kernel
theorem dX5_draw_0 : decode cX5_draw 0 = .ok (.aload_n 0, 1) := by decide +kernel
theorem dX5_draw_1 : decode cX5_draw 1 = .ok (.aload_n 1, 1) := by decide +kernel
theorem dX5_draw_2 : decode cX5_draw 2 = .ok (.iload_n 2, 1) := by decide +kernel
theorem dX5_draw_3 : decode cX5_draw 3 = .ok (.invokevirtual 38, 3) := by decide +kernel
theorem dX5_draw_6 : decode cX5_draw 6 = .ok (.iconst 1, 1) := by decide +kernel
theorem dX5_draw_7 : decode cX5_draw 7 = .ok (.aload_n 0, 1) := by decide +kernel
theorem dX5_draw_8 : decode cX5_draw 8 = .ok (.getfield 42, 3) := by decide +kernel
theorem dX5_draw_11 : decode cX5_draw 11 = .ok (.ishl, 1) := by decide +kernel
theorem dX5_draw_12 : decode cX5_draw 12 = .ok (.istore_n 3, 1) := by decide +kernel
theorem dX5_draw_13 : decode cX5_draw 13 = .ok (.iconst 1, 1) := by decide +kernel
theorem dX5_draw_14 : decode cX5_draw 14 = .ok (.istore 4, 2) := by decide +kernel
theorem dX5_draw_16 : decode cX5_draw 16 = .ok (.iload 4, 2) := by decide +kernel
theorem dX5_draw_18 : decode cX5_draw 18 = .ok (.iload_n 3, 1) := by decide +kernel
theorem dX5_draw_19 : decode cX5_draw 19 = .ok (.if_icmp .ge 63, 3) := by decide +kernel
theorem dX5_draw_22 : decode cX5_draw 22 = .ok (.aload_n 0, 1) := by decide +kernel
theorem dX5_draw_23 : decode cX5_draw 23 = .ok (.getfield 29, 3) := by decide +kernel
theorem dX5_draw_26 : decode cX5_draw 26 = .ok (.iload 4, 2) := by decide +kernel
theorem dX5_draw_28 : decode cX5_draw 28 = .ok (.ldc 46, 2) := by decide +kernel
theorem dX5_draw_30 : decode cX5_draw 30 = .ok (.iastore, 1) := by decide +kernel
theorem dX5_draw_31 : decode cX5_draw 31 = .ok (.aload_n 0, 1) := by decide +kernel
theorem dX5_draw_32 : decode cX5_draw 32 = .ok (.iload 4, 2) := by decide +kernel
theorem dX5_draw_34 : decode cX5_draw 34 = .ok (.invokevirtual 47, 3) := by decide +kernel
theorem dX5_draw_37 : decode cX5_draw 37 = .ok (.aload_n 1, 1) := by decide +kernel
theorem dX5_draw_38 : decode cX5_draw 38 = .ok (.getfield 51, 3) := by decide +kernel
theorem dX5_draw_41 : decode cX5_draw 41 = .ok (.if_icmp .gt 35, 3) := by decide +kernel
theorem dX5_draw_44 : decode cX5_draw 44 = .ok (.aload_n 0, 1) := by decide +kernel
theorem dX5_draw_45 : decode cX5_draw 45 = .ok (.iload 4, 2) := by decide +kernel
theorem dX5_draw_47 : decode cX5_draw 47 = .ok (.invokevirtual 56, 3) := by decide +kernel
theorem dX5_draw_50 : decode cX5_draw 50 = .ok (.istore 5, 2) := by decide +kernel
theorem dX5_draw_52 : decode cX5_draw 52 = .ok (.aload_n 0, 1) := by decide +kernel
theorem dX5_draw_53 : decode cX5_draw 53 = .ok (.getfield 29, 3) := by decide +kernel
theorem dX5_draw_56 : decode cX5_draw 56 = .ok (.iload 4, 2) := by decide +kernel
theorem dX5_draw_58 : decode cX5_draw 58 = .ok (.iload 5, 2) := by decide +kernel
theorem dX5_draw_60 : decode cX5_draw 60 = .ok (.aload_n 1, 1) := by decide +kernel
theorem dX5_draw_61 : decode cX5_draw 61 = .ok (.iload_n 2, 1) := by decide +kernel
theorem dX5_draw_62 : decode cX5_draw 62 = .ok (.invokevirtual 59, 3) := by decide +kernel
theorem dX5_draw_65 : decode cX5_draw 65 = .ok (.if_icmp .gt 8, 3) := by decide +kernel
theorem dX5_draw_68 : decode cX5_draw 68 = .ok (.iload 5, 2) := by decide +kernel
theorem dX5_draw_70 : decode cX5_draw 70 = .ok (.goto 5, 3) := by decide +kernel
theorem dX5_draw_73 : decode cX5_draw 73 = .ok (.ldc 46, 2) := by decide +kernel
theorem dX5_draw_75 : decode cX5_draw 75 = .ok (.iastore, 1) := by decide +kernel
theorem dX5_draw_76 : decode cX5_draw 76 = .ok (.iinc 4 1, 3) := by decide +kernel
theorem dX5_draw_79 : decode cX5_draw 79 = .ok (.goto (-63), 3) := by decide +kernel
theorem dX5_draw_82 : decode cX5_draw 82 = .ok (.aload_n 0, 1) := by decide +kernel
theorem dX5_draw_83 : decode cX5_draw 83 = .ok (.getfield 32, 3) := by decide +kernel
theorem dX5_draw_86 : decode cX5_draw 86 = .ok (.iconst 0, 1) := by decide +kernel
theorem dX5_draw_87 : decode cX5_draw 87 = .ok (.iconst 0, 1) := by decide +kernel
theorem dX5_draw_88 : decode cX5_draw 88 = .ok (.iastore, 1) := by decide +kernel
theorem dX5_draw_89 : decode cX5_draw 89 = .ok (.iconst 1, 1) := by decide +kernel
theorem dX5_draw_90 : decode cX5_draw 90 = .ok (.istore 4, 2) := by decide +kernel
theorem dX5_draw_92 : decode cX5_draw 92 = .ok (.iload 4, 2) := by decide +kernel
theorem dX5_draw_94 : decode cX5_draw 94 = .ok (.iload_n 3, 1) := by decide +kernel
theorem dX5_draw_95 : decode cX5_draw 95 = .ok (.if_icmp .ge 15, 3) := by decide +kernel
theorem dX5_draw_98 : decode cX5_draw 98 = .ok (.aload_n 0, 1) := by decide +kernel
theorem dX5_draw_99 : decode cX5_draw 99 = .ok (.iload 4, 2) := by decide +kernel
theorem dX5_draw_101 : decode cX5_draw 101 = .ok (.invokevirtual 62, 3) := by decide +kernel
theorem dX5_draw_104 : decode cX5_draw 104 = .ok (.iinc 4 1, 3) := by decide +kernel
theorem dX5_draw_107 : decode cX5_draw 107 = .ok (.goto (-15), 3) := by decide +kernel
theorem dX5_draw_110 : decode cX5_draw 110 = .ok (.aload_n 0, 1) := by decide +kernel
theorem dX5_draw_111 : decode cX5_draw 111 = .ok (.aload_n 1, 1) := by decide +kernel
theorem dX5_draw_112 : decode cX5_draw 112 = .ok (.getfield 66, 3) := by decide +kernel
theorem dX5_draw_115 : decode cX5_draw 115 = .ok (.iload_n 2, 1) := by decide +kernel
theorem dX5_draw_116 : decode cX5_draw 116 = .ok (.aaload, 1) := by decide +kernel
theorem dX5_draw_117 : decode cX5_draw 117 = .ok (.iload_n 3, 1) := by decide +kernel
theorem dX5_draw_118 : decode cX5_draw 118 = .ok (.iconst 1, 1) := by decide +kernel
theorem dX5_draw_119 : decode cX5_draw 119 = .ok (.isub, 1) := by decide +kernel
theorem dX5_draw_120 : decode cX5_draw 120 = .ok (.invokevirtual 70, 3) := by decide +kernel
theorem dX5_draw_123 : decode cX5_draw 123 = .ok (.return_, 1) := by decide +kernel
theorem dX5_collect_0 : decode cX5_collect 0 = .ok (.aload_n 1, 1) := by decide +kernel
theorem dX5_collect_1 : decode cX5_collect 1 = .ok (.getfield 74, 3) := by decide +kernel
theorem dX5_collect_4 : decode cX5_collect 4 = .ok (.invokevirtual 78, 3) := by decide +kernel
theorem dX5_collect_7 : decode cX5_collect 7 = .ok (.astore_n 3, 1) := by decide +kernel
theorem dX5_collect_8 : decode cX5_collect 8 = .ok (.aload_n 0, 1) := by decide +kernel
theorem dX5_collect_9 : decode cX5_collect 9 = .ok (.iconst 0, 1) := by decide +kernel
theorem dX5_collect_10 : decode cX5_collect 10 = .ok (.putfield 42, 3) := by decide +kernel
theorem dX5_collect_13 : decode cX5_collect 13 = .ok (.iconst 0, 1) := by decide +kernel
theorem dX5_collect_14 : decode cX5_collect 14 = .ok (.istore 4, 2) := by decide +kernel
theorem dX5_collect_16 : decode cX5_collect 16 = .ok (.iload 4, 2) := by decide +kernel
theorem dX5_collect_18 : decode cX5_collect 18 = .ok (.aload_n 1, 1) := by decide +kernel
theorem dX5_collect_19 : decode cX5_collect 19 = .ok (.getfield 84, 3) := by decide +kernel
theorem dX5_collect_22 : decode cX5_collect 22 = .ok (.if_icmp .ge 63, 3) := by decide +kernel
theorem dX5_collect_25 : decode cX5_collect 25 = .ok (.aload_n 1, 1) := by decide +kernel
theorem dX5_collect_26 : decode cX5_collect 26 = .ok (.getfield 87, 3) := by decide +kernel
theorem dX5_collect_29 : decode cX5_collect 29 = .ok (.iload 4, 2) := by decide +kernel
theorem dX5_collect_31 : decode cX5_collect 31 = .ok (.aaload, 1) := by decide +kernel
theorem dX5_collect_32 : decode cX5_collect 32 = .ok (.getfield 91, 3) := by decide +kernel
theorem dX5_collect_35 : decode cX5_collect 35 = .ok (.iload_n 2, 1) := by decide +kernel
theorem dX5_collect_36 : decode cX5_collect 36 = .ok (.if_icmp .ne 43, 3) := by decide +kernel
theorem dX5_collect_39 : decode cX5_collect 39 = .ok (.aload_n 0, 1) := by decide +kernel
theorem dX5_collect_40 : decode cX5_collect 40 = .ok (.getfield 9, 3) := by decide +kernel
theorem dX5_collect_43 : decode cX5_collect 43 = .ok (.aload_n 0, 1) := by decide +kernel
theorem dX5_collect_44 : decode cX5_collect 44 = .ok (.getfield 42, 3) := by decide +kernel
theorem dX5_collect_47 : decode cX5_collect 47 = .ok (.iload 4, 2) := by decide +kernel
theorem dX5_collect_49 : decode cX5_collect 49 = .ok (.iastore, 1) := by decide +kernel
theorem dX5_collect_50 : decode cX5_collect 50 = .ok (.aload_n 0, 1) := by decide +kernel
theorem dX5_collect_51 : decode cX5_collect 51 = .ok (.getfield 15, 3) := by decide +kernel
theorem dX5_collect_54 : decode cX5_collect 54 = .ok (.aload_n 0, 1) := by decide +kernel
theorem dX5_collect_55 : decode cX5_collect 55 = .ok (.getfield 42, 3) := by decide +kernel
theorem dX5_collect_58 : decode cX5_collect 58 = .ok (.aload_n 1, 1) := by decide +kernel
theorem dX5_collect_59 : decode cX5_collect 59 = .ok (.getfield 87, 3) := by decide +kernel
theorem dX5_collect_62 : decode cX5_collect 62 = .ok (.iload 4, 2) := by decide +kernel
theorem dX5_collect_64 : decode cX5_collect 64 = .ok (.aaload, 1) := by decide +kernel
theorem dX5_collect_65 : decode cX5_collect 65 = .ok (.getfield 96, 3) := by decide +kernel
theorem dX5_collect_68 : decode cX5_collect 68 = .ok (.iastore, 1) := by decide +kernel
theorem dX5_collect_69 : decode cX5_collect 69 = .ok (.aload_n 0, 1) := by decide +kernel
theorem dX5_collect_70 : decode cX5_collect 70 = .ok (.dup, 1) := by decide +kernel
theorem dX5_collect_71 : decode cX5_collect 71 = .ok (.getfield 42, 3) := by decide +kernel
theorem dX5_collect_74 : decode cX5_collect 74 = .ok (.iconst 1, 1) := by decide +kernel
theorem dX5_collect_75 : decode cX5_collect 75 = .ok (.iadd, 1) := by decide +kernel
theorem dX5_collect_76 : decode cX5_collect 76 = .ok (.putfield 42, 3) := by decide +kernel
theorem dX5_collect_79 : decode cX5_collect 79 = .ok (.iinc 4 1, 3) := by decide +kernel
theorem dX5_collect_82 : decode cX5_collect 82 = .ok (.goto (-66), 3) := by decide +kernel
theorem dX5_collect_85 : decode cX5_collect 85 = .ok (.iconst 0, 1) := by decide +kernel
theorem dX5_collect_86 : decode cX5_collect 86 = .ok (.istore 4, 2) := by decide +kernel
theorem dX5_collect_88 : decode cX5_collect 88 = .ok (.iload 4, 2) := by decide +kernel
theorem dX5_collect_90 : decode cX5_collect 90 = .ok (.aload_n 0, 1) := by decide +kernel
theorem dX5_collect_91 : decode cX5_collect 91 = .ok (.getfield 42, 3) := by decide +kernel
theorem dX5_collect_94 : decode cX5_collect 94 = .ok (.if_icmp .ge 95, 3) := by decide +kernel
theorem dX5_collect_97 : decode cX5_collect 97 = .ok (.aload_n 1, 1) := by decide +kernel
theorem dX5_collect_98 : decode cX5_collect 98 = .ok (.getfield 87, 3) := by decide +kernel
theorem dX5_collect_101 : decode cX5_collect 101 = .ok (.aload_n 0, 1) := by decide +kernel
theorem dX5_collect_102 : decode cX5_collect 102 = .ok (.getfield 9, 3) := by decide +kernel
theorem dX5_collect_105 : decode cX5_collect 105 = .ok (.iload 4, 2) := by decide +kernel
theorem dX5_collect_107 : decode cX5_collect 107 = .ok (.iaload, 1) := by decide +kernel
theorem dX5_collect_108 : decode cX5_collect 108 = .ok (.aaload, 1) := by decide +kernel
theorem dX5_collect_109 : decode cX5_collect 109 = .ok (.getfield 98, 3) := by decide +kernel
theorem dX5_collect_112 : decode cX5_collect 112 = .ok (.istore 5, 2) := by decide +kernel
theorem dX5_collect_114 : decode cX5_collect 114 = .ok (.aload_n 0, 1) := by decide +kernel
theorem dX5_collect_115 : decode cX5_collect 115 = .ok (.getfield 18, 3) := by decide +kernel
theorem dX5_collect_118 : decode cX5_collect 118 = .ok (.iload 4, 2) := by decide +kernel
theorem dX5_collect_120 : decode cX5_collect 120 = .ok (.aload_n 3, 1) := by decide +kernel
theorem dX5_collect_121 : decode cX5_collect 121 = .ok (.iload 5, 2) := by decide +kernel
theorem dX5_collect_123 : decode cX5_collect 123 = .ok (.aaload, 1) := by decide +kernel
theorem dX5_collect_124 : decode cX5_collect 124 = .ok (.aload_n 1, 1) := by decide +kernel
theorem dX5_collect_125 : decode cX5_collect 125 = .ok (.getfield 66, 3) := by decide +kernel
theorem dX5_collect_128 : decode cX5_collect 128 = .ok (.iload_n 2, 1) := by decide +kernel
theorem dX5_collect_129 : decode cX5_collect 129 = .ok (.aaload, 1) := by decide +kernel
theorem dX5_collect_130 : decode cX5_collect 130 = .ok (.getfield 101, 3) := by decide +kernel
theorem dX5_collect_133 : decode cX5_collect 133 = .ok (.iaload, 1) := by decide +kernel
theorem dX5_collect_134 : decode cX5_collect 134 = .ok (.iastore, 1) := by decide +kernel
theorem dX5_collect_135 : decode cX5_collect 135 = .ok (.iconst 0, 1) := by decide +kernel
theorem dX5_collect_136 : decode cX5_collect 136 = .ok (.istore 6, 2) := by decide +kernel
theorem dX5_collect_138 : decode cX5_collect 138 = .ok (.iload 6, 2) := by decide +kernel
theorem dX5_collect_140 : decode cX5_collect 140 = .ok (.aload_n 0, 1) := by decide +kernel
theorem dX5_collect_141 : decode cX5_collect 141 = .ok (.getfield 42, 3) := by decide +kernel
theorem dX5_collect_144 : decode cX5_collect 144 = .ok (.if_icmp .ge 39, 3) := by decide +kernel
theorem dX5_collect_147 : decode cX5_collect 147 = .ok (.aload_n 0, 1) := by decide +kernel
theorem dX5_collect_148 : decode cX5_collect 148 = .ok (.getfield 23, 3) := by decide +kernel
theorem dX5_collect_151 : decode cX5_collect 151 = .ok (.iload 4, 2) := by decide +kernel
theorem dX5_collect_153 : decode cX5_collect 153 = .ok (.aaload, 1) := by decide +kernel
theorem dX5_collect_154 : decode cX5_collect 154 = .ok (.iload 6, 2) := by decide +kernel
theorem dX5_collect_156 : decode cX5_collect 156 = .ok (.aload_n 3, 1) := by decide +kernel
theorem dX5_collect_157 : decode cX5_collect 157 = .ok (.iload 5, 2) := by decide +kernel
theorem dX5_collect_159 : decode cX5_collect 159 = .ok (.aaload, 1) := by decide +kernel
theorem dX5_collect_160 : decode cX5_collect 160 = .ok (.aload_n 1, 1) := by decide +kernel
theorem dX5_collect_161 : decode cX5_collect 161 = .ok (.getfield 87, 3) := by decide +kernel
theorem dX5_collect_164 : decode cX5_collect 164 = .ok (.aload_n 0, 1) := by decide +kernel
theorem dX5_collect_165 : decode cX5_collect 165 = .ok (.getfield 9, 3) := by decide +kernel
theorem dX5_collect_168 : decode cX5_collect 168 = .ok (.iload 6, 2) := by decide +kernel
