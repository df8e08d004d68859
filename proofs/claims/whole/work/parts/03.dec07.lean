theorem dX12_isFirst_14 : decode cX12_isFirst 14 = .ok (.iload_n 2, 1) := by decide +kernel
theorem dX12_isFirst_15 : decode cX12_isFirst 15 = .ok (.iaload, 1) := by decide +kernel
theorem dX12_isFirst_16 : decode cX12_isFirst 16 = .ok (.iload_n 1, 1) := by decide +kernel
theorem dX12_isFirst_17 : decode cX12_isFirst 17 = .ok (.if_icmp .ne 5, 3) := by decide +kernel
theorem dX12_isFirst_20 : decode cX12_isFirst 20 = .ok (.iconst 0, 1) := by decide +kernel
theorem dX12_isFirst_21 : decode cX12_isFirst 21 = .ok (.ireturn, 1) := by decide +kernel
theorem dX12_isFirst_22 : decode cX12_isFirst 22 = .ok (.iinc 2 1, 3) := by decide +kernel
theorem dX12_isFirst_25 : decode cX12_isFirst 25 = .ok (.goto (-23), 3) := by decide +kernel
theorem dX12_isFirst_28 : decode cX12_isFirst 28 = .ok (.iconst 1, 1) := by decide +kernel
theorem dX12_isFirst_29 : decode cX12_isFirst 29 = .ok (.ireturn, 1) := by decide +kernel
theorem dX12_chain_0 : decode cX12_chain 0 = .ok (.iload_n 1, 1) := by decide +kernel
theorem dX12_chain_1 : decode cX12_chain 1 = .ok (.ifCond .lt 7, 3) := by decide +kernel
theorem dX12_chain_4 : decode cX12_chain 4 = .ok (.iload_n 2, 1) := by decide +kernel
theorem dX12_chain_5 : decode cX12_chain 5 = .ok (.ifCond .ge 10, 3) := by decide +kernel
theorem dX12_chain_8 : decode cX12_chain 8 = .ok (.aload_n 0, 1) := by decide +kernel
theorem dX12_chain_9 : decode cX12_chain 9 = .ok (.ldc 185, 2) := by decide +kernel
theorem dX12_chain_11 : decode cX12_chain 11 = .ok (.invokevirtual 177, 3) := by decide +kernel
theorem dX12_chain_14 : decode cX12_chain 14 = .ok (.ireturn, 1) := by decide +kernel
theorem dX12_chain_15 : decode cX12_chain 15 = .ok (.aload_n 0, 1) := by decide +kernel
theorem dX12_chain_16 : decode cX12_chain 16 = .ok (.invokevirtual 243, 3) := by decide +kernel
theorem dX12_chain_19 : decode cX12_chain 19 = .ok (.aload_n 0, 1) := by decide +kernel
theorem dX12_chain_20 : decode cX12_chain 20 = .ok (.getfield 233, 3) := by decide +kernel
theorem dX12_chain_23 : decode cX12_chain 23 = .ok (.ifCond .ne 10, 3) := by decide +kernel
theorem dX12_chain_26 : decode cX12_chain 26 = .ok (.aload_n 0, 1) := by decide +kernel
theorem dX12_chain_27 : decode cX12_chain 27 = .ok (.ldc 197, 2) := by decide +kernel
theorem dX12_chain_29 : decode cX12_chain 29 = .ok (.invokevirtual 177, 3) := by decide +kernel
theorem dX12_chain_32 : decode cX12_chain 32 = .ok (.ireturn, 1) := by decide +kernel
theorem dX12_chain_33 : decode cX12_chain 33 = .ok (.aload_n 0, 1) := by decide +kernel
theorem dX12_chain_34 : decode cX12_chain 34 = .ok (.invokevirtual 271, 3) := by decide +kernel
theorem dX12_chain_37 : decode cX12_chain 37 = .ok (.iconst (-1), 1) := by decide +kernel
theorem dX12_chain_38 : decode cX12_chain 38 = .ok (.istore_n 3, 1) := by decide +kernel
theorem dX12_chain_39 : decode cX12_chain 39 = .ok (.iconst 0, 1) := by decide +kernel
theorem dX12_chain_40 : decode cX12_chain 40 = .ok (.istore 4, 2) := by decide +kernel
theorem dX12_chain_42 : decode cX12_chain 42 = .ok (.iload 4, 2) := by decide +kernel
theorem dX12_chain_44 : decode cX12_chain 44 = .ok (.aload_n 0, 1) := by decide +kernel
theorem dX12_chain_45 : decode cX12_chain 45 = .ok (.getfield 230, 3) := by decide +kernel
theorem dX12_chain_48 : decode cX12_chain 48 = .ok (.if_icmp .ge 68, 3) := by decide +kernel
theorem dX12_chain_51 : decode cX12_chain 51 = .ok (.aload_n 0, 1) := by decide +kernel
theorem dX12_chain_52 : decode cX12_chain 52 = .ok (.iload 4, 2) := by decide +kernel
theorem dX12_chain_54 : decode cX12_chain 54 = .ok (.invokevirtual 274, 3) := by decide +kernel
theorem dX12_chain_57 : decode cX12_chain 57 = .ok (.ifCond .ne 6, 3) := by decide +kernel
theorem dX12_chain_60 : decode cX12_chain 60 = .ok (.goto 50, 3) := by decide +kernel
theorem dX12_chain_63 : decode cX12_chain 63 = .ok (.iinc 3 1, 3) := by decide +kernel
theorem dX12_chain_66 : decode cX12_chain 66 = .ok (.iload_n 3, 1) := by decide +kernel
theorem dX12_chain_67 : decode cX12_chain 67 = .ok (.iload_n 1, 1) := by decide +kernel
theorem dX12_chain_68 : decode cX12_chain 68 = .ok (.if_icmp .eq 6, 3) := by decide +kernel
theorem dX12_chain_71 : decode cX12_chain 71 = .ok (.goto 39, 3) := by decide +kernel
theorem dX12_chain_74 : decode cX12_chain 74 = .ok (.iload 4, 2) := by decide +kernel
theorem dX12_chain_76 : decode cX12_chain 76 = .ok (.istore 5, 2) := by decide +kernel
theorem dX12_chain_78 : decode cX12_chain 78 = .ok (.iconst 0, 1) := by decide +kernel
theorem dX12_chain_79 : decode cX12_chain 79 = .ok (.istore 6, 2) := by decide +kernel
theorem dX12_chain_81 : decode cX12_chain 81 = .ok (.iload 6, 2) := by decide +kernel
theorem dX12_chain_83 : decode cX12_chain 83 = .ok (.iload_n 2, 1) := by decide +kernel
theorem dX12_chain_84 : decode cX12_chain 84 = .ok (.if_icmp .ge 23, 3) := by decide +kernel
theorem dX12_chain_87 : decode cX12_chain 87 = .ok (.iload 5, 2) := by decide +kernel
theorem dX12_chain_89 : decode cX12_chain 89 = .ok (.ifCond .lt 18, 3) := by decide +kernel
theorem dX12_chain_92 : decode cX12_chain 92 = .ok (.aload_n 0, 1) := by decide +kernel
theorem dX12_chain_93 : decode cX12_chain 93 = .ok (.getfield 117, 3) := by decide +kernel
theorem dX12_chain_96 : decode cX12_chain 96 = .ok (.iload 5, 2) := by decide +kernel
theorem dX12_chain_98 : decode cX12_chain 98 = .ok (.iaload, 1) := by decide +kernel
theorem dX12_chain_99 : decode cX12_chain 99 = .ok (.istore 5, 2) := by decide +kernel
theorem dX12_chain_101 : decode cX12_chain 101 = .ok (.iinc 6 1, 3) := by decide +kernel
theorem dX12_chain_104 : decode cX12_chain 104 = .ok (.goto (-23), 3) := by decide +kernel
theorem dX12_chain_107 : decode cX12_chain 107 = .ok (.iload 5, 2) := by decide +kernel
theorem dX12_chain_109 : decode cX12_chain 109 = .ok (.ireturn, 1) := by decide +kernel
theorem dX12_chain_110 : decode cX12_chain 110 = .ok (.iinc 4 1, 3) := by decide +kernel
theorem dX12_chain_113 : decode cX12_chain 113 = .ok (.goto (-71), 3) := by decide +kernel
theorem dX12_chain_116 : decode cX12_chain 116 = .ok (.aload_n 0, 1) := by decide +kernel
theorem dX12_chain_117 : decode cX12_chain 117 = .ok (.ldc 197, 2) := by decide +kernel
theorem dX12_chain_119 : decode cX12_chain 119 = .ok (.invokevirtual 177, 3) := by decide +kernel
theorem dX12_chain_122 : decode cX12_chain 122 = .ok (.ireturn, 1) := by decide +kernel
theorem dX12_aides_0 : decode cX12_aides 0 = .ok (.aload_n 0, 1) := by decide +kernel
theorem dX12_aides_1 : decode cX12_aides 1 = .ok (.invokevirtual 243, 3) := by decide +kernel
theorem dX12_aides_4 : decode cX12_aides 4 = .ok (.aload_n 0, 1) := by decide +kernel
theorem dX12_aides_5 : decode cX12_aides 5 = .ok (.getfield 233, 3) := by decide +kernel
theorem dX12_aides_8 : decode cX12_aides 8 = .ok (.ifCond .ne 10, 3) := by decide +kernel
theorem dX12_aides_11 : decode cX12_aides 11 = .ok (.aload_n 0, 1) := by decide +kernel
theorem dX12_aides_12 : decode cX12_aides 12 = .ok (.ldc 197, 2) := by decide +kernel
theorem dX12_aides_14 : decode cX12_aides 14 = .ok (.invokevirtual 177, 3) := by decide +kernel
theorem dX12_aides_17 : decode cX12_aides 17 = .ok (.ireturn, 1) := by decide +kernel
theorem dX12_aides_18 : decode cX12_aides 18 = .ok (.aload_n 0, 1) := by decide +kernel
theorem dX12_aides_19 : decode cX12_aides 19 = .ok (.invokevirtual 271, 3) := by decide +kernel
theorem dX12_aides_22 : decode cX12_aides 22 = .ok (.iconst 0, 1) := by decide +kernel
theorem dX12_aides_23 : decode cX12_aides 23 = .ok (.istore_n 1, 1) := by decide +kernel
theorem dX12_aides_24 : decode cX12_aides 24 = .ok (.iconst 0, 1) := by decide +kernel
theorem dX12_aides_25 : decode cX12_aides 25 = .ok (.istore_n 2, 1) := by decide +kernel
theorem dX12_aides_26 : decode cX12_aides 26 = .ok (.iload_n 2, 1) := by decide +kernel
theorem dX12_aides_27 : decode cX12_aides 27 = .ok (.aload_n 0, 1) := by decide +kernel
theorem dX12_aides_28 : decode cX12_aides 28 = .ok (.getfield 230, 3) := by decide +kernel
theorem dX12_aides_31 : decode cX12_aides 31 = .ok (.if_icmp .ge 80, 3) := by decide +kernel
theorem dX12_aides_34 : decode cX12_aides 34 = .ok (.aload_n 0, 1) := by decide +kernel
theorem dX12_aides_35 : decode cX12_aides 35 = .ok (.iload_n 2, 1) := by decide +kernel
theorem dX12_aides_36 : decode cX12_aides 36 = .ok (.invokevirtual 274, 3) := by decide +kernel
theorem dX12_aides_39 : decode cX12_aides 39 = .ok (.ifCond .ne 6, 3) := by decide +kernel
theorem dX12_aides_42 : decode cX12_aides 42 = .ok (.goto 63, 3) := by decide +kernel
theorem dX12_aides_45 : decode cX12_aides 45 = .ok (.iconst 0, 1) := by decide +kernel
theorem dX12_aides_46 : decode cX12_aides 46 = .ok (.istore_n 3, 1) := by decide +kernel
theorem dX12_aides_47 : decode cX12_aides 47 = .ok (.iload_n 2, 1) := by decide +kernel
theorem dX12_aides_48 : decode cX12_aides 48 = .ok (.istore 4, 2) := by decide +kernel
theorem dX12_aides_50 : decode cX12_aides 50 = .ok (.iload 4, 2) := by decide +kernel
theorem dX12_aides_52 : decode cX12_aides 52 = .ok (.ifCond .lt 41, 3) := by decide +kernel
theorem dX12_aides_55 : decode cX12_aides 55 = .ok (.iload_n 3, 1) := by decide +kernel
theorem dX12_aides_56 : decode cX12_aides 56 = .ok (.ifCond .ne 19, 3) := by decide +kernel
theorem dX12_aides_59 : decode cX12_aides 59 = .ok (.aload_n 0, 1) := by decide +kernel
theorem dX12_aides_60 : decode cX12_aides 60 = .ok (.getfield 30, 3) := by decide +kernel
theorem dX12_aides_63 : decode cX12_aides 63 = .ok (.aload_n 0, 1) := by decide +kernel
theorem dX12_aides_64 : decode cX12_aides 64 = .ok (.getfield 96, 3) := by decide +kernel
theorem dX12_aides_67 : decode cX12_aides 67 = .ok (.iload 4, 2) := by decide +kernel
theorem dX12_aides_69 : decode cX12_aides 69 = .ok (.iaload, 1) := by decide +kernel
theorem dX12_aides_70 : decode cX12_aides 70 = .ok (.iaload, 1) := by decide +kernel
theorem dX12_aides_71 : decode cX12_aides 71 = .ok (.iconst 3, 1) := by decide +kernel
theorem dX12_aides_72 : decode cX12_aides 72 = .ok (.if_icmp .ne 7, 3) := by decide +kernel
theorem dX12_aides_75 : decode cX12_aides 75 = .ok (.iconst 1, 1) := by decide +kernel
theorem dX12_aides_76 : decode cX12_aides 76 = .ok (.goto 4, 3) := by decide +kernel
theorem dX12_aides_79 : decode cX12_aides 79 = .ok (.iconst 0, 1) := by decide +kernel
theorem dX12_aides_80 : decode cX12_aides 80 = .ok (.istore_n 3, 1) := by decide +kernel
theorem dX12_aides_81 : decode cX12_aides 81 = .ok (.aload_n 0, 1) := by decide +kernel
theorem dX12_aides_82 : decode cX12_aides 82 = .ok (.getfield 117, 3) := by decide +kernel
theorem dX12_aides_85 : decode cX12_aides 85 = .ok (.iload 4, 2) := by decide +kernel
theorem dX12_aides_87 : decode cX12_aides 87 = .ok (.iaload, 1) := by decide +kernel
theorem dX12_aides_88 : decode cX12_aides 88 = .ok (.istore 4, 2) := by decide +kernel
theorem dX12_aides_90 : decode cX12_aides 90 = .ok (.goto (-40), 3) := by decide +kernel
theorem dX12_aides_93 : decode cX12_aides 93 = .ok (.iload_n 1, 1) := by decide +kernel
theorem dX12_aides_94 : decode cX12_aides 94 = .ok (.iload_n 3, 1) := by decide +kernel
theorem dX12_aides_95 : decode cX12_aides 95 = .ok (.ifCond .eq 7, 3) := by decide +kernel
theorem dX12_aides_98 : decode cX12_aides 98 = .ok (.iconst 1, 1) := by decide +kernel
theorem dX12_aides_99 : decode cX12_aides 99 = .ok (.goto 4, 3) := by decide +kernel
theorem dX12_aides_102 : decode cX12_aides 102 = .ok (.iconst 0, 1) := by decide +kernel
theorem dX12_aides_103 : decode cX12_aides 103 = .ok (.iadd, 1) := by decide +kernel
theorem dX12_aides_104 : decode cX12_aides 104 = .ok (.istore_n 1, 1) := by decide +kernel
theorem dX12_aides_105 : decode cX12_aides 105 = .ok (.iinc 2 1, 3) := by decide +kernel
theorem dX12_aides_108 : decode cX12_aides 108 = .ok (.goto (-82), 3) := by decide +kernel
theorem dX12_aides_111 : decode cX12_aides 111 = .ok (.iload_n 1, 1) := by decide +kernel
theorem dX12_aides_112 : decode cX12_aides 112 = .ok (.ireturn, 1) := by decide +kernel
theorem dX12_feed_0 : decode cX12_feed 0 = .ok (.iload_n 3, 1) := by decide +kernel
theorem dX12_feed_1 : decode cX12_feed 1 = .ok (.iconst 1, 1) := by decide +kernel
theorem dX12_feed_2 : decode cX12_feed 2 = .ok (.bipush 8, 2) := by decide +kernel
theorem dX12_feed_4 : decode cX12_feed 4 = .ok (.invokestatic 159, 3) := by decide +kernel
theorem dX12_feed_7 : decode cX12_feed 7 = .ok (.ifCond .ne 10, 3) := by decide +kernel
theorem dX12_feed_10 : decode cX12_feed 10 = .ok (.aload_n 0, 1) := by decide +kernel
theorem dX12_feed_11 : decode cX12_feed 11 = .ok (.ldc 185, 2) := by decide +kernel
theorem dX12_feed_13 : decode cX12_feed 13 = .ok (.invokevirtual 177, 3) := by decide +kernel
theorem dX12_feed_16 : decode cX12_feed 16 = .ok (.ireturn, 1) := by decide +kernel
theorem dX12_feed_17 : decode cX12_feed 17 = .ok (.aload_n 0, 1) := by decide +kernel
theorem dX12_feed_18 : decode cX12_feed 18 = .ok (.getfield 277, 3) := by decide +kernel
theorem dX12_feed_21 : decode cX12_feed 21 = .ok (.iload_n 3, 1) := by decide +kernel
theorem dX12_feed_22 : decode cX12_feed 22 = .ok (.iadd, 1) := by decide +kernel
theorem dX12_feed_23 : decode cX12_feed 23 = .ok (.bipush 60, 2) := by decide +kernel
theorem dX12_feed_25 : decode cX12_feed 25 = .ok (.if_icmp .le 10, 3) := by decide +kernel
theorem dX12_feed_28 : decode cX12_feed 28 = .ok (.aload_n 0, 1) := by decide +kernel
theorem dX12_feed_29 : decode cX12_feed 29 = .ok (.ldc 176, 2) := by decide +kernel
theorem dX12_feed_31 : decode cX12_feed 31 = .ok (.invokevirtual 177, 3) := by decide +kernel
theorem dX12_feed_34 : decode cX12_feed 34 = .ok (.ireturn, 1) := by decide +kernel
theorem dX12_feed_35 : decode cX12_feed 35 = .ok (.iconst 0, 1) := by decide +kernel
theorem dX12_feed_36 : decode cX12_feed 36 = .ok (.istore 4, 2) := by decide +kernel
theorem dX12_feed_38 : decode cX12_feed 38 = .ok (.iload 4, 2) := by decide +kernel
theorem dX12_feed_40 : decode cX12_feed 40 = .ok (.iload_n 3, 1) := by decide +kernel
theorem dX12_feed_41 : decode cX12_feed 41 = .ok (.if_icmp .ge 40, 3) := by decide +kernel
theorem dX12_feed_44 : decode cX12_feed 44 = .ok (.aload_n 0, 1) := by decide +kernel
theorem dX12_feed_45 : decode cX12_feed 45 = .ok (.getfield 63, 3) := by decide +kernel
theorem dX12_feed_48 : decode cX12_feed 48 = .ok (.aload_n 0, 1) := by decide +kernel
theorem dX12_feed_49 : decode cX12_feed 49 = .ok (.getfield 277, 3) := by decide +kernel
theorem dX12_feed_52 : decode cX12_feed 52 = .ok (.lload_n 1, 1) := by decide +kernel
theorem dX12_feed_53 : decode cX12_feed 53 = .ok (.bipush 8, 2) := by decide +kernel
theorem dX12_feed_55 : decode cX12_feed 55 = .ok (.iload 4, 2) := by decide +kernel
theorem dX12_feed_57 : decode cX12_feed 57 = .ok (.imul, 1) := by decide +kernel
theorem dX12_feed_58 : decode cX12_feed 58 = .ok (.lshr, 1) := by decide +kernel
theorem dX12_feed_59 : decode cX12_feed 59 = .ok (.ldc2_w 280, 3) := by decide +kernel
theorem dX12_feed_62 : decode cX12_feed 62 = .ok (.land, 1) := by decide +kernel
theorem dX12_feed_63 : decode cX12_feed 63 = .ok (.l2i, 1) := by decide +kernel
theorem dX12_feed_64 : decode cX12_feed 64 = .ok (.iastore, 1) := by decide +kernel
theorem dX12_feed_65 : decode cX12_feed 65 = .ok (.aload_n 0, 1) := by decide +kernel
theorem dX12_feed_66 : decode cX12_feed 66 = .ok (.dup, 1) := by decide +kernel
theorem dX12_feed_67 : decode cX12_feed 67 = .ok (.getfield 277, 3) := by decide +kernel
theorem dX12_feed_70 : decode cX12_feed 70 = .ok (.iconst 1, 1) := by decide +kernel
theorem dX12_feed_71 : decode cX12_feed 71 = .ok (.iadd, 1) := by decide +kernel
theorem dX12_feed_72 : decode cX12_feed 72 = .ok (.putfield 277, 3) := by decide +kernel
theorem dX12_feed_75 : decode cX12_feed 75 = .ok (.iinc 4 1, 3) := by decide +kernel
theorem dX12_feed_78 : decode cX12_feed 78 = .ok (.goto (-40), 3) := by decide +kernel
theorem dX12_feed_81 : decode cX12_feed 81 = .ok (.aload_n 0, 1) := by decide +kernel
theorem dX12_feed_82 : decode cX12_feed 82 = .ok (.getfield 277, 3) := by decide +kernel
theorem dX12_feed_85 : decode cX12_feed 85 = .ok (.ireturn, 1) := by decide +kernel
theorem dX12_letterOf_0 : decode cX12_letterOf 0 = .ok (.iload_n 0, 1) := by decide +kernel
theorem dX12_letterOf_1 : decode cX12_letterOf 1 = .ok (.bipush 115, 2) := by decide +kernel
theorem dX12_letterOf_3 : decode cX12_letterOf 3 = .ok (.if_icmp .ne 7, 3) := by decide +kernel
theorem dX12_letterOf_6 : decode cX12_letterOf 6 = .ok (.iconst 0, 1) := by decide +kernel
theorem dX12_letterOf_7 : decode cX12_letterOf 7 = .ok (.goto 34, 3) := by decide +kernel
theorem dX12_letterOf_10 : decode cX12_letterOf 10 = .ok (.iload_n 0, 1) := by decide +kernel
theorem dX12_letterOf_11 : decode cX12_letterOf 11 = .ok (.bipush 108, 2) := by decide +kernel
theorem dX12_letterOf_13 : decode cX12_letterOf 13 = .ok (.if_icmp .ne 7, 3) := by decide +kernel
theorem dX12_letterOf_16 : decode cX12_letterOf 16 = .ok (.iconst 1, 1) := by decide +kernel
theorem dX12_letterOf_17 : decode cX12_letterOf 17 = .ok (.goto 24, 3) := by decide +kernel
theorem dX12_letterOf_20 : decode cX12_letterOf 20 = .ok (.iload_n 0, 1) := by decide +kernel
theorem dX12_letterOf_21 : decode cX12_letterOf 21 = .ok (.bipush 117, 2) := by decide +kernel
theorem dX12_letterOf_23 : decode cX12_letterOf 23 = .ok (.if_icmp .ne 7, 3) := by decide +kernel
theorem dX12_letterOf_26 : decode cX12_letterOf 26 = .ok (.iconst 2, 1) := by decide +kernel
theorem dX12_letterOf_27 : decode cX12_letterOf 27 = .ok (.goto 14, 3) := by decide +kernel
theorem dX12_letterOf_30 : decode cX12_letterOf 30 = .ok (.iload_n 0, 1) := by decide +kernel
theorem dX12_letterOf_31 : decode cX12_letterOf 31 = .ok (.bipush 120, 2) := by decide +kernel
theorem dX12_letterOf_33 : decode cX12_letterOf 33 = .ok (.if_icmp .ne 7, 3) := by decide +kernel
theorem dX12_letterOf_36 : decode cX12_letterOf 36 = .ok (.iconst 3, 1) := by decide +kernel
theorem dX12_letterOf_37 : decode cX12_letterOf 37 = .ok (.goto 4, 3) := by decide +kernel
theorem dX12_letterOf_40 : decode cX12_letterOf 40 = .ok (.iconst (-1), 1) := by decide +kernel
theorem dX12_letterOf_41 : decode cX12_letterOf 41 = .ok (.ireturn, 1) := by decide +kernel
theorem dX12_mayStand_0 : decode cX12_mayStand 0 = .ok (.aload_n 0, 1) := by decide +kernel
theorem dX12_mayStand_1 : decode cX12_mayStand 1 = .ok (.getfield 63, 3) := by decide +kernel
theorem dX12_mayStand_4 : decode cX12_mayStand 4 = .ok (.iload_n 1, 1) := by decide +kernel
theorem dX12_mayStand_5 : decode cX12_mayStand 5 = .ok (.iaload, 1) := by decide +kernel
theorem dX12_mayStand_6 : decode cX12_mayStand 6 = .ok (.istore_n 2, 1) := by decide +kernel
theorem dX12_mayStand_7 : decode cX12_mayStand 7 = .ok (.iload_n 1, 1) := by decide +kernel
theorem dX12_mayStand_8 : decode cX12_mayStand 8 = .ok (.iconst 5, 1) := by decide +kernel
theorem dX12_mayStand_9 : decode cX12_mayStand 9 = .ok (.irem, 1) := by decide +kernel
theorem dX12_mayStand_10 : decode cX12_mayStand 10 = .ok (.tableswitch 99 0 3 #[30, 49, 58, 70], 30) := by decide +kernel
theorem dX12_mayStand_40 : decode cX12_mayStand 40 = .ok (.iload_n 2, 1) := by decide +kernel
theorem dX12_mayStand_41 : decode cX12_mayStand 41 = .ok (.invokestatic 282, 3) := by decide +kernel
theorem dX12_mayStand_44 : decode cX12_mayStand 44 = .ok (.ifCond .lt 13, 3) := by decide +kernel
theorem dX12_mayStand_47 : decode cX12_mayStand 47 = .ok (.iload_n 1, 1) := by decide +kernel
theorem dX12_mayStand_48 : decode cX12_mayStand 48 = .ok (.bipush 40, 2) := by decide +kernel
theorem dX12_mayStand_50 : decode cX12_mayStand 50 = .ok (.if_icmp .ge 7, 3) := by decide +kernel
theorem dX12_mayStand_53 : decode cX12_mayStand 53 = .ok (.iconst 1, 1) := by decide +kernel
theorem dX12_mayStand_54 : decode cX12_mayStand 54 = .ok (.goto 4, 3) := by decide +kernel
theorem dX12_mayStand_57 : decode cX12_mayStand 57 = .ok (.iconst 0, 1) := by decide +kernel
theorem dX12_mayStand_58 : decode cX12_mayStand 58 = .ok (.ireturn, 1) := by decide +kernel
theorem dX12_mayStand_59 : decode cX12_mayStand 59 = .ok (.iload_n 2, 1) := by decide +kernel
theorem dX12_mayStand_60 : decode cX12_mayStand 60 = .ok (.bipush 48, 2) := by decide +kernel
theorem dX12_mayStand_62 : decode cX12_mayStand 62 = .ok (.bipush 54, 2) := by decide +kernel
theorem dX12_mayStand_64 : decode cX12_mayStand 64 = .ok (.invokestatic 159, 3) := by decide +kernel
theorem dX12_mayStand_67 : decode cX12_mayStand 67 = .ok (.ireturn, 1) := by decide +kernel
theorem dX12_mayStand_68 : decode cX12_mayStand 68 = .ok (.iload_n 2, 1) := by decide +kernel
theorem dX12_mayStand_69 : decode cX12_mayStand 69 = .ok (.bipush 45, 2) := by decide +kernel
theorem dX12_mayStand_71 : decode cX12_mayStand 71 = .ok (.if_icmp .ne 7, 3) := by decide +kernel
theorem dX12_mayStand_74 : decode cX12_mayStand 74 = .ok (.iconst 1, 1) := by decide +kernel
theorem dX12_mayStand_75 : decode cX12_mayStand 75 = .ok (.goto 4, 3) := by decide +kernel
theorem dX12_mayStand_78 : decode cX12_mayStand 78 = .ok (.iconst 0, 1) := by decide +kernel
theorem dX12_mayStand_79 : decode cX12_mayStand 79 = .ok (.ireturn, 1) := by decide +kernel
theorem dX12_mayStand_80 : decode cX12_mayStand 80 = .ok (.iload_n 2, 1) := by decide +kernel
theorem dX12_mayStand_81 : decode cX12_mayStand 81 = .ok (.bipush 48, 2) := by decide +kernel
theorem dX12_mayStand_83 : decode cX12_mayStand 83 = .ok (.bipush 54, 2) := by decide +kernel
theorem dX12_mayStand_85 : decode cX12_mayStand 85 = .ok (.invokestatic 159, 3) := by decide +kernel
theorem dX12_mayStand_88 : decode cX12_mayStand 88 = .ok (.ifCond .eq 19, 3) := by decide +kernel
theorem dX12_mayStand_91 : decode cX12_mayStand 91 = .ok (.iload_n 2, 1) := by decide +kernel
theorem dX12_mayStand_92 : decode cX12_mayStand 92 = .ok (.aload_n 0, 1) := by decide +kernel
theorem dX12_mayStand_93 : decode cX12_mayStand 93 = .ok (.getfield 63, 3) := by decide +kernel
theorem dX12_mayStand_96 : decode cX12_mayStand 96 = .ok (.iload_n 1, 1) := by decide +kernel
theorem dX12_mayStand_97 : decode cX12_mayStand 97 = .ok (.iconst 2, 1) := by decide +kernel
theorem dX12_mayStand_98 : decode cX12_mayStand 98 = .ok (.isub, 1) := by decide +kernel
theorem dX12_mayStand_99 : decode cX12_mayStand 99 = .ok (.iaload, 1) := by decide +kernel
theorem dX12_mayStand_100 : decode cX12_mayStand 100 = .ok (.if_icmp .lt 7, 3) := by decide +kernel
theorem dX12_mayStand_103 : decode cX12_mayStand 103 = .ok (.iconst 1, 1) := by decide +kernel
theorem dX12_mayStand_104 : decode cX12_mayStand 104 = .ok (.goto 4, 3) := by decide +kernel
theorem dX12_mayStand_107 : decode cX12_mayStand 107 = .ok (.iconst 0, 1) := by decide +kernel
theorem dX12_mayStand_108 : decode cX12_mayStand 108 = .ok (.ireturn, 1) := by decide +kernel
theorem dX12_mayStand_109 : decode cX12_mayStand 109 = .ok (.iload_n 2, 1) := by decide +kernel
theorem dX12_mayStand_110 : decode cX12_mayStand 110 = .ok (.bipush 59, 2) := by decide +kernel
theorem dX12_mayStand_112 : decode cX12_mayStand 112 = .ok (.if_icmp .ne 7, 3) := by decide +kernel
theorem dX12_mayStand_115 : decode cX12_mayStand 115 = .ok (.iconst 1, 1) := by decide +kernel
theorem dX12_mayStand_116 : decode cX12_mayStand 116 = .ok (.goto 4, 3) := by decide +kernel
theorem dX12_mayStand_119 : decode cX12_mayStand 119 = .ok (.iconst 0, 1) := by decide +kernel
theorem dX12_mayStand_120 : decode cX12_mayStand 120 = .ok (.ireturn, 1) := by decide +kernel
theorem dX12_text_0 : decode cX12_text 0 = .ok (.aload_n 0, 1) := by decide +kernel
theorem dX12_text_1 : decode cX12_text 1 = .ok (.getfield 277, 3) := by decide +kernel
theorem dX12_text_4 : decode cX12_text 4 = .ok (.istore_n 1, 1) := by decide +kernel
theorem dX12_text_5 : decode cX12_text 5 = .ok (.aload_n 0, 1) := by decide +kernel
theorem dX12_text_6 : decode cX12_text 6 = .ok (.iconst 0, 1) := by decide +kernel
theorem dX12_text_7 : decode cX12_text 7 = .ok (.putfield 277, 3) := by decide +kernel
theorem dX12_text_10 : decode cX12_text 10 = .ok (.iconst 0, 1) := by decide +kernel
theorem dX12_text_11 : decode cX12_text 11 = .ok (.istore_n 2, 1) := by decide +kernel
theorem dX12_text_12 : decode cX12_text 12 = .ok (.iload_n 2, 1) := by decide +kernel
theorem dX12_text_13 : decode cX12_text 13 = .ok (.iload_n 1, 1) := by decide +kernel
theorem dX12_text_14 : decode cX12_text 14 = .ok (.if_icmp .ge 27, 3) := by decide +kernel
theorem dX12_text_17 : decode cX12_text 17 = .ok (.aload_n 0, 1) := by decide +kernel
theorem dX12_text_18 : decode cX12_text 18 = .ok (.iload_n 2, 1) := by decide +kernel
theorem dX12_text_19 : decode cX12_text 19 = .ok (.invokevirtual 285, 3) := by decide +kernel
theorem dX12_text_22 : decode cX12_text 22 = .ok (.ifCond .ne 13, 3) := by decide +kernel
theorem dX12_text_25 : decode cX12_text 25 = .ok (.aload_n 0, 1) := by decide +kernel
theorem dX12_text_26 : decode cX12_text 26 = .ok (.ldc_w 288, 3) := by decide +kernel
theorem dX12_text_29 : decode cX12_text 29 = .ok (.iload_n 2, 1) := by decide +kernel
theorem dX12_text_30 : decode cX12_text 30 = .ok (.isub, 1) := by decide +kernel
theorem dX12_text_31 : decode cX12_text 31 = .ok (.invokevirtual 177, 3) := by decide +kernel
theorem dX12_text_34 : decode cX12_text 34 = .ok (.ireturn, 1) := by decide +kernel
theorem dX12_text_35 : decode cX12_text 35 = .ok (.iinc 2 1, 3) := by decide +kernel
theorem dX12_text_38 : decode cX12_text 38 = .ok (.goto (-26), 3) := by decide +kernel
theorem dX12_text_41 : decode cX12_text 41 = .ok (.iload_n 1, 1) := by decide +kernel
theorem dX12_text_42 : decode cX12_text 42 = .ok (.iconst 5, 1) := by decide +kernel
theorem dX12_text_43 : decode cX12_text 43 = .ok (.irem, 1) := by decide +kernel
theorem dX12_text_44 : decode cX12_text 44 = .ok (.ifCond .eq 13, 3) := by decide +kernel
theorem dX12_text_47 : decode cX12_text 47 = .ok (.aload_n 0, 1) := by decide +kernel
theorem dX12_text_48 : decode cX12_text 48 = .ok (.ldc_w 288, 3) := by decide +kernel
theorem dX12_text_51 : decode cX12_text 51 = .ok (.iload_n 1, 1) := by decide +kernel
theorem dX12_text_52 : decode cX12_text 52 = .ok (.isub, 1) := by decide +kernel
theorem dX12_text_53 : decode cX12_text 53 = .ok (.invokevirtual 177, 3) := by decide +kernel
theorem dX12_text_56 : decode cX12_text 56 = .ok (.ireturn, 1) := by decide +kernel
theorem dX12_text_57 : decode cX12_text 57 = .ok (.aload_n 0, 1) := by decide +kernel
theorem dX12_text_58 : decode cX12_text 58 = .ok (.iload_n 1, 1) := by decide +kernel
theorem dX12_text_59 : decode cX12_text 59 = .ok (.iconst 5, 1) := by decide +kernel
theorem dX12_text_60 : decode cX12_text 60 = .ok (.idiv, 1) := by decide +kernel
theorem dX12_text_61 : decode cX12_text 61 = .ok (.putfield 289, 3) := by decide +kernel
theorem dX12_text_64 : decode cX12_text 64 = .ok (.iconst 0, 1) := by decide +kernel
theorem dX12_text_65 : decode cX12_text 65 = .ok (.istore_n 2, 1) := by decide +kernel
theorem dX12_text_66 : decode cX12_text 66 = .ok (.iload_n 2, 1) := by decide +kernel
theorem dX12_text_67 : decode cX12_text 67 = .ok (.aload_n 0, 1) := by decide +kernel
theorem dX12_text_68 : decode cX12_text 68 = .ok (.getfield 289, 3) := by decide +kernel
theorem dX12_text_71 : decode cX12_text 71 = .ok (.if_icmp .ge 64, 3) := by decide +kernel
theorem dX12_text_74 : decode cX12_text 74 = .ok (.aload_n 0, 1) := by decide +kernel
theorem dX12_text_75 : decode cX12_text 75 = .ok (.getfield 54, 3) := by decide +kernel
theorem dX12_text_78 : decode cX12_text 78 = .ok (.iload_n 2, 1) := by decide +kernel
theorem dX12_text_79 : decode cX12_text 79 = .ok (.aload_n 0, 1) := by decide +kernel
theorem dX12_text_80 : decode cX12_text 80 = .ok (.getfield 63, 3) := by decide +kernel
theorem dX12_text_83 : decode cX12_text 83 = .ok (.iconst 5, 1) := by decide +kernel
theorem dX12_text_84 : decode cX12_text 84 = .ok (.iload_n 2, 1) := by decide +kernel
theorem dX12_text_85 : decode cX12_text 85 = .ok (.imul, 1) := by decide +kernel
theorem dX12_text_86 : decode cX12_text 86 = .ok (.iaload, 1) := by decide +kernel
theorem dX12_text_87 : decode cX12_text 87 = .ok (.invokestatic 282, 3) := by decide +kernel
theorem dX12_text_90 : decode cX12_text 90 = .ok (.iastore, 1) := by decide +kernel
theorem dX12_text_91 : decode cX12_text 91 = .ok (.aload_n 0, 1) := by decide +kernel
theorem dX12_text_92 : decode cX12_text 92 = .ok (.getfield 57, 3) := by decide +kernel
theorem dX12_text_95 : decode cX12_text 95 = .ok (.iload_n 2, 1) := by decide +kernel
theorem dX12_text_96 : decode cX12_text 96 = .ok (.aload_n 0, 1) := by decide +kernel
theorem dX12_text_97 : decode cX12_text 97 = .ok (.getfield 63, 3) := by decide +kernel
theorem dX12_text_100 : decode cX12_text 100 = .ok (.iconst 5, 1) := by decide +kernel
theorem dX12_text_101 : decode cX12_text 101 = .ok (.iload_n 2, 1) := by decide +kernel
theorem dX12_text_102 : decode cX12_text 102 = .ok (.imul, 1) := by decide +kernel
theorem dX12_text_103 : decode cX12_text 103 = .ok (.iconst 1, 1) := by decide +kernel
theorem dX12_text_104 : decode cX12_text 104 = .ok (.iadd, 1) := by decide +kernel
theorem dX12_text_105 : decode cX12_text 105 = .ok (.iaload, 1) := by decide +kernel
theorem dX12_text_106 : decode cX12_text 106 = .ok (.bipush 48, 2) := by decide +kernel
theorem dX12_text_108 : decode cX12_text 108 = .ok (.isub, 1) := by decide +kernel
theorem dX12_text_109 : decode cX12_text 109 = .ok (.iastore, 1) := by decide +kernel
theorem dX12_text_110 : decode cX12_text 110 = .ok (.aload_n 0, 1) := by decide +kernel
theorem dX12_text_111 : decode cX12_text 111 = .ok (.getfield 60, 3) := by decide +kernel
theorem dX12_text_114 : decode cX12_text 114 = .ok (.iload_n 2, 1) := by decide +kernel
theorem dX12_text_115 : decode cX12_text 115 = .ok (.aload_n 0, 1) := by decide +kernel
theorem dX12_text_116 : decode cX12_text 116 = .ok (.getfield 63, 3) := by decide +kernel
theorem dX12_text_119 : decode cX12_text 119 = .ok (.iconst 5, 1) := by decide +kernel
theorem dX12_text_120 : decode cX12_text 120 = .ok (.iload_n 2, 1) := by decide +kernel
theorem dX12_text_121 : decode cX12_text 121 = .ok (.imul, 1) := by decide +kernel
theorem dX12_text_122 : decode cX12_text 122 = .ok (.iconst 3, 1) := by decide +kernel
theorem dX12_text_123 : decode cX12_text 123 = .ok (.iadd, 1) := by decide +kernel
theorem dX12_text_124 : decode cX12_text 124 = .ok (.iaload, 1) := by decide +kernel
theorem dX12_text_125 : decode cX12_text 125 = .ok (.bipush 48, 2) := by decide +kernel
theorem dX12_text_127 : decode cX12_text 127 = .ok (.isub, 1) := by decide +kernel
theorem dX12_text_128 : decode cX12_text 128 = .ok (.iastore, 1) := by decide +kernel
theorem dX12_text_129 : decode cX12_text 129 = .ok (.iinc 2 1, 3) := by decide +kernel
theorem dX12_text_132 : decode cX12_text 132 = .ok (.goto (-66), 3) := by decide +kernel
theorem dX12_text_135 : decode cX12_text 135 = .ok (.aload_n 0, 1) := by decide +kernel
theorem dX12_text_136 : decode cX12_text 136 = .ok (.invokevirtual 189, 3) := by decide +kernel
theorem dX12_text_139 : decode cX12_text 139 = .ok (.aload_n 0, 1) := by decide +kernel
theorem dX12_text_140 : decode cX12_text 140 = .ok (.getfield 289, 3) := by decide +kernel
theorem dX12_text_143 : decode cX12_text 143 = .ok (.ireturn, 1) := by decide +kernel
theorem dX12_isAllowed_0 : decode cX12_isAllowed 0 = .ok (.iconst 0, 1) := by decide +kernel
theorem dX12_isAllowed_1 : decode cX12_isAllowed 1 = .ok (.istore_n 3, 1) := by decide +kernel
theorem dX12_isAllowed_2 : decode cX12_isAllowed 2 = .ok (.iload_n 3, 1) := by decide +kernel
theorem dX12_isAllowed_3 : decode cX12_isAllowed 3 = .ok (.aload_n 0, 1) := by decide +kernel
theorem dX12_isAllowed_4 : decode cX12_isAllowed 4 = .ok (.getfield 289, 3) := by decide +kernel
theorem dX12_isAllowed_7 : decode cX12_isAllowed 7 = .ok (.if_icmp .ge 48, 3) := by decide +kernel
theorem dX12_isAllowed_10 : decode cX12_isAllowed 10 = .ok (.aload_n 0, 1) := by decide +kernel
theorem dX12_isAllowed_11 : decode cX12_isAllowed 11 = .ok (.getfield 30, 3) := by decide +kernel
theorem dX12_isAllowed_14 : decode cX12_isAllowed 14 = .ok (.iload_n 1, 1) := by decide +kernel
theorem dX12_isAllowed_15 : decode cX12_isAllowed 15 = .ok (.iaload, 1) := by decide +kernel
theorem dX12_isAllowed_16 : decode cX12_isAllowed 16 = .ok (.aload_n 0, 1) := by decide +kernel
theorem dX12_isAllowed_17 : decode cX12_isAllowed 17 = .ok (.getfield 54, 3) := by decide +kernel
theorem dX12_isAllowed_20 : decode cX12_isAllowed 20 = .ok (.iload_n 3, 1) := by decide +kernel
theorem dX12_isAllowed_21 : decode cX12_isAllowed 21 = .ok (.iaload, 1) := by decide +kernel
theorem dX12_isAllowed_22 : decode cX12_isAllowed 22 = .ok (.invokestatic 201, 3) := by decide +kernel
theorem dX12_isAllowed_25 : decode cX12_isAllowed 25 = .ok (.ifCond .eq 24, 3) := by decide +kernel
theorem dX12_isAllowed_28 : decode cX12_isAllowed 28 = .ok (.iload_n 2, 1) := by decide +kernel
theorem dX12_isAllowed_29 : decode cX12_isAllowed 29 = .ok (.aload_n 0, 1) := by decide +kernel
theorem dX12_isAllowed_30 : decode cX12_isAllowed 30 = .ok (.getfield 57, 3) := by decide +kernel
theorem dX12_isAllowed_33 : decode cX12_isAllowed 33 = .ok (.iload_n 3, 1) := by decide +kernel
theorem dX12_isAllowed_34 : decode cX12_isAllowed 34 = .ok (.iaload, 1) := by decide +kernel
theorem dX12_isAllowed_35 : decode cX12_isAllowed 35 = .ok (.aload_n 0, 1) := by decide +kernel
theorem dX12_isAllowed_36 : decode cX12_isAllowed 36 = .ok (.getfield 60, 3) := by decide +kernel
theorem dX12_isAllowed_39 : decode cX12_isAllowed 39 = .ok (.iload_n 3, 1) := by decide +kernel
theorem dX12_isAllowed_40 : decode cX12_isAllowed 40 = .ok (.iaload, 1) := by decide +kernel
theorem dX12_isAllowed_41 : decode cX12_isAllowed 41 = .ok (.invokestatic 159, 3) := by decide +kernel
theorem dX12_isAllowed_44 : decode cX12_isAllowed 44 = .ok (.ifCond .ne 5, 3) := by decide +kernel
theorem dX12_isAllowed_47 : decode cX12_isAllowed 47 = .ok (.iconst 0, 1) := by decide +kernel
theorem dX12_isAllowed_48 : decode cX12_isAllowed 48 = .ok (.ireturn, 1) := by decide +kernel
theorem dX12_isAllowed_49 : decode cX12_isAllowed 49 = .ok (.iinc 3 1, 3) := by decide +kernel
theorem dX12_isAllowed_52 : decode cX12_isAllowed 52 = .ok (.goto (-50), 3) := by decide +kernel
theorem dX12_isAllowed_55 : decode cX12_isAllowed 55 = .ok (.iconst 1, 1) := by decide +kernel
theorem dX12_isAllowed_56 : decode cX12_isAllowed 56 = .ok (.ireturn, 1) := by decide +kernel
theorem dX12_allowed_0 : decode cX12_allowed 0 = .ok (.aload_n 0, 1) := by decide +kernel
theorem dX12_allowed_1 : decode cX12_allowed 1 = .ok (.iload_n 1, 1) := by decide +kernel
theorem dX12_allowed_2 : decode cX12_allowed 2 = .ok (.invokevirtual 198, 3) := by decide +kernel
theorem dX12_allowed_5 : decode cX12_allowed 5 = .ok (.ifCond .eq 13, 3) := by decide +kernel
theorem dX12_allowed_8 : decode cX12_allowed 8 = .ok (.iload_n 2, 1) := by decide +kernel
theorem dX12_allowed_9 : decode cX12_allowed 9 = .ok (.iconst 0, 1) := by decide +kernel
theorem dX12_allowed_10 : decode cX12_allowed 10 = .ok (.bipush 6, 2) := by decide +kernel
theorem dX12_allowed_12 : decode cX12_allowed 12 = .ok (.invokestatic 159, 3) := by decide +kernel
theorem dX12_allowed_15 : decode cX12_allowed 15 = .ok (.ifCond .ne 10, 3) := by decide +kernel
theorem dX12_allowed_18 : decode cX12_allowed 18 = .ok (.aload_n 0, 1) := by decide +kernel
theorem dX12_allowed_19 : decode cX12_allowed 19 = .ok (.ldc 185, 2) := by decide +kernel
theorem dX12_allowed_21 : decode cX12_allowed 21 = .ok (.invokevirtual 177, 3) := by decide +kernel
theorem dX12_allowed_24 : decode cX12_allowed 24 = .ok (.ireturn, 1) := by decide +kernel
theorem dX12_allowed_25 : decode cX12_allowed 25 = .ok (.aload_n 0, 1) := by decide +kernel
theorem dX12_allowed_26 : decode cX12_allowed 26 = .ok (.iload_n 1, 1) := by decide +kernel
theorem dX12_allowed_27 : decode cX12_allowed 27 = .ok (.iload_n 2, 1) := by decide +kernel
theorem dX12_allowed_28 : decode cX12_allowed 28 = .ok (.invokevirtual 292, 3) := by decide +kernel
theorem dX12_allowed_31 : decode cX12_allowed 31 = .ok (.ifCond .eq 7, 3) := by decide +kernel
theorem dX12_allowed_34 : decode cX12_allowed 34 = .ok (.iconst 1, 1) := by decide +kernel
theorem dX12_allowed_35 : decode cX12_allowed 35 = .ok (.goto 4, 3) := by decide +kernel
theorem dX12_allowed_38 : decode cX12_allowed 38 = .ok (.iconst 0, 1) := by decide +kernel
theorem dX12_allowed_39 : decode cX12_allowed 39 = .ok (.ireturn, 1) := by decide +kernel
theorem dX12_costOf_0 : decode cX12_costOf 0 = .ok (.iconst 0, 1) := by decide +kernel
theorem dX12_costOf_1 : decode cX12_costOf 1 = .ok (.istore_n 1, 1) := by decide +kernel
theorem dX12_costOf_2 : decode cX12_costOf 2 = .ok (.iconst 0, 1) := by decide +kernel
theorem dX12_costOf_3 : decode cX12_costOf 3 = .ok (.istore_n 2, 1) := by decide +kernel
theorem dX12_costOf_4 : decode cX12_costOf 4 = .ok (.iload_n 2, 1) := by decide +kernel
theorem dX12_costOf_5 : decode cX12_costOf 5 = .ok (.aload_n 0, 1) := by decide +kernel
theorem dX12_costOf_6 : decode cX12_costOf 6 = .ok (.getfield 163, 3) := by decide +kernel
theorem dX12_costOf_9 : decode cX12_costOf 9 = .ok (.if_icmp .ge 49, 3) := by decide +kernel
theorem dX12_costOf_12 : decode cX12_costOf 12 = .ok (.aload_n 0, 1) := by decide +kernel
theorem dX12_costOf_13 : decode cX12_costOf 13 = .ok (.getfield 108, 3) := by decide +kernel
theorem dX12_costOf_16 : decode cX12_costOf 16 = .ok (.iload_n 2, 1) := by decide +kernel
theorem dX12_costOf_17 : decode cX12_costOf 17 = .ok (.iaload, 1) := by decide +kernel
theorem dX12_costOf_18 : decode cX12_costOf 18 = .ok (.aload_n 0, 1) := by decide +kernel
theorem dX12_costOf_19 : decode cX12_costOf 19 = .ok (.getfield 39, 3) := by decide +kernel
theorem dX12_costOf_22 : decode cX12_costOf 22 = .ok (.iload_n 2, 1) := by decide +kernel
theorem dX12_costOf_23 : decode cX12_costOf 23 = .ok (.iaload, 1) := by decide +kernel
theorem dX12_costOf_24 : decode cX12_costOf 24 = .ok (.isub, 1) := by decide +kernel
theorem dX12_costOf_25 : decode cX12_costOf 25 = .ok (.istore_n 3, 1) := by decide +kernel
theorem dX12_costOf_26 : decode cX12_costOf 26 = .ok (.iload_n 1, 1) := by decide +kernel
theorem dX12_costOf_27 : decode cX12_costOf 27 = .ok (.bipush 20, 2) := by decide +kernel
theorem dX12_costOf_29 : decode cX12_costOf 29 = .ok (.aload_n 0, 1) := by decide +kernel
theorem dX12_costOf_30 : decode cX12_costOf 30 = .ok (.aload_n 0, 1) := by decide +kernel
theorem dX12_costOf_31 : decode cX12_costOf 31 = .ok (.iload_n 2, 1) := by decide +kernel
theorem dX12_costOf_32 : decode cX12_costOf 32 = .ok (.invokevirtual 209, 3) := by decide +kernel
theorem dX12_costOf_35 : decode cX12_costOf 35 = .ok (.invokevirtual 215, 3) := by decide +kernel
theorem dX12_costOf_38 : decode cX12_costOf 38 = .ok (.imul, 1) := by decide +kernel
theorem dX12_costOf_39 : decode cX12_costOf 39 = .ok (.iload_n 3, 1) := by decide +kernel
theorem dX12_costOf_40 : decode cX12_costOf 40 = .ok (.ifCond .ge 8, 3) := by decide +kernel
theorem dX12_costOf_43 : decode cX12_costOf 43 = .ok (.iload_n 3, 1) := by decide +kernel
theorem dX12_costOf_44 : decode cX12_costOf 44 = .ok (.ineg, 1) := by decide +kernel
theorem dX12_costOf_45 : decode cX12_costOf 45 = .ok (.goto 4, 3) := by decide +kernel
theorem dX12_costOf_48 : decode cX12_costOf 48 = .ok (.iload_n 3, 1) := by decide +kernel
theorem dX12_costOf_49 : decode cX12_costOf 49 = .ok (.imul, 1) := by decide +kernel
theorem dX12_costOf_50 : decode cX12_costOf 50 = .ok (.iadd, 1) := by decide +kernel
theorem dX12_costOf_51 : decode cX12_costOf 51 = .ok (.istore_n 1, 1) := by decide +kernel
theorem dX12_costOf_52 : decode cX12_costOf 52 = .ok (.iinc 2 1, 3) := by decide +kernel
theorem dX12_costOf_55 : decode cX12_costOf 55 = .ok (.goto (-51), 3) := by decide +kernel
theorem dX12_costOf_58 : decode cX12_costOf 58 = .ok (.iload_n 1, 1) := by decide +kernel
theorem dX12_costOf_59 : decode cX12_costOf 59 = .ok (.ireturn, 1) := by decide +kernel
theorem dX12_cost_0 : decode cX12_cost 0 = .ok (.aload_n 0, 1) := by decide +kernel
theorem dX12_cost_1 : decode cX12_cost 1 = .ok (.invokevirtual 262, 3) := by decide +kernel
theorem dX12_cost_4 : decode cX12_cost 4 = .ok (.aload_n 0, 1) := by decide +kernel
theorem dX12_cost_5 : decode cX12_cost 5 = .ok (.invokevirtual 295, 3) := by decide +kernel
theorem dX12_cost_8 : decode cX12_cost 8 = .ok (.ireturn, 1) := by decide +kernel
theorem dX12_fewest_0 : decode cX12_fewest 0 = .ok (.aload_n 0, 1) := by decide +kernel
theorem dX12_fewest_1 : decode cX12_fewest 1 = .ok (.invokevirtual 268, 3) := by decide +kernel
theorem dX12_fewest_4 : decode cX12_fewest 4 = .ok (.iconst 0, 1) := by decide +kernel
theorem dX12_fewest_5 : decode cX12_fewest 5 = .ok (.istore_n 1, 1) := by decide +kernel
theorem dX12_fewest_6 : decode cX12_fewest 6 = .ok (.iload_n 1, 1) := by decide +kernel
theorem dX12_fewest_7 : decode cX12_fewest 7 = .ok (.aload_n 0, 1) := by decide +kernel
theorem dX12_fewest_8 : decode cX12_fewest 8 = .ok (.getfield 230, 3) := by decide +kernel
theorem dX12_fewest_11 : decode cX12_fewest 11 = .ok (.if_icmp .ge 16, 3) := by decide +kernel
theorem dX12_fewest_14 : decode cX12_fewest 14 = .ok (.aload_n 0, 1) := by decide +kernel
theorem dX12_fewest_15 : decode cX12_fewest 15 = .ok (.getfield 120, 3) := by decide +kernel
theorem dX12_fewest_18 : decode cX12_fewest 18 = .ok (.iload_n 1, 1) := by decide +kernel
theorem dX12_fewest_19 : decode cX12_fewest 19 = .ok (.iconst (-1), 1) := by decide +kernel
theorem dX12_fewest_20 : decode cX12_fewest 20 = .ok (.iastore, 1) := by decide +kernel
theorem dX12_fewest_21 : decode cX12_fewest 21 = .ok (.iinc 1 1, 3) := by decide +kernel
theorem dX12_fewest_24 : decode cX12_fewest 24 = .ok (.goto (-18), 3) := by decide +kernel
theorem dX12_fewest_27 : decode cX12_fewest 27 = .ok (.aload_n 0, 1) := by decide +kernel
theorem dX12_fewest_28 : decode cX12_fewest 28 = .ok (.getfield 230, 3) := by decide +kernel
theorem dX12_fewest_31 : decode cX12_fewest 31 = .ok (.istore_n 1, 1) := by decide +kernel
theorem dX12_fewest_32 : decode cX12_fewest 32 = .ok (.iconst 0, 1) := by decide +kernel
theorem dX12_fewest_33 : decode cX12_fewest 33 = .ok (.istore_n 2, 1) := by decide +kernel
theorem dX12_fewest_34 : decode cX12_fewest 34 = .ok (.iload_n 2, 1) := by decide +kernel
theorem dX12_fewest_35 : decode cX12_fewest 35 = .ok (.aload_n 0, 1) := by decide +kernel
theorem dX12_fewest_36 : decode cX12_fewest 36 = .ok (.getfield 230, 3) := by decide +kernel
theorem dX12_fewest_39 : decode cX12_fewest 39 = .ok (.if_icmp .ge 20, 3) := by decide +kernel
theorem dX12_fewest_42 : decode cX12_fewest 42 = .ok (.aload_n 0, 1) := by decide +kernel
theorem dX12_fewest_43 : decode cX12_fewest 43 = .ok (.iload_n 2, 1) := by decide +kernel
theorem dX12_fewest_44 : decode cX12_fewest 44 = .ok (.invokevirtual 299, 3) := by decide +kernel
theorem dX12_fewest_47 : decode cX12_fewest 47 = .ok (.ifCond .eq 6, 3) := by decide +kernel
theorem dX12_fewest_50 : decode cX12_fewest 50 = .ok (.iinc 1 (-1), 3) := by decide +kernel
theorem dX12_fewest_53 : decode cX12_fewest 53 = .ok (.iinc 2 1, 3) := by decide +kernel
theorem dX12_fewest_56 : decode cX12_fewest 56 = .ok (.goto (-22), 3) := by decide +kernel
theorem dX12_fewest_59 : decode cX12_fewest 59 = .ok (.iload_n 1, 1) := by decide +kernel
theorem dX12_fewest_60 : decode cX12_fewest 60 = .ok (.ireturn, 1) := by decide +kernel
theorem dX12_isFound_0 : decode cX12_isFound 0 = .ok (.iconst 0, 1) := by decide +kernel
theorem dX12_isFound_1 : decode cX12_isFound 1 = .ok (.istore_n 2, 1) := by decide +kernel
theorem dX12_isFound_2 : decode cX12_isFound 2 = .ok (.iload_n 2, 1) := by decide +kernel
theorem dX12_isFound_3 : decode cX12_isFound 3 = .ok (.aload_n 0, 1) := by decide +kernel
theorem dX12_isFound_4 : decode cX12_isFound 4 = .ok (.getfield 230, 3) := by decide +kernel
theorem dX12_isFound_7 : decode cX12_isFound 7 = .ok (.if_icmp .ge 16, 3) := by decide +kernel
theorem dX12_isFound_10 : decode cX12_isFound 10 = .ok (.aload_n 0, 1) := by decide +kernel
theorem dX12_isFound_11 : decode cX12_isFound 11 = .ok (.getfield 123, 3) := by decide +kernel
theorem dX12_isFound_14 : decode cX12_isFound 14 = .ok (.iload_n 2, 1) := by decide +kernel
theorem dX12_isFound_15 : decode cX12_isFound 15 = .ok (.iconst (-1), 1) := by decide +kernel
theorem dX12_isFound_16 : decode cX12_isFound 16 = .ok (.iastore, 1) := by decide +kernel
theorem dX12_isFound_17 : decode cX12_isFound 17 = .ok (.iinc 2 1, 3) := by decide +kernel
theorem dX12_isFound_20 : decode cX12_isFound 20 = .ok (.goto (-18), 3) := by decide +kernel
theorem dX12_isFound_23 : decode cX12_isFound 23 = .ok (.iconst 1, 1) := by decide +kernel
theorem dX12_isFound_24 : decode cX12_isFound 24 = .ok (.istore_n 2, 1) := by decide +kernel
theorem dX12_isFound_25 : decode cX12_isFound 25 = .ok (.aload_n 0, 1) := by decide +kernel
theorem dX12_isFound_26 : decode cX12_isFound 26 = .ok (.getfield 126, 3) := by decide +kernel
theorem dX12_isFound_29 : decode cX12_isFound 29 = .ok (.iconst 0, 1) := by decide +kernel
theorem dX12_isFound_30 : decode cX12_isFound 30 = .ok (.iload_n 1, 1) := by decide +kernel
theorem dX12_isFound_31 : decode cX12_isFound 31 = .ok (.iastore, 1) := by decide +kernel
theorem dX12_isFound_32 : decode cX12_isFound 32 = .ok (.iconst 0, 1) := by decide +kernel
theorem dX12_isFound_33 : decode cX12_isFound 33 = .ok (.istore_n 3, 1) := by decide +kernel
theorem dX12_isFound_34 : decode cX12_isFound 34 = .ok (.iconst 0, 1) := by decide +kernel
theorem dX12_isFound_35 : decode cX12_isFound 35 = .ok (.istore 4, 2) := by decide +kernel
theorem dX12_isFound_37 : decode cX12_isFound 37 = .ok (.iload_n 3, 1) := by decide +kernel
theorem dX12_isFound_38 : decode cX12_isFound 38 = .ok (.iload_n 2, 1) := by decide +kernel
theorem dX12_isFound_39 : decode cX12_isFound 39 = .ok (.if_icmp .ge 119, 3) := by decide +kernel
theorem dX12_isFound_42 : decode cX12_isFound 42 = .ok (.aload_n 0, 1) := by decide +kernel
theorem dX12_isFound_43 : decode cX12_isFound 43 = .ok (.getfield 126, 3) := by decide +kernel
theorem dX12_isFound_46 : decode cX12_isFound 46 = .ok (.iload_n 3, 1) := by decide +kernel
theorem dX12_isFound_47 : decode cX12_isFound 47 = .ok (.iaload, 1) := by decide +kernel
theorem dX12_isFound_48 : decode cX12_isFound 48 = .ok (.istore 5, 2) := by decide +kernel
theorem dX12_isFound_50 : decode cX12_isFound 50 = .ok (.iinc 3 1, 3) := by decide +kernel
theorem dX12_isFound_53 : decode cX12_isFound 53 = .ok (.iconst 0, 1) := by decide +kernel
theorem dX12_isFound_54 : decode cX12_isFound 54 = .ok (.istore 6, 2) := by decide +kernel
theorem dX12_isFound_56 : decode cX12_isFound 56 = .ok (.iload 6, 2) := by decide +kernel
theorem dX12_isFound_58 : decode cX12_isFound 58 = .ok (.aload_n 0, 1) := by decide +kernel
theorem dX12_isFound_59 : decode cX12_isFound 59 = .ok (.getfield 230, 3) := by decide +kernel
theorem dX12_isFound_62 : decode cX12_isFound 62 = .ok (.if_icmp .ge 93, 3) := by decide +kernel
theorem dX12_isFound_65 : decode cX12_isFound 65 = .ok (.aload_n 0, 1) := by decide +kernel
theorem dX12_isFound_66 : decode cX12_isFound 66 = .ok (.getfield 111, 3) := by decide +kernel
theorem dX12_isFound_69 : decode cX12_isFound 69 = .ok (.iload 5, 2) := by decide +kernel
theorem dX12_isFound_71 : decode cX12_isFound 71 = .ok (.iaload, 1) := by decide +kernel
theorem dX12_isFound_72 : decode cX12_isFound 72 = .ok (.iload 6, 2) := by decide +kernel
theorem dX12_isFound_74 : decode cX12_isFound 74 = .ok (.invokestatic 206, 3) := by decide +kernel
theorem dX12_isFound_77 : decode cX12_isFound 77 = .ok (.ifCond .eq 72, 3) := by decide +kernel
theorem dX12_isFound_80 : decode cX12_isFound 80 = .ok (.iload 4, 2) := by decide +kernel
theorem dX12_isFound_82 : decode cX12_isFound 82 = .ok (.iload 6, 2) := by decide +kernel
theorem dX12_isFound_84 : decode cX12_isFound 84 = .ok (.invokestatic 206, 3) := by decide +kernel
theorem dX12_isFound_87 : decode cX12_isFound 87 = .ok (.ifCond .eq 6, 3) := by decide +kernel
theorem dX12_isFound_90 : decode cX12_isFound 90 = .ok (.goto 59, 3) := by decide +kernel
theorem dX12_isFound_93 : decode cX12_isFound 93 = .ok (.iload 4, 2) := by decide +kernel
theorem dX12_isFound_95 : decode cX12_isFound 95 = .ok (.iconst 1, 1) := by decide +kernel
theorem dX12_isFound_96 : decode cX12_isFound 96 = .ok (.iload 6, 2) := by decide +kernel
theorem dX12_isFound_98 : decode cX12_isFound 98 = .ok (.ishl, 1) := by decide +kernel
theorem dX12_isFound_99 : decode cX12_isFound 99 = .ok (.ior, 1) := by decide +kernel
theorem dX12_isFound_100 : decode cX12_isFound 100 = .ok (.istore 4, 2) := by decide +kernel
theorem dX12_isFound_102 : decode cX12_isFound 102 = .ok (.aload_n 0, 1) := by decide +kernel
theorem dX12_isFound_103 : decode cX12_isFound 103 = .ok (.getfield 123, 3) := by decide +kernel
theorem dX12_isFound_106 : decode cX12_isFound 106 = .ok (.iload 6, 2) := by decide +kernel
theorem dX12_isFound_108 : decode cX12_isFound 108 = .ok (.iload 5, 2) := by decide +kernel
theorem dX12_isFound_110 : decode cX12_isFound 110 = .ok (.iastore, 1) := by decide +kernel
theorem dX12_isFound_111 : decode cX12_isFound 111 = .ok (.aload_n 0, 1) := by decide +kernel
theorem dX12_isFound_112 : decode cX12_isFound 112 = .ok (.getfield 120, 3) := by decide +kernel
theorem dX12_isFound_115 : decode cX12_isFound 115 = .ok (.iload 6, 2) := by decide +kernel
theorem dX12_isFound_117 : decode cX12_isFound 117 = .ok (.iaload, 1) := by decide +kernel
theorem dX12_isFound_118 : decode cX12_isFound 118 = .ok (.ifCond .lt 22, 3) := by decide +kernel
theorem dX12_isFound_121 : decode cX12_isFound 121 = .ok (.aload_n 0, 1) := by decide +kernel
theorem dX12_isFound_122 : decode cX12_isFound 122 = .ok (.getfield 126, 3) := by decide +kernel
theorem dX12_isFound_125 : decode cX12_isFound 125 = .ok (.iload_n 2, 1) := by decide +kernel
theorem dX12_isFound_126 : decode cX12_isFound 126 = .ok (.aload_n 0, 1) := by decide +kernel
theorem dX12_isFound_127 : decode cX12_isFound 127 = .ok (.getfield 120, 3) := by decide +kernel
theorem dX12_isFound_130 : decode cX12_isFound 130 = .ok (.iload 6, 2) := by decide +kernel
theorem dX12_isFound_132 : decode cX12_isFound 132 = .ok (.iaload, 1) := by decide +kernel
theorem dX12_isFound_133 : decode cX12_isFound 133 = .ok (.iastore, 1) := by decide +kernel
theorem dX12_isFound_134 : decode cX12_isFound 134 = .ok (.iinc 2 1, 3) := by decide +kernel
theorem dX12_isFound_137 : decode cX12_isFound 137 = .ok (.goto 12, 3) := by decide +kernel
theorem dX12_isFound_140 : decode cX12_isFound 140 = .ok (.aload_n 0, 1) := by decide +kernel
theorem dX12_isFound_141 : decode cX12_isFound 141 = .ok (.iload 6, 2) := by decide +kernel
theorem dX12_isFound_143 : decode cX12_isFound 143 = .ok (.iload_n 1, 1) := by decide +kernel
theorem dX12_isFound_144 : decode cX12_isFound 144 = .ok (.invokevirtual 302, 3) := by decide +kernel
theorem dX12_isFound_147 : decode cX12_isFound 147 = .ok (.iconst 1, 1) := by decide +kernel
theorem dX12_isFound_148 : decode cX12_isFound 148 = .ok (.ireturn, 1) := by decide +kernel
theorem dX12_isFound_149 : decode cX12_isFound 149 = .ok (.iinc 6 1, 3) := by decide +kernel
theorem dX12_isFound_152 : decode cX12_isFound 152 = .ok (.goto (-96), 3) := by decide +kernel
theorem dX12_isFound_155 : decode cX12_isFound 155 = .ok (.goto (-118), 3) := by decide +kernel
theorem dX12_isFound_158 : decode cX12_isFound 158 = .ok (.iconst 0, 1) := by decide +kernel
theorem dX12_isFound_159 : decode cX12_isFound 159 = .ok (.ireturn, 1) := by decide +kernel
theorem dX12_turn_0 : decode cX12_turn 0 = .ok (.iload_n 1, 1) := by decide +kernel
theorem dX12_turn_1 : decode cX12_turn 1 = .ok (.istore_n 3, 1) := by decide +kernel
theorem dX12_turn_2 : decode cX12_turn 2 = .ok (.iconst 1, 1) := by decide +kernel
theorem dX12_turn_3 : decode cX12_turn 3 = .ok (.istore 4, 2) := by decide +kernel
theorem dX12_turn_5 : decode cX12_turn 5 = .ok (.iload 4, 2) := by decide +kernel
theorem dX12_turn_7 : decode cX12_turn 7 = .ok (.ifCond .eq 75, 3) := by decide +kernel
theorem dX12_turn_10 : decode cX12_turn 10 = .ok (.aload_n 0, 1) := by decide +kernel
theorem dX12_turn_11 : decode cX12_turn 11 = .ok (.getfield 123, 3) := by decide +kernel
theorem dX12_turn_14 : decode cX12_turn 14 = .ok (.iload_n 3, 1) := by decide +kernel
theorem dX12_turn_15 : decode cX12_turn 15 = .ok (.iaload, 1) := by decide +kernel
theorem dX12_turn_16 : decode cX12_turn 16 = .ok (.istore 5, 2) := by decide +kernel
theorem dX12_turn_18 : decode cX12_turn 18 = .ok (.iconst (-1), 1) := by decide +kernel
theorem dX12_turn_19 : decode cX12_turn 19 = .ok (.istore 6, 2) := by decide +kernel
theorem dX12_turn_21 : decode cX12_turn 21 = .ok (.iconst 0, 1) := by decide +kernel
theorem dX12_turn_22 : decode cX12_turn 22 = .ok (.istore 7, 2) := by decide +kernel
theorem dX12_turn_24 : decode cX12_turn 24 = .ok (.iload 7, 2) := by decide +kernel
theorem dX12_turn_26 : decode cX12_turn 26 = .ok (.aload_n 0, 1) := by decide +kernel
theorem dX12_turn_27 : decode cX12_turn 27 = .ok (.getfield 230, 3) := by decide +kernel
theorem dX12_turn_30 : decode cX12_turn 30 = .ok (.if_icmp .ge 25, 3) := by decide +kernel
theorem dX12_turn_33 : decode cX12_turn 33 = .ok (.aload_n 0, 1) := by decide +kernel
theorem dX12_turn_34 : decode cX12_turn 34 = .ok (.getfield 120, 3) := by decide +kernel
theorem dX12_turn_37 : decode cX12_turn 37 = .ok (.iload 7, 2) := by decide +kernel
theorem dX12_turn_39 : decode cX12_turn 39 = .ok (.iaload, 1) := by decide +kernel
theorem dX12_turn_40 : decode cX12_turn 40 = .ok (.iload 5, 2) := by decide +kernel
theorem dX12_turn_42 : decode cX12_turn 42 = .ok (.if_icmp .ne 7, 3) := by decide +kernel
theorem dX12_turn_45 : decode cX12_turn 45 = .ok (.iload 7, 2) := by decide +kernel
theorem dX12_turn_47 : decode cX12_turn 47 = .ok (.istore 6, 2) := by decide +kernel
theorem dX12_turn_49 : decode cX12_turn 49 = .ok (.iinc 7 1, 3) := by decide +kernel
theorem dX12_turn_52 : decode cX12_turn 52 = .ok (.goto (-28), 3) := by decide +kernel
theorem dX12_turn_55 : decode cX12_turn 55 = .ok (.aload_n 0, 1) := by decide +kernel
theorem dX12_turn_56 : decode cX12_turn 56 = .ok (.getfield 120, 3) := by decide +kernel
theorem dX12_turn_59 : decode cX12_turn 59 = .ok (.iload_n 3, 1) := by decide +kernel
theorem dX12_turn_60 : decode cX12_turn 60 = .ok (.iload 5, 2) := by decide +kernel
theorem dX12_turn_62 : decode cX12_turn 62 = .ok (.iastore, 1) := by decide +kernel
theorem dX12_turn_63 : decode cX12_turn 63 = .ok (.iload 5, 2) := by decide +kernel
theorem dX12_turn_65 : decode cX12_turn 65 = .ok (.iload_n 2, 1) := by decide +kernel
theorem dX12_turn_66 : decode cX12_turn 66 = .ok (.if_icmp .eq 7, 3) := by decide +kernel
theorem dX12_turn_69 : decode cX12_turn 69 = .ok (.iconst 1, 1) := by decide +kernel
theorem dX12_turn_70 : decode cX12_turn 70 = .ok (.goto 4, 3) := by decide +kernel
theorem dX12_turn_73 : decode cX12_turn 73 = .ok (.iconst 0, 1) := by decide +kernel
theorem dX12_turn_74 : decode cX12_turn 74 = .ok (.istore 4, 2) := by decide +kernel
theorem dX12_turn_76 : decode cX12_turn 76 = .ok (.iload 6, 2) := by decide +kernel
theorem dX12_turn_78 : decode cX12_turn 78 = .ok (.istore_n 3, 1) := by decide +kernel
theorem dX12_turn_79 : decode cX12_turn 79 = .ok (.goto (-74), 3) := by decide +kernel
theorem dX12_turn_82 : decode cX12_turn 82 = .ok (.return_, 1) := by decide +kernel
theorem dX12_findTrades_0 : decode cX12_findTrades 0 = .ok (.aload_n 0, 1) := by decide +kernel
theorem dX12_findTrades_1 : decode cX12_findTrades 1 = .ok (.invokevirtual 243, 3) := by decide +kernel
theorem dX12_findTrades_4 : decode cX12_findTrades 4 = .ok (.aload_n 0, 1) := by decide +kernel
theorem dX12_findTrades_5 : decode cX12_findTrades 5 = .ok (.getfield 233, 3) := by decide +kernel
theorem dX12_findTrades_8 : decode cX12_findTrades 8 = .ok (.ifCond .ne 5, 3) := by decide +kernel
theorem dX12_findTrades_11 : decode cX12_findTrades 11 = .ok (.iconst 0, 1) := by decide +kernel
theorem dX12_findTrades_12 : decode cX12_findTrades 12 = .ok (.ireturn, 1) := by decide +kernel
theorem dX12_findTrades_13 : decode cX12_findTrades 13 = .ok (.aload_n 0, 1) := by decide +kernel
theorem dX12_findTrades_14 : decode cX12_findTrades 14 = .ok (.getfield 173, 3) := by decide +kernel
theorem dX12_findTrades_17 : decode cX12_findTrades 17 = .ok (.ifCond .eq 16, 3) := by decide +kernel
theorem dX12_findTrades_20 : decode cX12_findTrades 20 = .ok (.aload_n 0, 1) := by decide +kernel
theorem dX12_findTrades_21 : decode cX12_findTrades 21 = .ok (.getfield 305, 3) := by decide +kernel
theorem dX12_findTrades_24 : decode cX12_findTrades 24 = .ok (.ifCond .le 7, 3) := by decide +kernel
theorem dX12_findTrades_27 : decode cX12_findTrades 27 = .ok (.iconst 1, 1) := by decide +kernel
theorem dX12_findTrades_28 : decode cX12_findTrades 28 = .ok (.goto 4, 3) := by decide +kernel
theorem dX12_findTrades_31 : decode cX12_findTrades 31 = .ok (.iconst 0, 1) := by decide +kernel
theorem dX12_findTrades_32 : decode cX12_findTrades 32 = .ok (.ireturn, 1) := by decide +kernel
theorem dX12_findTrades_33 : decode cX12_findTrades 33 = .ok (.aload_n 0, 1) := by decide +kernel
theorem dX12_findTrades_34 : decode cX12_findTrades 34 = .ok (.iconst 1, 1) := by decide +kernel
theorem dX12_findTrades_35 : decode cX12_findTrades 35 = .ok (.putfield 173, 3) := by decide +kernel
theorem dX12_findTrades_38 : decode cX12_findTrades 38 = .ok (.aload_n 0, 1) := by decide +kernel
theorem dX12_findTrades_39 : decode cX12_findTrades 39 = .ok (.iconst 0, 1) := by decide +kernel
theorem dX12_findTrades_40 : decode cX12_findTrades 40 = .ok (.putfield 305, 3) := by decide +kernel
theorem dX12_findTrades_43 : decode cX12_findTrades 43 = .ok (.iconst 0, 1) := by decide +kernel
theorem dX12_findTrades_44 : decode cX12_findTrades 44 = .ok (.istore_n 1, 1) := by decide +kernel
theorem dX12_findTrades_45 : decode cX12_findTrades 45 = .ok (.iload_n 1, 1) := by decide +kernel
theorem dX12_findTrades_46 : decode cX12_findTrades 46 = .ok (.bipush 11, 2) := by decide +kernel
theorem dX12_findTrades_48 : decode cX12_findTrades 48 = .ok (.if_icmp .ge 18, 3) := by decide +kernel
theorem dX12_findTrades_51 : decode cX12_findTrades 51 = .ok (.aload_n 0, 1) := by decide +kernel
theorem dX12_findTrades_52 : decode cX12_findTrades 52 = .ok (.getfield 129, 3) := by decide +kernel
theorem dX12_findTrades_55 : decode cX12_findTrades 55 = .ok (.iload_n 1, 1) := by decide +kernel
theorem dX12_findTrades_56 : decode cX12_findTrades 56 = .ok (.ldc_w 308, 3) := by decide +kernel
theorem dX12_findTrades_59 : decode cX12_findTrades 59 = .ok (.iastore, 1) := by decide +kernel
theorem dX12_findTrades_60 : decode cX12_findTrades 60 = .ok (.iinc 1 1, 3) := by decide +kernel
theorem dX12_findTrades_63 : decode cX12_findTrades 63 = .ok (.goto (-18), 3) := by decide +kernel
theorem dX12_findTrades_66 : decode cX12_findTrades 66 = .ok (.iconst 1, 1) := by decide +kernel
theorem dX12_findTrades_67 : decode cX12_findTrades 67 = .ok (.istore_n 1, 1) := by decide +kernel
theorem dX12_findTrades_68 : decode cX12_findTrades 68 = .ok (.iconst 0, 1) := by decide +kernel
theorem dX12_findTrades_69 : decode cX12_findTrades 69 = .ok (.istore_n 2, 1) := by decide +kernel
theorem dX12_findTrades_70 : decode cX12_findTrades 70 = .ok (.iload_n 2, 1) := by decide +kernel
theorem dX12_findTrades_71 : decode cX12_findTrades 71 = .ok (.aload_n 0, 1) := by decide +kernel
theorem dX12_findTrades_72 : decode cX12_findTrades 72 = .ok (.getfield 163, 3) := by decide +kernel
theorem dX12_findTrades_75 : decode cX12_findTrades 75 = .ok (.if_icmp .ge 14, 3) := by decide +kernel
theorem dX12_findTrades_78 : decode cX12_findTrades 78 = .ok (.iload_n 1, 1) := by decide +kernel
theorem dX12_findTrades_79 : decode cX12_findTrades 79 = .ok (.bipush 7, 2) := by decide +kernel
theorem dX12_findTrades_81 : decode cX12_findTrades 81 = .ok (.imul, 1) := by decide +kernel
theorem dX12_findTrades_82 : decode cX12_findTrades 82 = .ok (.istore_n 1, 1) := by decide +kernel
theorem dX12_findTrades_83 : decode cX12_findTrades 83 = .ok (.iinc 2 1, 3) := by decide +kernel
theorem dX12_findTrades_86 : decode cX12_findTrades 86 = .ok (.goto (-16), 3) := by decide +kernel
theorem dX12_findTrades_89 : decode cX12_findTrades 89 = .ok (.iconst 0, 1) := by decide +kernel
theorem dX12_findTrades_90 : decode cX12_findTrades 90 = .ok (.istore_n 2, 1) := by decide +kernel
theorem dX12_findTrades_91 : decode cX12_findTrades 91 = .ok (.iload_n 2, 1) := by decide +kernel
theorem dX12_findTrades_92 : decode cX12_findTrades 92 = .ok (.iload_n 1, 1) := by decide +kernel
theorem dX12_findTrades_93 : decode cX12_findTrades 93 = .ok (.if_icmp .ge 155, 3) := by decide +kernel
theorem dX12_findTrades_96 : decode cX12_findTrades 96 = .ok (.iload_n 2, 1) := by decide +kernel
theorem dX12_findTrades_97 : decode cX12_findTrades 97 = .ok (.istore_n 3, 1) := by decide +kernel
theorem dX12_findTrades_98 : decode cX12_findTrades 98 = .ok (.iconst 1, 1) := by decide +kernel
theorem dX12_findTrades_99 : decode cX12_findTrades 99 = .ok (.istore 4, 2) := by decide +kernel
theorem dX12_findTrades_101 : decode cX12_findTrades 101 = .ok (.aload_n 0, 1) := by decide +kernel
theorem dX12_findTrades_102 : decode cX12_findTrades 102 = .ok (.getfield 163, 3) := by decide +kernel
theorem dX12_findTrades_105 : decode cX12_findTrades 105 = .ok (.iconst 1, 1) := by decide +kernel
theorem dX12_findTrades_106 : decode cX12_findTrades 106 = .ok (.isub, 1) := by decide +kernel
theorem dX12_findTrades_107 : decode cX12_findTrades 107 = .ok (.istore 5, 2) := by decide +kernel
theorem dX12_findTrades_109 : decode cX12_findTrades 109 = .ok (.iload 5, 2) := by decide +kernel
theorem dX12_findTrades_111 : decode cX12_findTrades 111 = .ok (.ifCond .lt 53, 3) := by decide +kernel
theorem dX12_findTrades_114 : decode cX12_findTrades 114 = .ok (.aload_n 0, 1) := by decide +kernel
theorem dX12_findTrades_115 : decode cX12_findTrades 115 = .ok (.getfield 108, 3) := by decide +kernel
theorem dX12_findTrades_118 : decode cX12_findTrades 118 = .ok (.iload 5, 2) := by decide +kernel
theorem dX12_findTrades_120 : decode cX12_findTrades 120 = .ok (.iload_n 3, 1) := by decide +kernel
theorem dX12_findTrades_121 : decode cX12_findTrades 121 = .ok (.bipush 7, 2) := by decide +kernel
theorem dX12_findTrades_123 : decode cX12_findTrades 123 = .ok (.irem, 1) := by decide +kernel
theorem dX12_findTrades_124 : decode cX12_findTrades 124 = .ok (.iastore, 1) := by decide +kernel
theorem dX12_findTrades_125 : decode cX12_findTrades 125 = .ok (.iload_n 3, 1) := by decide +kernel
theorem dX12_findTrades_126 : decode cX12_findTrades 126 = .ok (.bipush 7, 2) := by decide +kernel
theorem dX12_findTrades_128 : decode cX12_findTrades 128 = .ok (.idiv, 1) := by decide +kernel
theorem dX12_findTrades_129 : decode cX12_findTrades 129 = .ok (.istore_n 3, 1) := by decide +kernel
theorem dX12_findTrades_130 : decode cX12_findTrades 130 = .ok (.iload 4, 2) := by decide +kernel
theorem dX12_findTrades_132 : decode cX12_findTrades 132 = .ok (.ifCond .eq 23, 3) := by decide +kernel
theorem dX12_findTrades_135 : decode cX12_findTrades 135 = .ok (.aload_n 0, 1) := by decide +kernel
theorem dX12_findTrades_136 : decode cX12_findTrades 136 = .ok (.iload 5, 2) := by decide +kernel
theorem dX12_findTrades_138 : decode cX12_findTrades 138 = .ok (.aload_n 0, 1) := by decide +kernel
theorem dX12_findTrades_139 : decode cX12_findTrades 139 = .ok (.getfield 108, 3) := by decide +kernel
theorem dX12_findTrades_142 : decode cX12_findTrades 142 = .ok (.iload 5, 2) := by decide +kernel
theorem dX12_findTrades_144 : decode cX12_findTrades 144 = .ok (.iaload, 1) := by decide +kernel
theorem dX12_findTrades_145 : decode cX12_findTrades 145 = .ok (.invokevirtual 292, 3) := by decide +kernel
theorem dX12_findTrades_148 : decode cX12_findTrades 148 = .ok (.ifCond .eq 7, 3) := by decide +kernel
theorem dX12_findTrades_151 : decode cX12_findTrades 151 = .ok (.iconst 1, 1) := by decide +kernel
theorem dX12_findTrades_152 : decode cX12_findTrades 152 = .ok (.goto 4, 3) := by decide +kernel
theorem dX12_findTrades_155 : decode cX12_findTrades 155 = .ok (.iconst 0, 1) := by decide +kernel
theorem dX12_findTrades_156 : decode cX12_findTrades 156 = .ok (.istore 4, 2) := by decide +kernel
theorem dX12_findTrades_158 : decode cX12_findTrades 158 = .ok (.iinc 5 (-1), 3) := by decide +kernel
theorem dX12_findTrades_161 : decode cX12_findTrades 161 = .ok (.goto (-52), 3) := by decide +kernel
theorem dX12_findTrades_164 : decode cX12_findTrades 164 = .ok (.iload 4, 2) := by decide +kernel
theorem dX12_findTrades_166 : decode cX12_findTrades 166 = .ok (.ifCond .ne 6, 3) := by decide +kernel
theorem dX12_findTrades_169 : decode cX12_findTrades 169 = .ok (.goto 73, 3) := by decide +kernel
theorem dX12_findTrades_172 : decode cX12_findTrades 172 = .ok (.aload_n 0, 1) := by decide +kernel
theorem dX12_findTrades_173 : decode cX12_findTrades 173 = .ok (.invokevirtual 295, 3) := by decide +kernel
theorem dX12_findTrades_176 : decode cX12_findTrades 176 = .ok (.istore 5, 2) := by decide +kernel
theorem dX12_findTrades_178 : decode cX12_findTrades 178 = .ok (.aload_n 0, 1) := by decide +kernel
theorem dX12_findTrades_179 : decode cX12_findTrades 179 = .ok (.invokevirtual 309, 3) := by decide +kernel
theorem dX12_findTrades_182 : decode cX12_findTrades 182 = .ok (.istore 6, 2) := by decide +kernel
theorem dX12_findTrades_184 : decode cX12_findTrades 184 = .ok (.iload 5, 2) := by decide +kernel
theorem dX12_findTrades_186 : decode cX12_findTrades 186 = .ok (.aload_n 0, 1) := by decide +kernel
theorem dX12_findTrades_187 : decode cX12_findTrades 187 = .ok (.getfield 129, 3) := by decide +kernel
theorem dX12_findTrades_190 : decode cX12_findTrades 190 = .ok (.iload 6, 2) := by decide +kernel
theorem dX12_findTrades_192 : decode cX12_findTrades 192 = .ok (.iaload, 1) := by decide +kernel
theorem dX12_findTrades_193 : decode cX12_findTrades 193 = .ok (.if_icmp .lt 6, 3) := by decide +kernel
theorem dX12_findTrades_196 : decode cX12_findTrades 196 = .ok (.goto 46, 3) := by decide +kernel
theorem dX12_findTrades_199 : decode cX12_findTrades 199 = .ok (.aload_n 0, 1) := by decide +kernel
theorem dX12_findTrades_200 : decode cX12_findTrades 200 = .ok (.getfield 129, 3) := by decide +kernel
theorem dX12_findTrades_203 : decode cX12_findTrades 203 = .ok (.iload 6, 2) := by decide +kernel
theorem dX12_findTrades_205 : decode cX12_findTrades 205 = .ok (.iload 5, 2) := by decide +kernel
theorem dX12_findTrades_207 : decode cX12_findTrades 207 = .ok (.iastore, 1) := by decide +kernel
theorem dX12_findTrades_208 : decode cX12_findTrades 208 = .ok (.iconst 0, 1) := by decide +kernel
theorem dX12_findTrades_209 : decode cX12_findTrades 209 = .ok (.istore 7, 2) := by decide +kernel
theorem dX12_findTrades_211 : decode cX12_findTrades 211 = .ok (.iload 7, 2) := by decide +kernel
theorem dX12_findTrades_213 : decode cX12_findTrades 213 = .ok (.iconst 4, 1) := by decide +kernel
theorem dX12_findTrades_214 : decode cX12_findTrades 214 = .ok (.if_icmp .ge 28, 3) := by decide +kernel
theorem dX12_findTrades_217 : decode cX12_findTrades 217 = .ok (.aload_n 0, 1) := by decide +kernel
theorem dX12_findTrades_218 : decode cX12_findTrades 218 = .ok (.getfield 141, 3) := by decide +kernel
theorem dX12_findTrades_221 : decode cX12_findTrades 221 = .ok (.iconst 4, 1) := by decide +kernel
theorem dX12_findTrades_222 : decode cX12_findTrades 222 = .ok (.iload 6, 2) := by decide +kernel
theorem dX12_findTrades_224 : decode cX12_findTrades 224 = .ok (.imul, 1) := by decide +kernel
theorem dX12_findTrades_225 : decode cX12_findTrades 225 = .ok (.iload 7, 2) := by decide +kernel
theorem dX12_findTrades_227 : decode cX12_findTrades 227 = .ok (.iadd, 1) := by decide +kernel
theorem dX12_findTrades_228 : decode cX12_findTrades 228 = .ok (.aload_n 0, 1) := by decide +kernel
theorem dX12_findTrades_229 : decode cX12_findTrades 229 = .ok (.getfield 108, 3) := by decide +kernel
theorem dX12_findTrades_232 : decode cX12_findTrades 232 = .ok (.iload 7, 2) := by decide +kernel
theorem dX12_findTrades_234 : decode cX12_findTrades 234 = .ok (.iaload, 1) := by decide +kernel
theorem dX12_findTrades_235 : decode cX12_findTrades 235 = .ok (.iastore, 1) := by decide +kernel
theorem dX12_findTrades_236 : decode cX12_findTrades 236 = .ok (.iinc 7 1, 3) := by decide +kernel
theorem dX12_findTrades_239 : decode cX12_findTrades 239 = .ok (.goto (-28), 3) := by decide +kernel
theorem dX12_findTrades_242 : decode cX12_findTrades 242 = .ok (.iinc 2 1, 3) := by decide +kernel
theorem dX12_findTrades_245 : decode cX12_findTrades 245 = .ok (.goto (-154), 3) := by decide +kernel
theorem dX12_findTrades_248 : decode cX12_findTrades 248 = .ok (.ldc_w 308, 3) := by decide +kernel
theorem dX12_findTrades_251 : decode cX12_findTrades 251 = .ok (.istore_n 2, 1) := by decide +kernel
theorem dX12_findTrades_252 : decode cX12_findTrades 252 = .ok (.iconst 0, 1) := by decide +kernel
theorem dX12_findTrades_253 : decode cX12_findTrades 253 = .ok (.istore_n 3, 1) := by decide +kernel
theorem dX12_findTrades_254 : decode cX12_findTrades 254 = .ok (.iload_n 3, 1) := by decide +kernel
theorem dX12_findTrades_255 : decode cX12_findTrades 255 = .ok (.bipush 11, 2) := by decide +kernel
theorem dX12_findTrades_257 : decode cX12_findTrades 257 = .ok (.if_icmp .ge 99, 3) := by decide +kernel
theorem dX12_findTrades_260 : decode cX12_findTrades 260 = .ok (.aload_n 0, 1) := by decide +kernel
theorem dX12_findTrades_261 : decode cX12_findTrades 261 = .ok (.getfield 129, 3) := by decide +kernel
theorem dX12_findTrades_264 : decode cX12_findTrades 264 = .ok (.iload_n 3, 1) := by decide +kernel
theorem dX12_findTrades_265 : decode cX12_findTrades 265 = .ok (.iaload, 1) := by decide +kernel
theorem dX12_findTrades_266 : decode cX12_findTrades 266 = .ok (.iload_n 2, 1) := by decide +kernel
theorem dX12_findTrades_267 : decode cX12_findTrades 267 = .ok (.if_icmp .lt 6, 3) := by decide +kernel
theorem dX12_findTrades_270 : decode cX12_findTrades 270 = .ok (.goto 80, 3) := by decide +kernel
theorem dX12_findTrades_273 : decode cX12_findTrades 273 = .ok (.aload_n 0, 1) := by decide +kernel
theorem dX12_findTrades_274 : decode cX12_findTrades 274 = .ok (.getfield 129, 3) := by decide +kernel
theorem dX12_findTrades_277 : decode cX12_findTrades 277 = .ok (.iload_n 3, 1) := by decide +kernel
theorem dX12_findTrades_278 : decode cX12_findTrades 278 = .ok (.iaload, 1) := by decide +kernel
theorem dX12_findTrades_279 : decode cX12_findTrades 279 = .ok (.istore_n 2, 1) := by decide +kernel
theorem dX12_findTrades_280 : decode cX12_findTrades 280 = .ok (.aload_n 0, 1) := by decide +kernel
theorem dX12_findTrades_281 : decode cX12_findTrades 281 = .ok (.getfield 132, 3) := by decide +kernel
theorem dX12_findTrades_284 : decode cX12_findTrades 284 = .ok (.aload_n 0, 1) := by decide +kernel
theorem dX12_findTrades_285 : decode cX12_findTrades 285 = .ok (.getfield 305, 3) := by decide +kernel
theorem dX12_findTrades_288 : decode cX12_findTrades 288 = .ok (.iload_n 3, 1) := by decide +kernel
theorem dX12_findTrades_289 : decode cX12_findTrades 289 = .ok (.iastore, 1) := by decide +kernel
theorem dX12_findTrades_290 : decode cX12_findTrades 290 = .ok (.aload_n 0, 1) := by decide +kernel
theorem dX12_findTrades_291 : decode cX12_findTrades 291 = .ok (.getfield 135, 3) := by decide +kernel
theorem dX12_findTrades_294 : decode cX12_findTrades 294 = .ok (.aload_n 0, 1) := by decide +kernel
theorem dX12_findTrades_295 : decode cX12_findTrades 295 = .ok (.getfield 305, 3) := by decide +kernel
theorem dX12_findTrades_298 : decode cX12_findTrades 298 = .ok (.iload_n 2, 1) := by decide +kernel
theorem dX12_findTrades_299 : decode cX12_findTrades 299 = .ok (.iastore, 1) := by decide +kernel
theorem dX12_findTrades_300 : decode cX12_findTrades 300 = .ok (.iconst 0, 1) := by decide +kernel
theorem dX12_findTrades_301 : decode cX12_findTrades 301 = .ok (.istore 4, 2) := by decide +kernel
theorem dX12_findTrades_303 : decode cX12_findTrades 303 = .ok (.iload 4, 2) := by decide +kernel
theorem dX12_findTrades_305 : decode cX12_findTrades 305 = .ok (.iconst 4, 1) := by decide +kernel
theorem dX12_findTrades_306 : decode cX12_findTrades 306 = .ok (.if_icmp .ge 34, 3) := by decide +kernel
theorem dX12_findTrades_309 : decode cX12_findTrades 309 = .ok (.aload_n 0, 1) := by decide +kernel
theorem dX12_findTrades_310 : decode cX12_findTrades 310 = .ok (.getfield 138, 3) := by decide +kernel
theorem dX12_findTrades_313 : decode cX12_findTrades 313 = .ok (.iconst 4, 1) := by decide +kernel
theorem dX12_findTrades_314 : decode cX12_findTrades 314 = .ok (.aload_n 0, 1) := by decide +kernel
theorem dX12_findTrades_315 : decode cX12_findTrades 315 = .ok (.getfield 305, 3) := by decide +kernel
theorem dX12_findTrades_318 : decode cX12_findTrades 318 = .ok (.imul, 1) := by decide +kernel
theorem dX12_findTrades_319 : decode cX12_findTrades 319 = .ok (.iload 4, 2) := by decide +kernel
theorem dX12_findTrades_321 : decode cX12_findTrades 321 = .ok (.iadd, 1) := by decide +kernel
theorem dX12_findTrades_322 : decode cX12_findTrades 322 = .ok (.aload_n 0, 1) := by decide +kernel
theorem dX12_findTrades_323 : decode cX12_findTrades 323 = .ok (.getfield 141, 3) := by decide +kernel
theorem dX12_findTrades_326 : decode cX12_findTrades 326 = .ok (.iconst 4, 1) := by decide +kernel
theorem dX12_findTrades_327 : decode cX12_findTrades 327 = .ok (.iload_n 3, 1) := by decide +kernel
theorem dX12_findTrades_328 : decode cX12_findTrades 328 = .ok (.imul, 1) := by decide +kernel
theorem dX12_findTrades_329 : decode cX12_findTrades 329 = .ok (.iload 4, 2) := by decide +kernel
theorem dX12_findTrades_331 : decode cX12_findTrades 331 = .ok (.iadd, 1) := by decide +kernel
theorem dX12_findTrades_332 : decode cX12_findTrades 332 = .ok (.iaload, 1) := by decide +kernel
theorem dX12_findTrades_333 : decode cX12_findTrades 333 = .ok (.iastore, 1) := by decide +kernel
theorem dX12_findTrades_334 : decode cX12_findTrades 334 = .ok (.iinc 4 1, 3) := by decide +kernel
theorem dX12_findTrades_337 : decode cX12_findTrades 337 = .ok (.goto (-34), 3) := by decide +kernel
theorem dX12_findTrades_340 : decode cX12_findTrades 340 = .ok (.aload_n 0, 1) := by decide +kernel
theorem dX12_findTrades_341 : decode cX12_findTrades 341 = .ok (.dup, 1) := by decide +kernel
theorem dX12_findTrades_342 : decode cX12_findTrades 342 = .ok (.getfield 305, 3) := by decide +kernel
theorem dX12_findTrades_345 : decode cX12_findTrades 345 = .ok (.iconst 1, 1) := by decide +kernel
theorem dX12_findTrades_346 : decode cX12_findTrades 346 = .ok (.iadd, 1) := by decide +kernel
theorem dX12_findTrades_347 : decode cX12_findTrades 347 = .ok (.putfield 305, 3) := by decide +kernel
theorem dX12_findTrades_350 : decode cX12_findTrades 350 = .ok (.iinc 3 1, 3) := by decide +kernel
theorem dX12_findTrades_353 : decode cX12_findTrades 353 = .ok (.goto (-99), 3) := by decide +kernel
theorem dX12_findTrades_356 : decode cX12_findTrades 356 = .ok (.aload_n 0, 1) := by decide +kernel
theorem dX12_findTrades_357 : decode cX12_findTrades 357 = .ok (.getfield 305, 3) := by decide +kernel
theorem dX12_findTrades_360 : decode cX12_findTrades 360 = .ok (.ifCond .le 7, 3) := by decide +kernel
theorem dX12_findTrades_363 : decode cX12_findTrades 363 = .ok (.iconst 1, 1) := by decide +kernel
theorem dX12_findTrades_364 : decode cX12_findTrades 364 = .ok (.goto 4, 3) := by decide +kernel
theorem dX12_findTrades_367 : decode cX12_findTrades 367 = .ok (.iconst 0, 1) := by decide +kernel
theorem dX12_findTrades_368 : decode cX12_findTrades 368 = .ok (.ireturn, 1) := by decide +kernel
theorem dX12_trades_0 : decode cX12_trades 0 = .ok (.aload_n 0, 1) := by decide +kernel
theorem dX12_trades_1 : decode cX12_trades 1 = .ok (.invokevirtual 312, 3) := by decide +kernel
theorem dX12_trades_4 : decode cX12_trades 4 = .ok (.ifCond .eq 10, 3) := by decide +kernel
theorem dX12_trades_7 : decode cX12_trades 7 = .ok (.aload_n 0, 1) := by decide +kernel
theorem dX12_trades_8 : decode cX12_trades 8 = .ok (.getfield 305, 3) := by decide +kernel
theorem dX12_trades_11 : decode cX12_trades 11 = .ok (.goto 9, 3) := by decide +kernel
theorem dX12_trades_14 : decode cX12_trades 14 = .ok (.aload_n 0, 1) := by decide +kernel
theorem dX12_trades_15 : decode cX12_trades 15 = .ok (.ldc 197, 2) := by decide +kernel
theorem dX12_trades_17 : decode cX12_trades 17 = .ok (.invokevirtual 177, 3) := by decide +kernel
theorem dX12_trades_20 : decode cX12_trades 20 = .ok (.ireturn, 1) := by decide +kernel
theorem dX12_trade_0 : decode cX12_trade 0 = .ok (.iload_n 1, 1) := by decide +kernel
theorem dX12_trade_1 : decode cX12_trade 1 = .ok (.ifCond .lt 17, 3) := by decide +kernel
theorem dX12_trade_4 : decode cX12_trade 4 = .ok (.iload_n 2, 1) := by decide +kernel
theorem dX12_trade_5 : decode cX12_trade 5 = .ok (.ifCond .lt 13, 3) := by decide +kernel
theorem dX12_trade_8 : decode cX12_trade 8 = .ok (.iload_n 2, 1) := by decide +kernel
theorem dX12_trade_9 : decode cX12_trade 9 = .ok (.iconst 1, 1) := by decide +kernel
theorem dX12_trade_10 : decode cX12_trade 10 = .ok (.aload_n 0, 1) := by decide +kernel
theorem dX12_trade_11 : decode cX12_trade 11 = .ok (.getfield 163, 3) := by decide +kernel
theorem dX12_trade_14 : decode cX12_trade 14 = .ok (.iadd, 1) := by decide +kernel
theorem dX12_trade_15 : decode cX12_trade 15 = .ok (.if_icmp .le 10, 3) := by decide +kernel
theorem dX12_trade_18 : decode cX12_trade 18 = .ok (.aload_n 0, 1) := by decide +kernel
theorem dX12_trade_19 : decode cX12_trade 19 = .ok (.ldc 185, 2) := by decide +kernel
theorem dX12_trade_21 : decode cX12_trade 21 = .ok (.invokevirtual 177, 3) := by decide +kernel
theorem dX12_trade_24 : decode cX12_trade 24 = .ok (.ireturn, 1) := by decide +kernel
theorem dX12_trade_25 : decode cX12_trade 25 = .ok (.aload_n 0, 1) := by decide +kernel
theorem dX12_trade_26 : decode cX12_trade 26 = .ok (.invokevirtual 312, 3) := by decide +kernel
theorem dX12_trade_29 : decode cX12_trade 29 = .ok (.ifCond .eq 11, 3) := by decide +kernel
theorem dX12_trade_32 : decode cX12_trade 32 = .ok (.iload_n 1, 1) := by decide +kernel
theorem dX12_trade_33 : decode cX12_trade 33 = .ok (.aload_n 0, 1) := by decide +kernel
theorem dX12_trade_34 : decode cX12_trade 34 = .ok (.getfield 305, 3) := by decide +kernel
theorem dX12_trade_37 : decode cX12_trade 37 = .ok (.if_icmp .lt 10, 3) := by decide +kernel
theorem dX12_trade_40 : decode cX12_trade 40 = .ok (.aload_n 0, 1) := by decide +kernel
theorem dX12_trade_41 : decode cX12_trade 41 = .ok (.ldc 197, 2) := by decide +kernel
theorem dX12_trade_43 : decode cX12_trade 43 = .ok (.invokevirtual 177, 3) := by decide +kernel
theorem dX12_trade_46 : decode cX12_trade 46 = .ok (.ireturn, 1) := by decide +kernel
theorem dX12_trade_47 : decode cX12_trade 47 = .ok (.iload_n 2, 1) := by decide +kernel
theorem dX12_trade_48 : decode cX12_trade 48 = .ok (.ifCond .ne 12, 3) := by decide +kernel
theorem dX12_trade_51 : decode cX12_trade 51 = .ok (.aload_n 0, 1) := by decide +kernel
theorem dX12_trade_52 : decode cX12_trade 52 = .ok (.getfield 132, 3) := by decide +kernel
theorem dX12_trade_55 : decode cX12_trade 55 = .ok (.iload_n 1, 1) := by decide +kernel
theorem dX12_trade_56 : decode cX12_trade 56 = .ok (.iaload, 1) := by decide +kernel
theorem dX12_trade_57 : decode cX12_trade 57 = .ok (.goto 29, 3) := by decide +kernel
theorem dX12_trade_60 : decode cX12_trade 60 = .ok (.iload_n 2, 1) := by decide +kernel
theorem dX12_trade_61 : decode cX12_trade 61 = .ok (.iconst 1, 1) := by decide +kernel
theorem dX12_trade_62 : decode cX12_trade 62 = .ok (.if_icmp .ne 12, 3) := by decide +kernel
theorem dX12_trade_65 : decode cX12_trade 65 = .ok (.aload_n 0, 1) := by decide +kernel
theorem dX12_trade_66 : decode cX12_trade 66 = .ok (.getfield 135, 3) := by decide +kernel
theorem dX12_trade_69 : decode cX12_trade 69 = .ok (.iload_n 1, 1) := by decide +kernel
theorem dX12_trade_70 : decode cX12_trade 70 = .ok (.iaload, 1) := by decide +kernel
theorem dX12_trade_71 : decode cX12_trade 71 = .ok (.goto 15, 3) := by decide +kernel
theorem dX12_trade_74 : decode cX12_trade 74 = .ok (.aload_n 0, 1) := by decide +kernel
theorem dX12_trade_75 : decode cX12_trade 75 = .ok (.getfield 138, 3) := by decide +kernel
theorem dX12_trade_78 : decode cX12_trade 78 = .ok (.iconst 4, 1) := by decide +kernel
theorem dX12_trade_79 : decode cX12_trade 79 = .ok (.iload_n 1, 1) := by decide +kernel
theorem dX12_trade_80 : decode cX12_trade 80 = .ok (.imul, 1) := by decide +kernel
theorem dX12_trade_81 : decode cX12_trade 81 = .ok (.iload_n 2, 1) := by decide +kernel
theorem dX12_trade_82 : decode cX12_trade 82 = .ok (.iadd, 1) := by decide +kernel
theorem dX12_trade_83 : decode cX12_trade 83 = .ok (.iconst 2, 1) := by decide +kernel
theorem dX12_trade_84 : decode cX12_trade 84 = .ok (.isub, 1) := by decide +kernel
theorem dX12_trade_85 : decode cX12_trade 85 = .ok (.iaload, 1) := by decide +kernel
theorem dX12_trade_86 : decode cX12_trade 86 = .ok (.ireturn, 1) := by decide +kernel
theorem dX12_take_0 : decode cX12_take 0 = .ok (.iload_n 1, 1) := by decide +kernel
theorem dX12_take_1 : decode cX12_take 1 = .ok (.ifCond .ge 10, 3) := by decide +kernel
theorem dX12_take_4 : decode cX12_take 4 = .ok (.aload_n 0, 1) := by decide +kernel
theorem dX12_take_5 : decode cX12_take 5 = .ok (.ldc 185, 2) := by decide +kernel
theorem dX12_take_7 : decode cX12_take 7 = .ok (.invokevirtual 177, 3) := by decide +kernel
theorem dX12_take_10 : decode cX12_take 10 = .ok (.ireturn, 1) := by decide +kernel
theorem dX12_take_11 : decode cX12_take 11 = .ok (.aload_n 0, 1) := by decide +kernel
theorem dX12_take_12 : decode cX12_take 12 = .ok (.invokevirtual 312, 3) := by decide +kernel
theorem dX12_take_15 : decode cX12_take 15 = .ok (.ifCond .eq 11, 3) := by decide +kernel
theorem dX12_take_18 : decode cX12_take 18 = .ok (.iload_n 1, 1) := by decide +kernel
theorem dX12_take_19 : decode cX12_take 19 = .ok (.aload_n 0, 1) := by decide +kernel
theorem dX12_take_20 : decode cX12_take 20 = .ok (.getfield 305, 3) := by decide +kernel
theorem dX12_take_23 : decode cX12_take 23 = .ok (.if_icmp .lt 10, 3) := by decide +kernel
theorem dX12_take_26 : decode cX12_take 26 = .ok (.aload_n 0, 1) := by decide +kernel
theorem dX12_take_27 : decode cX12_take 27 = .ok (.ldc 197, 2) := by decide +kernel
theorem dX12_take_29 : decode cX12_take 29 = .ok (.invokevirtual 177, 3) := by decide +kernel
theorem dX12_take_32 : decode cX12_take 32 = .ok (.ireturn, 1) := by decide +kernel
theorem dX12_take_33 : decode cX12_take 33 = .ok (.iconst 0, 1) := by decide +kernel
theorem dX12_take_34 : decode cX12_take 34 = .ok (.istore_n 2, 1) := by decide +kernel
theorem dX12_take_35 : decode cX12_take 35 = .ok (.iload_n 2, 1) := by decide +kernel
theorem dX12_take_36 : decode cX12_take 36 = .ok (.aload_n 0, 1) := by decide +kernel
