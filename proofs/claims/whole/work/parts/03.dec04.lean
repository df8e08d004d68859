theorem dX11_cost_29 : decode cX11_cost 29 = .ok (.iaload, 1) := by decide +kernel
theorem dX11_cost_30 : decode cX11_cost 30 = .ok (.invokevirtual 257, 3) := by decide +kernel
theorem dX11_cost_33 : decode cX11_cost 33 = .ok (.iadd, 1) := by decide +kernel
theorem dX11_cost_34 : decode cX11_cost 34 = .ok (.istore_n 1, 1) := by decide +kernel
theorem dX11_cost_35 : decode cX11_cost 35 = .ok (.iinc 2 1, 3) := by decide +kernel
theorem dX11_cost_38 : decode cX11_cost 38 = .ok (.goto (-34), 3) := by decide +kernel
theorem dX11_cost_41 : decode cX11_cost 41 = .ok (.iload_n 1, 1) := by decide +kernel
theorem dX11_cost_42 : decode cX11_cost 42 = .ok (.ireturn, 1) := by decide +kernel
theorem dX11_trades_0 : decode cX11_trades 0 = .ok (.aload_n 0, 1) := by decide +kernel
theorem dX11_trades_1 : decode cX11_trades 1 = .ok (.invokevirtual 260, 3) := by decide +kernel
theorem dX11_trades_4 : decode cX11_trades 4 = .ok (.ifCond .eq 13, 3) := by decide +kernel
theorem dX11_trades_7 : decode cX11_trades 7 = .ok (.aload_n 0, 1) := by decide +kernel
theorem dX11_trades_8 : decode cX11_trades 8 = .ok (.getfield 33, 3) := by decide +kernel
theorem dX11_trades_11 : decode cX11_trades 11 = .ok (.getfield 263, 3) := by decide +kernel
theorem dX11_trades_14 : decode cX11_trades 14 = .ok (.goto 9, 3) := by decide +kernel
theorem dX11_trades_17 : decode cX11_trades 17 = .ok (.aload_n 0, 1) := by decide +kernel
theorem dX11_trades_18 : decode cX11_trades 18 = .ok (.ldc 98, 2) := by decide +kernel
theorem dX11_trades_20 : decode cX11_trades 20 = .ok (.invokevirtual 62, 3) := by decide +kernel
theorem dX11_trades_23 : decode cX11_trades 23 = .ok (.ireturn, 1) := by decide +kernel
theorem dX11_trade_0 : decode cX11_trade 0 = .ok (.iload_n 1, 1) := by decide +kernel
theorem dX11_trade_1 : decode cX11_trade 1 = .ok (.ifCond .lt 20, 3) := by decide +kernel
theorem dX11_trade_4 : decode cX11_trade 4 = .ok (.iload_n 2, 1) := by decide +kernel
theorem dX11_trade_5 : decode cX11_trade 5 = .ok (.ifCond .lt 16, 3) := by decide +kernel
theorem dX11_trade_8 : decode cX11_trade 8 = .ok (.iload_n 2, 1) := by decide +kernel
theorem dX11_trade_9 : decode cX11_trade 9 = .ok (.iconst 2, 1) := by decide +kernel
theorem dX11_trade_10 : decode cX11_trade 10 = .ok (.aload_n 0, 1) := by decide +kernel
theorem dX11_trade_11 : decode cX11_trade 11 = .ok (.getfield 10, 3) := by decide +kernel
theorem dX11_trade_14 : decode cX11_trade 14 = .ok (.getfield 99, 3) := by decide +kernel
theorem dX11_trade_17 : decode cX11_trade 17 = .ok (.iadd, 1) := by decide +kernel
theorem dX11_trade_18 : decode cX11_trade 18 = .ok (.if_icmp .lt 10, 3) := by decide +kernel
theorem dX11_trade_21 : decode cX11_trade 21 = .ok (.aload_n 0, 1) := by decide +kernel
theorem dX11_trade_22 : decode cX11_trade 22 = .ok (.ldc 78, 2) := by decide +kernel
theorem dX11_trade_24 : decode cX11_trade 24 = .ok (.invokevirtual 62, 3) := by decide +kernel
theorem dX11_trade_27 : decode cX11_trade 27 = .ok (.ireturn, 1) := by decide +kernel
theorem dX11_trade_28 : decode cX11_trade 28 = .ok (.aload_n 0, 1) := by decide +kernel
theorem dX11_trade_29 : decode cX11_trade 29 = .ok (.invokevirtual 260, 3) := by decide +kernel
theorem dX11_trade_32 : decode cX11_trade 32 = .ok (.ifCond .eq 14, 3) := by decide +kernel
theorem dX11_trade_35 : decode cX11_trade 35 = .ok (.iload_n 1, 1) := by decide +kernel
theorem dX11_trade_36 : decode cX11_trade 36 = .ok (.aload_n 0, 1) := by decide +kernel
theorem dX11_trade_37 : decode cX11_trade 37 = .ok (.getfield 33, 3) := by decide +kernel
theorem dX11_trade_40 : decode cX11_trade 40 = .ok (.getfield 263, 3) := by decide +kernel
theorem dX11_trade_43 : decode cX11_trade 43 = .ok (.if_icmp .lt 10, 3) := by decide +kernel
theorem dX11_trade_46 : decode cX11_trade 46 = .ok (.aload_n 0, 1) := by decide +kernel
theorem dX11_trade_47 : decode cX11_trade 47 = .ok (.ldc 98, 2) := by decide +kernel
theorem dX11_trade_49 : decode cX11_trade 49 = .ok (.invokevirtual 62, 3) := by decide +kernel
theorem dX11_trade_52 : decode cX11_trade 52 = .ok (.ireturn, 1) := by decide +kernel
theorem dX11_trade_53 : decode cX11_trade 53 = .ok (.iload_n 2, 1) := by decide +kernel
theorem dX11_trade_54 : decode cX11_trade 54 = .ok (.lookupswitch 44 #[(0, 26), (1, 35)], 26) := by decide +kernel
theorem dX11_trade_80 : decode cX11_trade 80 = .ok (.aload_n 0, 1) := by decide +kernel
theorem dX11_trade_81 : decode cX11_trade 81 = .ok (.getfield 33, 3) := by decide +kernel
theorem dX11_trade_84 : decode cX11_trade 84 = .ok (.iload_n 1, 1) := by decide +kernel
theorem dX11_trade_85 : decode cX11_trade 85 = .ok (.invokevirtual 264, 3) := by decide +kernel
theorem dX11_trade_88 : decode cX11_trade 88 = .ok (.ireturn, 1) := by decide +kernel
theorem dX11_trade_89 : decode cX11_trade 89 = .ok (.aload_n 0, 1) := by decide +kernel
theorem dX11_trade_90 : decode cX11_trade 90 = .ok (.getfield 33, 3) := by decide +kernel
theorem dX11_trade_93 : decode cX11_trade 93 = .ok (.iload_n 1, 1) := by decide +kernel
theorem dX11_trade_94 : decode cX11_trade 94 = .ok (.invokevirtual 267, 3) := by decide +kernel
theorem dX11_trade_97 : decode cX11_trade 97 = .ok (.ireturn, 1) := by decide +kernel
theorem dX11_trade_98 : decode cX11_trade 98 = .ok (.aload_n 0, 1) := by decide +kernel
theorem dX11_trade_99 : decode cX11_trade 99 = .ok (.getfield 33, 3) := by decide +kernel
theorem dX11_trade_102 : decode cX11_trade 102 = .ok (.iload_n 1, 1) := by decide +kernel
theorem dX11_trade_103 : decode cX11_trade 103 = .ok (.invokevirtual 270, 3) := by decide +kernel
theorem dX11_trade_106 : decode cX11_trade 106 = .ok (.iload_n 2, 1) := by decide +kernel
theorem dX11_trade_107 : decode cX11_trade 107 = .ok (.iconst 2, 1) := by decide +kernel
theorem dX11_trade_108 : decode cX11_trade 108 = .ok (.isub, 1) := by decide +kernel
theorem dX11_trade_109 : decode cX11_trade 109 = .ok (.iaload, 1) := by decide +kernel
theorem dX11_trade_110 : decode cX11_trade 110 = .ok (.ireturn, 1) := by decide +kernel
theorem dX11_take_0 : decode cX11_take 0 = .ok (.iload_n 1, 1) := by decide +kernel
theorem dX11_take_1 : decode cX11_take 1 = .ok (.ifCond .ge 10, 3) := by decide +kernel
theorem dX11_take_4 : decode cX11_take 4 = .ok (.aload_n 0, 1) := by decide +kernel
theorem dX11_take_5 : decode cX11_take 5 = .ok (.ldc 78, 2) := by decide +kernel
theorem dX11_take_7 : decode cX11_take 7 = .ok (.invokevirtual 62, 3) := by decide +kernel
theorem dX11_take_10 : decode cX11_take 10 = .ok (.ireturn, 1) := by decide +kernel
theorem dX11_take_11 : decode cX11_take 11 = .ok (.aload_n 0, 1) := by decide +kernel
theorem dX11_take_12 : decode cX11_take 12 = .ok (.invokevirtual 260, 3) := by decide +kernel
theorem dX11_take_15 : decode cX11_take 15 = .ok (.ifCond .eq 14, 3) := by decide +kernel
theorem dX11_take_18 : decode cX11_take 18 = .ok (.iload_n 1, 1) := by decide +kernel
theorem dX11_take_19 : decode cX11_take 19 = .ok (.aload_n 0, 1) := by decide +kernel
theorem dX11_take_20 : decode cX11_take 20 = .ok (.getfield 33, 3) := by decide +kernel
theorem dX11_take_23 : decode cX11_take 23 = .ok (.getfield 263, 3) := by decide +kernel
theorem dX11_take_26 : decode cX11_take 26 = .ok (.if_icmp .lt 10, 3) := by decide +kernel
theorem dX11_take_29 : decode cX11_take 29 = .ok (.aload_n 0, 1) := by decide +kernel
theorem dX11_take_30 : decode cX11_take 30 = .ok (.ldc 98, 2) := by decide +kernel
theorem dX11_take_32 : decode cX11_take 32 = .ok (.invokevirtual 62, 3) := by decide +kernel
theorem dX11_take_35 : decode cX11_take 35 = .ok (.ireturn, 1) := by decide +kernel
theorem dX11_take_36 : decode cX11_take 36 = .ok (.aload_n 0, 1) := by decide +kernel
theorem dX11_take_37 : decode cX11_take 37 = .ok (.getfield 33, 3) := by decide +kernel
theorem dX11_take_40 : decode cX11_take 40 = .ok (.iload_n 1, 1) := by decide +kernel
theorem dX11_take_41 : decode cX11_take 41 = .ok (.invokevirtual 270, 3) := by decide +kernel
theorem dX11_take_44 : decode cX11_take 44 = .ok (.iconst 0, 1) := by decide +kernel
theorem dX11_take_45 : decode cX11_take 45 = .ok (.aload_n 0, 1) := by decide +kernel
theorem dX11_take_46 : decode cX11_take 46 = .ok (.getfield 10, 3) := by decide +kernel
theorem dX11_take_49 : decode cX11_take 49 = .ok (.getfield 126, 3) := by decide +kernel
theorem dX11_take_52 : decode cX11_take 52 = .ok (.iconst 0, 1) := by decide +kernel
theorem dX11_take_53 : decode cX11_take 53 = .ok (.aload_n 0, 1) := by decide +kernel
theorem dX11_take_54 : decode cX11_take 54 = .ok (.getfield 10, 3) := by decide +kernel
theorem dX11_take_57 : decode cX11_take 57 = .ok (.getfield 99, 3) := by decide +kernel
theorem dX11_take_60 : decode cX11_take 60 = .ok (.invokestatic 274, 3) := by decide +kernel
theorem dX11_take_63 : decode cX11_take 63 = .ok (.aload_n 0, 1) := by decide +kernel
theorem dX11_take_64 : decode cX11_take 64 = .ok (.iconst 0, 1) := by decide +kernel
theorem dX11_take_65 : decode cX11_take 65 = .ok (.putfield 142, 3) := by decide +kernel
theorem dX11_take_68 : decode cX11_take 68 = .ok (.aload_n 0, 1) := by decide +kernel
theorem dX11_take_69 : decode cX11_take 69 = .ok (.getfield 33, 3) := by decide +kernel
theorem dX11_take_72 : decode cX11_take 72 = .ok (.iload_n 1, 1) := by decide +kernel
theorem dX11_take_73 : decode cX11_take 73 = .ok (.invokevirtual 264, 3) := by decide +kernel
theorem dX11_take_76 : decode cX11_take 76 = .ok (.ireturn, 1) := by decide +kernel
theorem dX11_morning_0 : decode cX11_morning 0 = .ok (.iload_n 1, 1) := by decide +kernel
theorem dX11_morning_1 : decode cX11_morning 1 = .ok (.ifCond .lt 23, 3) := by decide +kernel
theorem dX11_morning_4 : decode cX11_morning 4 = .ok (.iload_n 2, 1) := by decide +kernel
theorem dX11_morning_5 : decode cX11_morning 5 = .ok (.iconst 0, 1) := by decide +kernel
theorem dX11_morning_6 : decode cX11_morning 6 = .ok (.bipush 60, 2) := by decide +kernel
theorem dX11_morning_8 : decode cX11_morning 8 = .ok (.invokestatic 74, 3) := by decide +kernel
theorem dX11_morning_11 : decode cX11_morning 11 = .ok (.ifCond .eq 13, 3) := by decide +kernel
theorem dX11_morning_14 : decode cX11_morning 14 = .ok (.iload_n 3, 1) := by decide +kernel
theorem dX11_morning_15 : decode cX11_morning 15 = .ok (.iconst 0, 1) := by decide +kernel
theorem dX11_morning_16 : decode cX11_morning 16 = .ok (.bipush 10, 2) := by decide +kernel
theorem dX11_morning_18 : decode cX11_morning 18 = .ok (.invokestatic 74, 3) := by decide +kernel
theorem dX11_morning_21 : decode cX11_morning 21 = .ok (.ifCond .ne 10, 3) := by decide +kernel
theorem dX11_morning_24 : decode cX11_morning 24 = .ok (.aload_n 0, 1) := by decide +kernel
theorem dX11_morning_25 : decode cX11_morning 25 = .ok (.ldc 78, 2) := by decide +kernel
theorem dX11_morning_27 : decode cX11_morning 27 = .ok (.invokevirtual 62, 3) := by decide +kernel
theorem dX11_morning_30 : decode cX11_morning 30 = .ok (.ireturn, 1) := by decide +kernel
theorem dX11_morning_31 : decode cX11_morning 31 = .ok (.aload_n 0, 1) := by decide +kernel
theorem dX11_morning_32 : decode cX11_morning 32 = .ok (.invokevirtual 225, 3) := by decide +kernel
theorem dX11_morning_35 : decode cX11_morning 35 = .ok (.ifCond .eq 14, 3) := by decide +kernel
theorem dX11_morning_38 : decode cX11_morning 38 = .ok (.aload_n 0, 1) := by decide +kernel
theorem dX11_morning_39 : decode cX11_morning 39 = .ok (.getfield 19, 3) := by decide +kernel
theorem dX11_morning_42 : decode cX11_morning 42 = .ok (.iload_n 1, 1) := by decide +kernel
theorem dX11_morning_43 : decode cX11_morning 43 = .ok (.invokevirtual 214, 3) := by decide +kernel
theorem dX11_morning_46 : decode cX11_morning 46 = .ok (.ifCond .ne 10, 3) := by decide +kernel
theorem dX11_morning_49 : decode cX11_morning 49 = .ok (.aload_n 0, 1) := by decide +kernel
theorem dX11_morning_50 : decode cX11_morning 50 = .ok (.ldc 98, 2) := by decide +kernel
theorem dX11_morning_52 : decode cX11_morning 52 = .ok (.invokevirtual 62, 3) := by decide +kernel
theorem dX11_morning_55 : decode cX11_morning 55 = .ok (.ireturn, 1) := by decide +kernel
theorem dX11_morning_56 : decode cX11_morning 56 = .ok (.aload_n 0, 1) := by decide +kernel
theorem dX11_morning_57 : decode cX11_morning 57 = .ok (.getfield 40, 3) := by decide +kernel
theorem dX11_morning_60 : decode cX11_morning 60 = .ok (.aload_n 0, 1) := by decide +kernel
theorem dX11_morning_61 : decode cX11_morning 61 = .ok (.getfield 10, 3) := by decide +kernel
theorem dX11_morning_64 : decode cX11_morning 64 = .ok (.aload_n 0, 1) := by decide +kernel
theorem dX11_morning_65 : decode cX11_morning 65 = .ok (.getfield 19, 3) := by decide +kernel
theorem dX11_morning_68 : decode cX11_morning 68 = .ok (.iload_n 1, 1) := by decide +kernel
theorem dX11_morning_69 : decode cX11_morning 69 = .ok (.iload_n 2, 1) := by decide +kernel
theorem dX11_morning_70 : decode cX11_morning 70 = .ok (.iload_n 3, 1) := by decide +kernel
theorem dX11_morning_71 : decode cX11_morning 71 = .ok (.invokevirtual 280, 3) := by decide +kernel
theorem dX11_morning_74 : decode cX11_morning 74 = .ok (.ireturn, 1) := by decide +kernel
theorem dX11_comes_0 : decode cX11_comes 0 = .ok (.iload_n 1, 1) := by decide +kernel
theorem dX11_comes_1 : decode cX11_comes 1 = .ok (.ifCond .ge 10, 3) := by decide +kernel
theorem dX11_comes_4 : decode cX11_comes 4 = .ok (.aload_n 0, 1) := by decide +kernel
theorem dX11_comes_5 : decode cX11_comes 5 = .ok (.ldc 78, 2) := by decide +kernel
theorem dX11_comes_7 : decode cX11_comes 7 = .ok (.invokevirtual 62, 3) := by decide +kernel
theorem dX11_comes_10 : decode cX11_comes 10 = .ok (.ireturn, 1) := by decide +kernel
theorem dX11_comes_11 : decode cX11_comes 11 = .ok (.iload_n 1, 1) := by decide +kernel
theorem dX11_comes_12 : decode cX11_comes 12 = .ok (.aload_n 0, 1) := by decide +kernel
theorem dX11_comes_13 : decode cX11_comes 13 = .ok (.getfield 40, 3) := by decide +kernel
theorem dX11_comes_16 : decode cX11_comes 16 = .ok (.getfield 284, 3) := by decide +kernel
theorem dX11_comes_19 : decode cX11_comes 19 = .ok (.if_icmp .ge 15, 3) := by decide +kernel
theorem dX11_comes_22 : decode cX11_comes 22 = .ok (.aload_n 0, 1) := by decide +kernel
theorem dX11_comes_23 : decode cX11_comes 23 = .ok (.getfield 40, 3) := by decide +kernel
theorem dX11_comes_26 : decode cX11_comes 26 = .ok (.getfield 285, 3) := by decide +kernel
theorem dX11_comes_29 : decode cX11_comes 29 = .ok (.iload_n 1, 1) := by decide +kernel
theorem dX11_comes_30 : decode cX11_comes 30 = .ok (.iaload, 1) := by decide +kernel
theorem dX11_comes_31 : decode cX11_comes 31 = .ok (.goto 9, 3) := by decide +kernel
theorem dX11_comes_34 : decode cX11_comes 34 = .ok (.aload_n 0, 1) := by decide +kernel
theorem dX11_comes_35 : decode cX11_comes 35 = .ok (.ldc 98, 2) := by decide +kernel
theorem dX11_comes_37 : decode cX11_comes 37 = .ok (.invokevirtual 62, 3) := by decide +kernel
theorem dX11_comes_40 : decode cX11_comes 40 = .ok (.ireturn, 1) := by decide +kernel
theorem dX11_fair_0 : decode cX11_fair 0 = .ok (.iload_n 1, 1) := by decide +kernel
theorem dX11_fair_1 : decode cX11_fair 1 = .ok (.iconst 0, 1) := by decide +kernel
theorem dX11_fair_2 : decode cX11_fair 2 = .ok (.iconst 3, 1) := by decide +kernel
theorem dX11_fair_3 : decode cX11_fair 3 = .ok (.invokestatic 74, 3) := by decide +kernel
theorem dX11_fair_6 : decode cX11_fair 6 = .ok (.ifCond .eq 12, 3) := by decide +kernel
theorem dX11_fair_9 : decode cX11_fair 9 = .ok (.iload_n 2, 1) := by decide +kernel
theorem dX11_fair_10 : decode cX11_fair 10 = .ok (.iconst 0, 1) := by decide +kernel
theorem dX11_fair_11 : decode cX11_fair 11 = .ok (.iconst 3, 1) := by decide +kernel
theorem dX11_fair_12 : decode cX11_fair 12 = .ok (.invokestatic 74, 3) := by decide +kernel
theorem dX11_fair_15 : decode cX11_fair 15 = .ok (.ifCond .ne 10, 3) := by decide +kernel
theorem dX11_fair_18 : decode cX11_fair 18 = .ok (.aload_n 0, 1) := by decide +kernel
theorem dX11_fair_19 : decode cX11_fair 19 = .ok (.ldc 78, 2) := by decide +kernel
theorem dX11_fair_21 : decode cX11_fair 21 = .ok (.invokevirtual 62, 3) := by decide +kernel
theorem dX11_fair_24 : decode cX11_fair 24 = .ok (.ireturn, 1) := by decide +kernel
theorem dX11_fair_25 : decode cX11_fair 25 = .ok (.iload_n 2, 1) := by decide +kernel
theorem dX11_fair_26 : decode cX11_fair 26 = .ok (.iconst 1, 1) := by decide +kernel
theorem dX11_fair_27 : decode cX11_fair 27 = .ok (.if_icmp .eq 8, 3) := by decide +kernel
theorem dX11_fair_30 : decode cX11_fair 30 = .ok (.iload_n 2, 1) := by decide +kernel
theorem dX11_fair_31 : decode cX11_fair 31 = .ok (.iconst 2, 1) := by decide +kernel
theorem dX11_fair_32 : decode cX11_fair 32 = .ok (.if_icmp .ne 24, 3) := by decide +kernel
theorem dX11_fair_35 : decode cX11_fair 35 = .ok (.aload_n 0, 1) := by decide +kernel
theorem dX11_fair_36 : decode cX11_fair 36 = .ok (.invokevirtual 181, 3) := by decide +kernel
theorem dX11_fair_39 : decode cX11_fair 39 = .ok (.aload_n 0, 1) := by decide +kernel
theorem dX11_fair_40 : decode cX11_fair 40 = .ok (.getfield 19, 3) := by decide +kernel
theorem dX11_fair_43 : decode cX11_fair 43 = .ok (.getfield 208, 3) := by decide +kernel
theorem dX11_fair_46 : decode cX11_fair 46 = .ok (.ifCond .ne 10, 3) := by decide +kernel
theorem dX11_fair_49 : decode cX11_fair 49 = .ok (.aload_n 0, 1) := by decide +kernel
theorem dX11_fair_50 : decode cX11_fair 50 = .ok (.ldc 98, 2) := by decide +kernel
theorem dX11_fair_52 : decode cX11_fair 52 = .ok (.invokevirtual 62, 3) := by decide +kernel
theorem dX11_fair_55 : decode cX11_fair 55 = .ok (.ireturn, 1) := by decide +kernel
theorem dX11_fair_56 : decode cX11_fair 56 = .ok (.iload_n 2, 1) := by decide +kernel
theorem dX11_fair_57 : decode cX11_fair 57 = .ok (.tableswitch 54 0 2 #[27, 36, 45], 27) := by decide +kernel
theorem dX11_fair_84 : decode cX11_fair 84 = .ok (.aload_n 0, 1) := by decide +kernel
theorem dX11_fair_85 : decode cX11_fair 85 = .ok (.getfield 10, 3) := by decide +kernel
theorem dX11_fair_88 : decode cX11_fair 88 = .ok (.iload_n 1, 1) := by decide +kernel
theorem dX11_fair_89 : decode cX11_fair 89 = .ok (.invokevirtual 288, 3) := by decide +kernel
theorem dX11_fair_92 : decode cX11_fair 92 = .ok (.ireturn, 1) := by decide +kernel
theorem dX11_fair_93 : decode cX11_fair 93 = .ok (.aload_n 0, 1) := by decide +kernel
theorem dX11_fair_94 : decode cX11_fair 94 = .ok (.getfield 10, 3) := by decide +kernel
theorem dX11_fair_97 : decode cX11_fair 97 = .ok (.iload_n 1, 1) := by decide +kernel
theorem dX11_fair_98 : decode cX11_fair 98 = .ok (.invokevirtual 291, 3) := by decide +kernel
theorem dX11_fair_101 : decode cX11_fair 101 = .ok (.ireturn, 1) := by decide +kernel
theorem dX11_fair_102 : decode cX11_fair 102 = .ok (.aload_n 0, 1) := by decide +kernel
theorem dX11_fair_103 : decode cX11_fair 103 = .ok (.getfield 10, 3) := by decide +kernel
theorem dX11_fair_106 : decode cX11_fair 106 = .ok (.iload_n 1, 1) := by decide +kernel
theorem dX11_fair_107 : decode cX11_fair 107 = .ok (.invokevirtual 294, 3) := by decide +kernel
theorem dX11_fair_110 : decode cX11_fair 110 = .ok (.ireturn, 1) := by decide +kernel
theorem dX11_fair_111 : decode cX11_fair 111 = .ok (.aload_n 0, 1) := by decide +kernel
theorem dX11_fair_112 : decode cX11_fair 112 = .ok (.getfield 10, 3) := by decide +kernel
theorem dX11_fair_115 : decode cX11_fair 115 = .ok (.iload_n 1, 1) := by decide +kernel
theorem dX11_fair_116 : decode cX11_fair 116 = .ok (.invokevirtual 297, 3) := by decide +kernel
theorem dX11_fair_119 : decode cX11_fair 119 = .ok (.ireturn, 1) := by decide +kernel
theorem dX11_sheet_0 : decode cX11_sheet 0 = .ok (.iload_n 1, 1) := by decide +kernel
theorem dX11_sheet_1 : decode cX11_sheet 1 = .ok (.iconst 0, 1) := by decide +kernel
theorem dX11_sheet_2 : decode cX11_sheet 2 = .ok (.iconst 3, 1) := by decide +kernel
theorem dX11_sheet_3 : decode cX11_sheet 3 = .ok (.invokestatic 74, 3) := by decide +kernel
theorem dX11_sheet_6 : decode cX11_sheet 6 = .ok (.ifCond .eq 25, 3) := by decide +kernel
theorem dX11_sheet_9 : decode cX11_sheet 9 = .ok (.iload_n 2, 1) := by decide +kernel
theorem dX11_sheet_10 : decode cX11_sheet 10 = .ok (.ifCond .eq 28, 3) := by decide +kernel
theorem dX11_sheet_13 : decode cX11_sheet 13 = .ok (.iload_n 2, 1) := by decide +kernel
theorem dX11_sheet_14 : decode cX11_sheet 14 = .ok (.bipush 8, 2) := by decide +kernel
theorem dX11_sheet_16 : decode cX11_sheet 16 = .ok (.if_icmp .eq 22, 3) := by decide +kernel
theorem dX11_sheet_19 : decode cX11_sheet 19 = .ok (.iload_n 2, 1) := by decide +kernel
theorem dX11_sheet_20 : decode cX11_sheet 20 = .ok (.bipush 16, 2) := by decide +kernel
theorem dX11_sheet_22 : decode cX11_sheet 22 = .ok (.if_icmp .eq 16, 3) := by decide +kernel
theorem dX11_sheet_25 : decode cX11_sheet 25 = .ok (.iload_n 2, 1) := by decide +kernel
theorem dX11_sheet_26 : decode cX11_sheet 26 = .ok (.bipush 32, 2) := by decide +kernel
theorem dX11_sheet_28 : decode cX11_sheet 28 = .ok (.if_icmp .eq 10, 3) := by decide +kernel
theorem dX11_sheet_31 : decode cX11_sheet 31 = .ok (.aload_n 0, 1) := by decide +kernel
theorem dX11_sheet_32 : decode cX11_sheet 32 = .ok (.ldc 78, 2) := by decide +kernel
theorem dX11_sheet_34 : decode cX11_sheet 34 = .ok (.invokevirtual 62, 3) := by decide +kernel
theorem dX11_sheet_37 : decode cX11_sheet 37 = .ok (.ireturn, 1) := by decide +kernel
theorem dX11_sheet_38 : decode cX11_sheet 38 = .ok (.iload_n 3, 1) := by decide +kernel
theorem dX11_sheet_39 : decode cX11_sheet 39 = .ok (.ifCond .ge 11, 3) := by decide +kernel
theorem dX11_sheet_42 : decode cX11_sheet 42 = .ok (.aload_n 0, 1) := by decide +kernel
theorem dX11_sheet_43 : decode cX11_sheet 43 = .ok (.ldc_w 300, 3) := by decide +kernel
theorem dX11_sheet_46 : decode cX11_sheet 46 = .ok (.invokevirtual 62, 3) := by decide +kernel
theorem dX11_sheet_49 : decode cX11_sheet 49 = .ok (.ireturn, 1) := by decide +kernel
theorem dX11_sheet_50 : decode cX11_sheet 50 = .ok (.iload_n 3, 1) := by decide +kernel
theorem dX11_sheet_51 : decode cX11_sheet 51 = .ok (.bipush 10, 2) := by decide +kernel
theorem dX11_sheet_53 : decode cX11_sheet 53 = .ok (.if_icmp .le 10, 3) := by decide +kernel
theorem dX11_sheet_56 : decode cX11_sheet 56 = .ok (.aload_n 0, 1) := by decide +kernel
theorem dX11_sheet_57 : decode cX11_sheet 57 = .ok (.ldc 78, 2) := by decide +kernel
theorem dX11_sheet_59 : decode cX11_sheet 59 = .ok (.invokevirtual 62, 3) := by decide +kernel
theorem dX11_sheet_62 : decode cX11_sheet 62 = .ok (.ireturn, 1) := by decide +kernel
theorem dX11_sheet_63 : decode cX11_sheet 63 = .ok (.aload_n 0, 1) := by decide +kernel
theorem dX11_sheet_64 : decode cX11_sheet 64 = .ok (.getfield 46, 3) := by decide +kernel
theorem dX11_sheet_67 : decode cX11_sheet 67 = .ok (.iload_n 1, 1) := by decide +kernel
theorem dX11_sheet_68 : decode cX11_sheet 68 = .ok (.aaload, 1) := by decide +kernel
theorem dX11_sheet_69 : decode cX11_sheet 69 = .ok (.iload_n 2, 1) := by decide +kernel
theorem dX11_sheet_70 : decode cX11_sheet 70 = .ok (.iload_n 3, 1) := by decide +kernel
theorem dX11_sheet_71 : decode cX11_sheet 71 = .ok (.invokevirtual 301, 3) := by decide +kernel
theorem dX11_sheet_74 : decode cX11_sheet 74 = .ok (.ireturn, 1) := by decide +kernel
theorem dX11_write_0 : decode cX11_write 0 = .ok (.iload_n 1, 1) := by decide +kernel
theorem dX11_write_1 : decode cX11_write 1 = .ok (.iconst 0, 1) := by decide +kernel
theorem dX11_write_2 : decode cX11_write 2 = .ok (.iconst 3, 1) := by decide +kernel
theorem dX11_write_3 : decode cX11_write 3 = .ok (.invokestatic 74, 3) := by decide +kernel
theorem dX11_write_6 : decode cX11_write 6 = .ok (.ifCond .ne 10, 3) := by decide +kernel
theorem dX11_write_9 : decode cX11_write 9 = .ok (.aload_n 0, 1) := by decide +kernel
theorem dX11_write_10 : decode cX11_write 10 = .ok (.ldc 78, 2) := by decide +kernel
theorem dX11_write_12 : decode cX11_write 12 = .ok (.invokevirtual 62, 3) := by decide +kernel
theorem dX11_write_15 : decode cX11_write 15 = .ok (.ireturn, 1) := by decide +kernel
theorem dX11_write_16 : decode cX11_write 16 = .ok (.aload_n 0, 1) := by decide +kernel
theorem dX11_write_17 : decode cX11_write 17 = .ok (.getfield 46, 3) := by decide +kernel
theorem dX11_write_20 : decode cX11_write 20 = .ok (.iload_n 1, 1) := by decide +kernel
theorem dX11_write_21 : decode cX11_write 21 = .ok (.aaload, 1) := by decide +kernel
theorem dX11_write_22 : decode cX11_write 22 = .ok (.astore 4, 2) := by decide +kernel
theorem dX11_write_24 : decode cX11_write 24 = .ok (.aload 4, 2) := by decide +kernel
theorem dX11_write_26 : decode cX11_write 26 = .ok (.invokevirtual 304, 3) := by decide +kernel
theorem dX11_write_29 : decode cX11_write 29 = .ok (.ifCond .eq 11, 3) := by decide +kernel
theorem dX11_write_32 : decode cX11_write 32 = .ok (.aload_n 0, 1) := by decide +kernel
theorem dX11_write_33 : decode cX11_write 33 = .ok (.ldc_w 307, 3) := by decide +kernel
theorem dX11_write_36 : decode cX11_write 36 = .ok (.invokevirtual 62, 3) := by decide +kernel
theorem dX11_write_39 : decode cX11_write 39 = .ok (.ireturn, 1) := by decide +kernel
theorem dX11_write_40 : decode cX11_write 40 = .ok (.iload_n 2, 1) := by decide +kernel
theorem dX11_write_41 : decode cX11_write 41 = .ok (.iconst 0, 1) := by decide +kernel
theorem dX11_write_42 : decode cX11_write 42 = .ok (.aload 4, 2) := by decide +kernel
theorem dX11_write_44 : decode cX11_write 44 = .ok (.getfield 308, 3) := by decide +kernel
theorem dX11_write_47 : decode cX11_write 47 = .ok (.iconst 1, 1) := by decide +kernel
theorem dX11_write_48 : decode cX11_write 48 = .ok (.isub, 1) := by decide +kernel
theorem dX11_write_49 : decode cX11_write 49 = .ok (.invokestatic 74, 3) := by decide +kernel
theorem dX11_write_52 : decode cX11_write 52 = .ok (.ifCond .ne 10, 3) := by decide +kernel
theorem dX11_write_55 : decode cX11_write 55 = .ok (.aload_n 0, 1) := by decide +kernel
theorem dX11_write_56 : decode cX11_write 56 = .ok (.ldc 78, 2) := by decide +kernel
theorem dX11_write_58 : decode cX11_write 58 = .ok (.invokevirtual 62, 3) := by decide +kernel
theorem dX11_write_61 : decode cX11_write 61 = .ok (.ireturn, 1) := by decide +kernel
theorem dX11_write_62 : decode cX11_write 62 = .ok (.aload 4, 2) := by decide +kernel
theorem dX11_write_64 : decode cX11_write 64 = .ok (.iload_n 2, 1) := by decide +kernel
theorem dX11_write_65 : decode cX11_write 65 = .ok (.iload_n 3, 1) := by decide +kernel
theorem dX11_write_66 : decode cX11_write 66 = .ok (.invokevirtual 309, 3) := by decide +kernel
theorem dX11_write_69 : decode cX11_write 69 = .ok (.ireturn, 1) := by decide +kernel
theorem dX11_copy_0 : decode cX11_copy 0 = .ok (.iload_n 1, 1) := by decide +kernel
theorem dX11_copy_1 : decode cX11_copy 1 = .ok (.iconst 0, 1) := by decide +kernel
theorem dX11_copy_2 : decode cX11_copy 2 = .ok (.iconst 3, 1) := by decide +kernel
theorem dX11_copy_3 : decode cX11_copy 3 = .ok (.invokestatic 74, 3) := by decide +kernel
theorem dX11_copy_6 : decode cX11_copy 6 = .ok (.ifCond .eq 12, 3) := by decide +kernel
theorem dX11_copy_9 : decode cX11_copy 9 = .ok (.iload_n 3, 1) := by decide +kernel
theorem dX11_copy_10 : decode cX11_copy 10 = .ok (.iconst 0, 1) := by decide +kernel
theorem dX11_copy_11 : decode cX11_copy 11 = .ok (.iconst 3, 1) := by decide +kernel
theorem dX11_copy_12 : decode cX11_copy 12 = .ok (.invokestatic 74, 3) := by decide +kernel
theorem dX11_copy_15 : decode cX11_copy 15 = .ok (.ifCond .ne 10, 3) := by decide +kernel
theorem dX11_copy_18 : decode cX11_copy 18 = .ok (.aload_n 0, 1) := by decide +kernel
theorem dX11_copy_19 : decode cX11_copy 19 = .ok (.ldc 78, 2) := by decide +kernel
theorem dX11_copy_21 : decode cX11_copy 21 = .ok (.invokevirtual 62, 3) := by decide +kernel
theorem dX11_copy_24 : decode cX11_copy 24 = .ok (.ireturn, 1) := by decide +kernel
theorem dX11_copy_25 : decode cX11_copy 25 = .ok (.aload_n 0, 1) := by decide +kernel
theorem dX11_copy_26 : decode cX11_copy 26 = .ok (.getfield 46, 3) := by decide +kernel
theorem dX11_copy_29 : decode cX11_copy 29 = .ok (.iload_n 1, 1) := by decide +kernel
theorem dX11_copy_30 : decode cX11_copy 30 = .ok (.aaload, 1) := by decide +kernel
theorem dX11_copy_31 : decode cX11_copy 31 = .ok (.astore 6, 2) := by decide +kernel
theorem dX11_copy_33 : decode cX11_copy 33 = .ok (.aload_n 0, 1) := by decide +kernel
theorem dX11_copy_34 : decode cX11_copy 34 = .ok (.getfield 46, 3) := by decide +kernel
theorem dX11_copy_37 : decode cX11_copy 37 = .ok (.iload_n 3, 1) := by decide +kernel
theorem dX11_copy_38 : decode cX11_copy 38 = .ok (.aaload, 1) := by decide +kernel
theorem dX11_copy_39 : decode cX11_copy 39 = .ok (.astore 7, 2) := by decide +kernel
theorem dX11_copy_41 : decode cX11_copy 41 = .ok (.aload 6, 2) := by decide +kernel
theorem dX11_copy_43 : decode cX11_copy 43 = .ok (.invokevirtual 304, 3) := by decide +kernel
theorem dX11_copy_46 : decode cX11_copy 46 = .ok (.ifCond .ne 11, 3) := by decide +kernel
theorem dX11_copy_49 : decode cX11_copy 49 = .ok (.aload 7, 2) := by decide +kernel
theorem dX11_copy_51 : decode cX11_copy 51 = .ok (.invokevirtual 304, 3) := by decide +kernel
theorem dX11_copy_54 : decode cX11_copy 54 = .ok (.ifCond .eq 11, 3) := by decide +kernel
theorem dX11_copy_57 : decode cX11_copy 57 = .ok (.aload_n 0, 1) := by decide +kernel
theorem dX11_copy_58 : decode cX11_copy 58 = .ok (.ldc_w 307, 3) := by decide +kernel
theorem dX11_copy_61 : decode cX11_copy 61 = .ok (.invokevirtual 62, 3) := by decide +kernel
theorem dX11_copy_64 : decode cX11_copy 64 = .ok (.ireturn, 1) := by decide +kernel
theorem dX11_copy_65 : decode cX11_copy 65 = .ok (.aload 6, 2) := by decide +kernel
theorem dX11_copy_67 : decode cX11_copy 67 = .ok (.getfield 312, 3) := by decide +kernel
theorem dX11_copy_70 : decode cX11_copy 70 = .ok (.aload 7, 2) := by decide +kernel
theorem dX11_copy_72 : decode cX11_copy 72 = .ok (.getfield 312, 3) := by decide +kernel
theorem dX11_copy_75 : decode cX11_copy 75 = .ok (.if_icmp .eq 10, 3) := by decide +kernel
theorem dX11_copy_78 : decode cX11_copy 78 = .ok (.aload_n 0, 1) := by decide +kernel
theorem dX11_copy_79 : decode cX11_copy 79 = .ok (.ldc 122, 2) := by decide +kernel
theorem dX11_copy_81 : decode cX11_copy 81 = .ok (.invokevirtual 62, 3) := by decide +kernel
theorem dX11_copy_84 : decode cX11_copy 84 = .ok (.ireturn, 1) := by decide +kernel
theorem dX11_copy_85 : decode cX11_copy 85 = .ok (.aload 6, 2) := by decide +kernel
theorem dX11_copy_87 : decode cX11_copy 87 = .ok (.iload_n 2, 1) := by decide +kernel
theorem dX11_copy_88 : decode cX11_copy 88 = .ok (.iload 5, 2) := by decide +kernel
theorem dX11_copy_90 : decode cX11_copy 90 = .ok (.invokevirtual 315, 3) := by decide +kernel
theorem dX11_copy_93 : decode cX11_copy 93 = .ok (.ifCond .eq 15, 3) := by decide +kernel
theorem dX11_copy_96 : decode cX11_copy 96 = .ok (.aload 7, 2) := by decide +kernel
theorem dX11_copy_98 : decode cX11_copy 98 = .ok (.iload 4, 2) := by decide +kernel
theorem dX11_copy_100 : decode cX11_copy 100 = .ok (.iload 5, 2) := by decide +kernel
theorem dX11_copy_102 : decode cX11_copy 102 = .ok (.invokevirtual 315, 3) := by decide +kernel
theorem dX11_copy_105 : decode cX11_copy 105 = .ok (.ifCond .ne 10, 3) := by decide +kernel
theorem dX11_copy_108 : decode cX11_copy 108 = .ok (.aload_n 0, 1) := by decide +kernel
theorem dX11_copy_109 : decode cX11_copy 109 = .ok (.ldc 78, 2) := by decide +kernel
theorem dX11_copy_111 : decode cX11_copy 111 = .ok (.invokevirtual 62, 3) := by decide +kernel
theorem dX11_copy_114 : decode cX11_copy 114 = .ok (.ireturn, 1) := by decide +kernel
theorem dX11_copy_115 : decode cX11_copy 115 = .ok (.aload 6, 2) := by decide +kernel
theorem dX11_copy_117 : decode cX11_copy 117 = .ok (.getfield 318, 3) := by decide +kernel
theorem dX11_copy_120 : decode cX11_copy 120 = .ok (.iload_n 2, 1) := by decide +kernel
theorem dX11_copy_121 : decode cX11_copy 121 = .ok (.aload 7, 2) := by decide +kernel
theorem dX11_copy_123 : decode cX11_copy 123 = .ok (.getfield 318, 3) := by decide +kernel
theorem dX11_copy_126 : decode cX11_copy 126 = .ok (.iload 4, 2) := by decide +kernel
theorem dX11_copy_128 : decode cX11_copy 128 = .ok (.iload 5, 2) := by decide +kernel
theorem dX11_copy_130 : decode cX11_copy 130 = .ok (.invokestatic 274, 3) := by decide +kernel
theorem dX11_copy_133 : decode cX11_copy 133 = .ok (.iload 5, 2) := by decide +kernel
theorem dX11_copy_135 : decode cX11_copy 135 = .ok (.ireturn, 1) := by decide +kernel
theorem dX11_read_0 : decode cX11_read 0 = .ok (.iload_n 1, 1) := by decide +kernel
theorem dX11_read_1 : decode cX11_read 1 = .ok (.iconst 0, 1) := by decide +kernel
theorem dX11_read_2 : decode cX11_read 2 = .ok (.iconst 3, 1) := by decide +kernel
theorem dX11_read_3 : decode cX11_read 3 = .ok (.invokestatic 74, 3) := by decide +kernel
theorem dX11_read_6 : decode cX11_read 6 = .ok (.ifCond .ne 10, 3) := by decide +kernel
theorem dX11_read_9 : decode cX11_read 9 = .ok (.aload_n 0, 1) := by decide +kernel
theorem dX11_read_10 : decode cX11_read 10 = .ok (.ldc 78, 2) := by decide +kernel
theorem dX11_read_12 : decode cX11_read 12 = .ok (.invokevirtual 62, 3) := by decide +kernel
theorem dX11_read_15 : decode cX11_read 15 = .ok (.ireturn, 1) := by decide +kernel
theorem dX11_read_16 : decode cX11_read 16 = .ok (.aload_n 0, 1) := by decide +kernel
theorem dX11_read_17 : decode cX11_read 17 = .ok (.getfield 46, 3) := by decide +kernel
theorem dX11_read_20 : decode cX11_read 20 = .ok (.iload_n 1, 1) := by decide +kernel
theorem dX11_read_21 : decode cX11_read 21 = .ok (.aaload, 1) := by decide +kernel
theorem dX11_read_22 : decode cX11_read 22 = .ok (.astore_n 3, 1) := by decide +kernel
theorem dX11_read_23 : decode cX11_read 23 = .ok (.aload_n 3, 1) := by decide +kernel
theorem dX11_read_24 : decode cX11_read 24 = .ok (.invokevirtual 304, 3) := by decide +kernel
theorem dX11_read_27 : decode cX11_read 27 = .ok (.ifCond .eq 11, 3) := by decide +kernel
theorem dX11_read_30 : decode cX11_read 30 = .ok (.aload_n 0, 1) := by decide +kernel
theorem dX11_read_31 : decode cX11_read 31 = .ok (.ldc_w 307, 3) := by decide +kernel
theorem dX11_read_34 : decode cX11_read 34 = .ok (.invokevirtual 62, 3) := by decide +kernel
theorem dX11_read_37 : decode cX11_read 37 = .ok (.ireturn, 1) := by decide +kernel
theorem dX11_read_38 : decode cX11_read 38 = .ok (.aload_n 3, 1) := by decide +kernel
theorem dX11_read_39 : decode cX11_read 39 = .ok (.getfield 308, 3) := by decide +kernel
theorem dX11_read_42 : decode cX11_read 42 = .ok (.ifCond .ne 5, 3) := by decide +kernel
theorem dX11_read_45 : decode cX11_read 45 = .ok (.iconst 0, 1) := by decide +kernel
theorem dX11_read_46 : decode cX11_read 46 = .ok (.ireturn, 1) := by decide +kernel
theorem dX11_read_47 : decode cX11_read 47 = .ok (.iload_n 2, 1) := by decide +kernel
theorem dX11_read_48 : decode cX11_read 48 = .ok (.iconst 0, 1) := by decide +kernel
theorem dX11_read_49 : decode cX11_read 49 = .ok (.aload_n 0, 1) := by decide +kernel
theorem dX11_read_50 : decode cX11_read 50 = .ok (.getfield 10, 3) := by decide +kernel
theorem dX11_read_53 : decode cX11_read 53 = .ok (.getfield 149, 3) := by decide +kernel
theorem dX11_read_56 : decode cX11_read 56 = .ok (.aload_n 3, 1) := by decide +kernel
theorem dX11_read_57 : decode cX11_read 57 = .ok (.getfield 308, 3) := by decide +kernel
theorem dX11_read_60 : decode cX11_read 60 = .ok (.isub, 1) := by decide +kernel
theorem dX11_read_61 : decode cX11_read 61 = .ok (.invokestatic 74, 3) := by decide +kernel
theorem dX11_read_64 : decode cX11_read 64 = .ok (.ifCond .eq 13, 3) := by decide +kernel
theorem dX11_read_67 : decode cX11_read 67 = .ok (.aload_n 3, 1) := by decide +kernel
theorem dX11_read_68 : decode cX11_read 68 = .ok (.iconst 1, 1) := by decide +kernel
theorem dX11_read_69 : decode cX11_read 69 = .ok (.bipush 30, 2) := by decide +kernel
theorem dX11_read_71 : decode cX11_read 71 = .ok (.invokevirtual 321, 3) := by decide +kernel
theorem dX11_read_74 : decode cX11_read 74 = .ok (.ifCond .ne 10, 3) := by decide +kernel
theorem dX11_read_77 : decode cX11_read 77 = .ok (.aload_n 0, 1) := by decide +kernel
theorem dX11_read_78 : decode cX11_read 78 = .ok (.ldc 78, 2) := by decide +kernel
theorem dX11_read_80 : decode cX11_read 80 = .ok (.invokevirtual 62, 3) := by decide +kernel
theorem dX11_read_83 : decode cX11_read 83 = .ok (.ireturn, 1) := by decide +kernel
theorem dX11_read_84 : decode cX11_read 84 = .ok (.iconst 0, 1) := by decide +kernel
theorem dX11_read_85 : decode cX11_read 85 = .ok (.istore 4, 2) := by decide +kernel
theorem dX11_read_87 : decode cX11_read 87 = .ok (.iload 4, 2) := by decide +kernel
theorem dX11_read_89 : decode cX11_read 89 = .ok (.aload_n 3, 1) := by decide +kernel
theorem dX11_read_90 : decode cX11_read 90 = .ok (.getfield 308, 3) := by decide +kernel
theorem dX11_read_93 : decode cX11_read 93 = .ok (.if_icmp .ge 31, 3) := by decide +kernel
theorem dX11_read_96 : decode cX11_read 96 = .ok (.aload_n 0, 1) := by decide +kernel
theorem dX11_read_97 : decode cX11_read 97 = .ok (.getfield 10, 3) := by decide +kernel
theorem dX11_read_100 : decode cX11_read 100 = .ok (.getfield 159, 3) := by decide +kernel
theorem dX11_read_103 : decode cX11_read 103 = .ok (.iload_n 2, 1) := by decide +kernel
theorem dX11_read_104 : decode cX11_read 104 = .ok (.iload 4, 2) := by decide +kernel
theorem dX11_read_106 : decode cX11_read 106 = .ok (.iadd, 1) := by decide +kernel
theorem dX11_read_107 : decode cX11_read 107 = .ok (.aaload, 1) := by decide +kernel
theorem dX11_read_108 : decode cX11_read 108 = .ok (.aload_n 3, 1) := by decide +kernel
theorem dX11_read_109 : decode cX11_read 109 = .ok (.getfield 318, 3) := by decide +kernel
theorem dX11_read_112 : decode cX11_read 112 = .ok (.iload 4, 2) := by decide +kernel
theorem dX11_read_114 : decode cX11_read 114 = .ok (.iaload, 1) := by decide +kernel
theorem dX11_read_115 : decode cX11_read 115 = .ok (.putfield 163, 3) := by decide +kernel
theorem dX11_read_118 : decode cX11_read 118 = .ok (.iinc 4 1, 3) := by decide +kernel
theorem dX11_read_121 : decode cX11_read 121 = .ok (.goto (-34), 3) := by decide +kernel
theorem dX11_read_124 : decode cX11_read 124 = .ok (.aload_n 0, 1) := by decide +kernel
theorem dX11_read_125 : decode cX11_read 125 = .ok (.invokevirtual 82, 3) := by decide +kernel
theorem dX11_read_128 : decode cX11_read 128 = .ok (.aload_n 3, 1) := by decide +kernel
theorem dX11_read_129 : decode cX11_read 129 = .ok (.getfield 308, 3) := by decide +kernel
theorem dX11_read_132 : decode cX11_read 132 = .ok (.ireturn, 1) := by decide +kernel
theorem dX11_told_0 : decode cX11_told 0 = .ok (.iload_n 1, 1) := by decide +kernel
theorem dX11_told_1 : decode cX11_told 1 = .ok (.tableswitch 102 0 6 #[43, 54, 65, 73, 81, 89, 97], 43) := by decide +kernel
theorem dX11_told_44 : decode cX11_told 44 = .ok (.aload_n 0, 1) := by decide +kernel
theorem dX11_told_45 : decode cX11_told 45 = .ok (.getfield 10, 3) := by decide +kernel
theorem dX11_told_48 : decode cX11_told 48 = .ok (.getfield 51, 3) := by decide +kernel
theorem dX11_told_51 : decode cX11_told 51 = .ok (.getfield 55, 3) := by decide +kernel
theorem dX11_told_54 : decode cX11_told 54 = .ok (.ireturn, 1) := by decide +kernel
theorem dX11_told_55 : decode cX11_told 55 = .ok (.aload_n 0, 1) := by decide +kernel
theorem dX11_told_56 : decode cX11_told 56 = .ok (.getfield 10, 3) := by decide +kernel
theorem dX11_told_59 : decode cX11_told 59 = .ok (.getfield 51, 3) := by decide +kernel
theorem dX11_told_62 : decode cX11_told 62 = .ok (.getfield 79, 3) := by decide +kernel
theorem dX11_told_65 : decode cX11_told 65 = .ok (.ireturn, 1) := by decide +kernel
theorem dX11_told_66 : decode cX11_told 66 = .ok (.aload_n 0, 1) := by decide +kernel
theorem dX11_told_67 : decode cX11_told 67 = .ok (.getfield 10, 3) := by decide +kernel
theorem dX11_told_70 : decode cX11_told 70 = .ok (.getfield 99, 3) := by decide +kernel
theorem dX11_told_73 : decode cX11_told 73 = .ok (.ireturn, 1) := by decide +kernel
theorem dX11_told_74 : decode cX11_told 74 = .ok (.aload_n 0, 1) := by decide +kernel
theorem dX11_told_75 : decode cX11_told 75 = .ok (.getfield 10, 3) := by decide +kernel
theorem dX11_told_78 : decode cX11_told 78 = .ok (.getfield 149, 3) := by decide +kernel
theorem dX11_told_81 : decode cX11_told 81 = .ok (.ireturn, 1) := by decide +kernel
theorem dX11_told_82 : decode cX11_told 82 = .ok (.aload_n 0, 1) := by decide +kernel
theorem dX11_told_83 : decode cX11_told 83 = .ok (.getfield 26, 3) := by decide +kernel
theorem dX11_told_86 : decode cX11_told 86 = .ok (.getfield 252, 3) := by decide +kernel
theorem dX11_told_89 : decode cX11_told 89 = .ok (.ireturn, 1) := by decide +kernel
theorem dX11_told_90 : decode cX11_told 90 = .ok (.aload_n 0, 1) := by decide +kernel
theorem dX11_told_91 : decode cX11_told 91 = .ok (.getfield 26, 3) := by decide +kernel
theorem dX11_told_94 : decode cX11_told 94 = .ok (.getfield 239, 3) := by decide +kernel
theorem dX11_told_97 : decode cX11_told 97 = .ok (.ireturn, 1) := by decide +kernel
theorem dX11_told_98 : decode cX11_told 98 = .ok (.aload_n 0, 1) := by decide +kernel
theorem dX11_told_99 : decode cX11_told 99 = .ok (.getfield 324, 3) := by decide +kernel
theorem dX11_told_102 : decode cX11_told 102 = .ok (.ireturn, 1) := by decide +kernel
theorem dX11_told_103 : decode cX11_told 103 = .ok (.aload_n 0, 1) := by decide +kernel
theorem dX11_told_104 : decode cX11_told 104 = .ok (.ldc 78, 2) := by decide +kernel
theorem dX11_told_106 : decode cX11_told 106 = .ok (.invokevirtual 62, 3) := by decide +kernel
theorem dX11_told_109 : decode cX11_told 109 = .ok (.ireturn, 1) := by decide +kernel
theorem dX11_found_0 : decode cX11_found 0 = .ok (.aload_n 0, 1) := by decide +kernel
theorem dX11_found_1 : decode cX11_found 1 = .ok (.dup, 1) := by decide +kernel
theorem dX11_found_2 : decode cX11_found 2 = .ok (.getfield 324, 3) := by decide +kernel
theorem dX11_found_5 : decode cX11_found 5 = .ok (.iconst 1, 1) := by decide +kernel
theorem dX11_found_6 : decode cX11_found 6 = .ok (.iadd, 1) := by decide +kernel
theorem dX11_found_7 : decode cX11_found 7 = .ok (.putfield 324, 3) := by decide +kernel
theorem dX11_found_10 : decode cX11_found 10 = .ok (.iload_n 1, 1) := by decide +kernel
theorem dX11_found_11 : decode cX11_found 11 = .ok (.ireturn, 1) := by decide +kernel
theorem dX11_plansFall_0 : decode cX11_plansFall 0 = .ok (.aload_n 0, 1) := by decide +kernel
theorem dX11_plansFall_1 : decode cX11_plansFall 1 = .ok (.iconst 0, 1) := by decide +kernel
theorem dX11_plansFall_2 : decode cX11_plansFall 2 = .ok (.putfield 327, 3) := by decide +kernel
theorem dX11_plansFall_5 : decode cX11_plansFall 5 = .ok (.aload_n 0, 1) := by decide +kernel
theorem dX11_plansFall_6 : decode cX11_plansFall 6 = .ok (.iconst 0, 1) := by decide +kernel
theorem dX11_plansFall_7 : decode cX11_plansFall 7 = .ok (.putfield 142, 3) := by decide +kernel
theorem dX11_plansFall_10 : decode cX11_plansFall 10 = .ok (.aload_n 0, 1) := by decide +kernel
theorem dX11_plansFall_11 : decode cX11_plansFall 11 = .ok (.iconst 0, 1) := by decide +kernel
theorem dX11_plansFall_12 : decode cX11_plansFall 12 = .ok (.putfield 146, 3) := by decide +kernel
theorem dX11_plansFall_15 : decode cX11_plansFall 15 = .ok (.return_, 1) := by decide +kernel
theorem dX11_drawPlans_0 : decode cX11_drawPlans 0 = .ok (.aload_n 0, 1) := by decide +kernel
theorem dX11_drawPlans_1 : decode cX11_drawPlans 1 = .ok (.getfield 327, 3) := by decide +kernel
theorem dX11_drawPlans_4 : decode cX11_drawPlans 4 = .ok (.ifCond .eq 4, 3) := by decide +kernel
theorem dX11_drawPlans_7 : decode cX11_drawPlans 7 = .ok (.return_, 1) := by decide +kernel
theorem dX11_drawPlans_8 : decode cX11_drawPlans 8 = .ok (.aload_n 0, 1) := by decide +kernel
theorem dX11_drawPlans_9 : decode cX11_drawPlans 9 = .ok (.getfield 330, 3) := by decide +kernel
theorem dX11_drawPlans_12 : decode cX11_drawPlans 12 = .ok (.ifnonnull 14, 3) := by decide +kernel
theorem dX11_drawPlans_15 : decode cX11_drawPlans 15 = .ok (.aload_n 0, 1) := by decide +kernel
theorem dX11_drawPlans_16 : decode cX11_drawPlans 16 = .ok (.new 334, 3) := by decide +kernel
theorem dX11_drawPlans_19 : decode cX11_drawPlans 19 = .ok (.dup, 1) := by decide +kernel
theorem dX11_drawPlans_20 : decode cX11_drawPlans 20 = .ok (.invokespecial 336, 3) := by decide +kernel
theorem dX11_drawPlans_23 : decode cX11_drawPlans 23 = .ok (.putfield 330, 3) := by decide +kernel
theorem dX11_drawPlans_26 : decode cX11_drawPlans 26 = .ok (.iconst 0, 1) := by decide +kernel
theorem dX11_drawPlans_27 : decode cX11_drawPlans 27 = .ok (.istore_n 1, 1) := by decide +kernel
theorem dX11_drawPlans_28 : decode cX11_drawPlans 28 = .ok (.iload_n 1, 1) := by decide +kernel
theorem dX11_drawPlans_29 : decode cX11_drawPlans 29 = .ok (.aload_n 0, 1) := by decide +kernel
theorem dX11_drawPlans_30 : decode cX11_drawPlans 30 = .ok (.getfield 10, 3) := by decide +kernel
theorem dX11_drawPlans_33 : decode cX11_drawPlans 33 = .ok (.getfield 99, 3) := by decide +kernel
theorem dX11_drawPlans_36 : decode cX11_drawPlans 36 = .ok (.if_icmp .ge 21, 3) := by decide +kernel
theorem dX11_drawPlans_39 : decode cX11_drawPlans 39 = .ok (.aload_n 0, 1) := by decide +kernel
theorem dX11_drawPlans_40 : decode cX11_drawPlans 40 = .ok (.getfield 330, 3) := by decide +kernel
theorem dX11_drawPlans_43 : decode cX11_drawPlans 43 = .ok (.aload_n 0, 1) := by decide +kernel
theorem dX11_drawPlans_44 : decode cX11_drawPlans 44 = .ok (.getfield 10, 3) := by decide +kernel
theorem dX11_drawPlans_47 : decode cX11_drawPlans 47 = .ok (.iload_n 1, 1) := by decide +kernel
theorem dX11_drawPlans_48 : decode cX11_drawPlans 48 = .ok (.invokevirtual 337, 3) := by decide +kernel
theorem dX11_drawPlans_51 : decode cX11_drawPlans 51 = .ok (.iinc 1 1, 3) := by decide +kernel
theorem dX11_drawPlans_54 : decode cX11_drawPlans 54 = .ok (.goto (-26), 3) := by decide +kernel
theorem dX11_drawPlans_57 : decode cX11_drawPlans 57 = .ok (.aload_n 0, 1) := by decide +kernel
theorem dX11_drawPlans_58 : decode cX11_drawPlans 58 = .ok (.getfield 19, 3) := by decide +kernel
theorem dX11_drawPlans_61 : decode cX11_drawPlans 61 = .ok (.aload_n 0, 1) := by decide +kernel
theorem dX11_drawPlans_62 : decode cX11_drawPlans 62 = .ok (.getfield 10, 3) := by decide +kernel
theorem dX11_drawPlans_65 : decode cX11_drawPlans 65 = .ok (.invokevirtual 341, 3) := by decide +kernel
theorem dX11_drawPlans_68 : decode cX11_drawPlans 68 = .ok (.aload_n 0, 1) := by decide +kernel
theorem dX11_drawPlans_69 : decode cX11_drawPlans 69 = .ok (.iconst 1, 1) := by decide +kernel
theorem dX11_drawPlans_70 : decode cX11_drawPlans 70 = .ok (.putfield 327, 3) := by decide +kernel
theorem dX11_drawPlans_73 : decode cX11_drawPlans 73 = .ok (.return_, 1) := by decide +kernel
theorem dX11_linkChains_0 : decode cX11_linkChains 0 = .ok (.aload_n 0, 1) := by decide +kernel
theorem dX11_linkChains_1 : decode cX11_linkChains 1 = .ok (.invokevirtual 181, 3) := by decide +kernel
theorem dX11_linkChains_4 : decode cX11_linkChains 4 = .ok (.aload_n 0, 1) := by decide +kernel
theorem dX11_linkChains_5 : decode cX11_linkChains 5 = .ok (.getfield 19, 3) := by decide +kernel
theorem dX11_linkChains_8 : decode cX11_linkChains 8 = .ok (.getfield 208, 3) := by decide +kernel
theorem dX11_linkChains_11 : decode cX11_linkChains 11 = .ok (.ifCond .eq 29, 3) := by decide +kernel
theorem dX11_linkChains_14 : decode cX11_linkChains 14 = .ok (.aload_n 0, 1) := by decide +kernel
theorem dX11_linkChains_15 : decode cX11_linkChains 15 = .ok (.getfield 142, 3) := by decide +kernel
theorem dX11_linkChains_18 : decode cX11_linkChains 18 = .ok (.ifCond .ne 22, 3) := by decide +kernel
theorem dX11_linkChains_21 : decode cX11_linkChains 21 = .ok (.aload_n 0, 1) := by decide +kernel
theorem dX11_linkChains_22 : decode cX11_linkChains 22 = .ok (.getfield 19, 3) := by decide +kernel
theorem dX11_linkChains_25 : decode cX11_linkChains 25 = .ok (.aload_n 0, 1) := by decide +kernel
theorem dX11_linkChains_26 : decode cX11_linkChains 26 = .ok (.getfield 10, 3) := by decide +kernel
theorem dX11_linkChains_29 : decode cX11_linkChains 29 = .ok (.getfield 126, 3) := by decide +kernel
theorem dX11_linkChains_32 : decode cX11_linkChains 32 = .ok (.invokevirtual 345, 3) := by decide +kernel
theorem dX11_linkChains_35 : decode cX11_linkChains 35 = .ok (.aload_n 0, 1) := by decide +kernel
theorem dX11_linkChains_36 : decode cX11_linkChains 36 = .ok (.iconst 1, 1) := by decide +kernel
theorem dX11_linkChains_37 : decode cX11_linkChains 37 = .ok (.putfield 142, 3) := by decide +kernel
theorem dX11_linkChains_40 : decode cX11_linkChains 40 = .ok (.aload_n 0, 1) := by decide +kernel
theorem dX11_linkChains_41 : decode cX11_linkChains 41 = .ok (.getfield 19, 3) := by decide +kernel
theorem dX11_linkChains_44 : decode cX11_linkChains 44 = .ok (.getfield 208, 3) := by decide +kernel
theorem dX11_linkChains_47 : decode cX11_linkChains 47 = .ok (.ireturn, 1) := by decide +kernel
theorem dX11_weighTrades_0 : decode cX11_weighTrades 0 = .ok (.aload_n 0, 1) := by decide +kernel
theorem dX11_weighTrades_1 : decode cX11_weighTrades 1 = .ok (.invokevirtual 181, 3) := by decide +kernel
theorem dX11_weighTrades_4 : decode cX11_weighTrades 4 = .ok (.aload_n 0, 1) := by decide +kernel
theorem dX11_weighTrades_5 : decode cX11_weighTrades 5 = .ok (.getfield 19, 3) := by decide +kernel
theorem dX11_weighTrades_8 : decode cX11_weighTrades 8 = .ok (.getfield 208, 3) := by decide +kernel
theorem dX11_weighTrades_11 : decode cX11_weighTrades 11 = .ok (.ifCond .ne 5, 3) := by decide +kernel
theorem dX11_weighTrades_14 : decode cX11_weighTrades 14 = .ok (.iconst 0, 1) := by decide +kernel
theorem dX11_weighTrades_15 : decode cX11_weighTrades 15 = .ok (.ireturn, 1) := by decide +kernel
theorem dX11_weighTrades_16 : decode cX11_weighTrades 16 = .ok (.aload_n 0, 1) := by decide +kernel
theorem dX11_weighTrades_17 : decode cX11_weighTrades 17 = .ok (.getfield 146, 3) := by decide +kernel
theorem dX11_weighTrades_20 : decode cX11_weighTrades 20 = .ok (.ifCond .ne 27, 3) := by decide +kernel
theorem dX11_weighTrades_23 : decode cX11_weighTrades 23 = .ok (.aload_n 0, 1) := by decide +kernel
theorem dX11_weighTrades_24 : decode cX11_weighTrades 24 = .ok (.getfield 33, 3) := by decide +kernel
theorem dX11_weighTrades_27 : decode cX11_weighTrades 27 = .ok (.aload_n 0, 1) := by decide +kernel
theorem dX11_weighTrades_28 : decode cX11_weighTrades 28 = .ok (.getfield 10, 3) := by decide +kernel
theorem dX11_weighTrades_31 : decode cX11_weighTrades 31 = .ok (.aload_n 0, 1) := by decide +kernel
theorem dX11_weighTrades_32 : decode cX11_weighTrades 32 = .ok (.getfield 19, 3) := by decide +kernel
theorem dX11_weighTrades_35 : decode cX11_weighTrades 35 = .ok (.aload_n 0, 1) := by decide +kernel
theorem dX11_weighTrades_36 : decode cX11_weighTrades 36 = .ok (.getfield 26, 3) := by decide +kernel
theorem dX11_weighTrades_39 : decode cX11_weighTrades 39 = .ok (.invokevirtual 349, 3) := by decide +kernel
theorem dX11_weighTrades_42 : decode cX11_weighTrades 42 = .ok (.aload_n 0, 1) := by decide +kernel
theorem dX11_weighTrades_43 : decode cX11_weighTrades 43 = .ok (.iconst 1, 1) := by decide +kernel
theorem dX11_weighTrades_44 : decode cX11_weighTrades 44 = .ok (.putfield 146, 3) := by decide +kernel
theorem dX11_weighTrades_47 : decode cX11_weighTrades 47 = .ok (.aload_n 0, 1) := by decide +kernel
theorem dX11_weighTrades_48 : decode cX11_weighTrades 48 = .ok (.getfield 33, 3) := by decide +kernel
theorem dX11_weighTrades_51 : decode cX11_weighTrades 51 = .ok (.getfield 263, 3) := by decide +kernel
theorem dX11_weighTrades_54 : decode cX11_weighTrades 54 = .ok (.ifCond .le 7, 3) := by decide +kernel
theorem dX11_weighTrades_57 : decode cX11_weighTrades 57 = .ok (.iconst 1, 1) := by decide +kernel
theorem dX11_weighTrades_58 : decode cX11_weighTrades 58 = .ok (.goto 4, 3) := by decide +kernel
theorem dX11_weighTrades_61 : decode cX11_weighTrades 61 = .ok (.iconst 0, 1) := by decide +kernel
theorem dX11_weighTrades_62 : decode cX11_weighTrades 62 = .ok (.ireturn, 1) := by decide +kernel
theorem dX11_within_0 : decode cX11_within 0 = .ok (.iload_n 0, 1) := by decide +kernel
theorem dX11_within_1 : decode cX11_within 1 = .ok (.iload_n 1, 1) := by decide +kernel
theorem dX11_within_2 : decode cX11_within 2 = .ok (.if_icmp .lt 12, 3) := by decide +kernel
theorem dX11_within_5 : decode cX11_within 5 = .ok (.iload_n 0, 1) := by decide +kernel
theorem dX11_within_6 : decode cX11_within 6 = .ok (.iload_n 2, 1) := by decide +kernel
theorem dX11_within_7 : decode cX11_within 7 = .ok (.if_icmp .gt 7, 3) := by decide +kernel
theorem dX11_within_10 : decode cX11_within 10 = .ok (.iconst 1, 1) := by decide +kernel
theorem dX11_within_11 : decode cX11_within 11 = .ok (.goto 4, 3) := by decide +kernel
theorem dX11_within_14 : decode cX11_within 14 = .ok (.iconst 0, 1) := by decide +kernel
theorem dX11_within_15 : decode cX11_within 15 = .ok (.ireturn, 1) := by decide +kernel
theorem dX11_isUnder_0 : decode cX11_isUnder 0 = .ok (.iload_n 0, 1) := by decide +kernel
theorem dX11_isUnder_1 : decode cX11_isUnder 1 = .ok (.istore_n 2, 1) := by decide +kernel
theorem dX11_isUnder_2 : decode cX11_isUnder 2 = .ok (.iconst 0, 1) := by decide +kernel
theorem dX11_isUnder_3 : decode cX11_isUnder 3 = .ok (.istore_n 3, 1) := by decide +kernel
theorem dX11_isUnder_4 : decode cX11_isUnder 4 = .ok (.iload_n 3, 1) := by decide +kernel
theorem dX11_isUnder_5 : decode cX11_isUnder 5 = .ok (.iconst 4, 1) := by decide +kernel
theorem dX11_isUnder_6 : decode cX11_isUnder 6 = .ok (.if_icmp .ge 24, 3) := by decide +kernel
theorem dX11_isUnder_9 : decode cX11_isUnder 9 = .ok (.iload_n 2, 1) := by decide +kernel
theorem dX11_isUnder_10 : decode cX11_isUnder 10 = .ok (.ifCond .lt 20, 3) := by decide +kernel
theorem dX11_isUnder_13 : decode cX11_isUnder 13 = .ok (.iload_n 2, 1) := by decide +kernel
theorem dX11_isUnder_14 : decode cX11_isUnder 14 = .ok (.iload_n 1, 1) := by decide +kernel
theorem dX11_isUnder_15 : decode cX11_isUnder 15 = .ok (.if_icmp .eq 15, 3) := by decide +kernel
theorem dX11_isUnder_18 : decode cX11_isUnder 18 = .ok (.getstatic 353, 3) := by decide +kernel
theorem dX11_isUnder_21 : decode cX11_isUnder 21 = .ok (.iload_n 2, 1) := by decide +kernel
theorem dX11_isUnder_22 : decode cX11_isUnder 22 = .ok (.iaload, 1) := by decide +kernel
theorem dX11_isUnder_23 : decode cX11_isUnder 23 = .ok (.istore_n 2, 1) := by decide +kernel
theorem dX11_isUnder_24 : decode cX11_isUnder 24 = .ok (.iinc 3 1, 3) := by decide +kernel
theorem dX11_isUnder_27 : decode cX11_isUnder 27 = .ok (.goto (-23), 3) := by decide +kernel
theorem dX11_isUnder_30 : decode cX11_isUnder 30 = .ok (.iload_n 2, 1) := by decide +kernel
theorem dX11_isUnder_31 : decode cX11_isUnder 31 = .ok (.iload_n 1, 1) := by decide +kernel
theorem dX11_isUnder_32 : decode cX11_isUnder 32 = .ok (.if_icmp .ne 7, 3) := by decide +kernel
theorem dX11_isUnder_35 : decode cX11_isUnder 35 = .ok (.iconst 1, 1) := by decide +kernel
theorem dX11_isUnder_36 : decode cX11_isUnder 36 = .ok (.goto 4, 3) := by decide +kernel
theorem dX11_isUnder_39 : decode cX11_isUnder 39 = .ok (.iconst 0, 1) := by decide +kernel
theorem dX11_isUnder_40 : decode cX11_isUnder 40 = .ok (.ireturn, 1) := by decide +kernel
theorem dX12_init_0 : decode cX12_init 0 = .ok (.aload_n 0, 1) := by decide +kernel
theorem dX12_init_1 : decode cX12_init 1 = .ok (.invokespecial 1, 3) := by decide +kernel
theorem dX12_init_4 : decode cX12_init 4 = .ok (.aload_n 0, 1) := by decide +kernel
theorem dX12_init_5 : decode cX12_init 5 = .ok (.bipush 40, 2) := by decide +kernel
theorem dX12_init_7 : decode cX12_init 7 = .ok (.putfield 7, 3) := by decide +kernel
theorem dX12_init_10 : decode cX12_init 10 = .ok (.aload_n 0, 1) := by decide +kernel
theorem dX12_init_11 : decode cX12_init 11 = .ok (.bipush 60, 2) := by decide +kernel
theorem dX12_init_13 : decode cX12_init 13 = .ok (.putfield 13, 3) := by decide +kernel
theorem dX12_init_16 : decode cX12_init 16 = .ok (.aload_n 0, 1) := by decide +kernel
theorem dX12_init_17 : decode cX12_init 17 = .ok (.bipush 14, 2) := by decide +kernel
theorem dX12_init_19 : decode cX12_init 19 = .ok (.newarray .int, 2) := by decide +kernel
theorem dX12_init_21 : decode cX12_init 21 = .ok (.putfield 16, 3) := by decide +kernel
theorem dX12_init_24 : decode cX12_init 24 = .ok (.aload_n 0, 1) := by decide +kernel
theorem dX12_init_25 : decode cX12_init 25 = .ok (.bipush 14, 2) := by decide +kernel
theorem dX12_init_27 : decode cX12_init 27 = .ok (.newarray .int, 2) := by decide +kernel
theorem dX12_init_29 : decode cX12_init 29 = .ok (.putfield 20, 3) := by decide +kernel
theorem dX12_init_32 : decode cX12_init 32 = .ok (.aload_n 0, 1) := by decide +kernel
theorem dX12_init_33 : decode cX12_init 33 = .ok (.bipush 14, 2) := by decide +kernel
theorem dX12_init_35 : decode cX12_init 35 = .ok (.newarray .int, 2) := by decide +kernel
theorem dX12_init_37 : decode cX12_init 37 = .ok (.putfield 23, 3) := by decide +kernel
theorem dX12_init_40 : decode cX12_init 40 = .ok (.aload_n 0, 1) := by decide +kernel
theorem dX12_init_41 : decode cX12_init 41 = .ok (.bipush 14, 2) := by decide +kernel
theorem dX12_init_43 : decode cX12_init 43 = .ok (.newarray .boolean, 2) := by decide +kernel
theorem dX12_init_45 : decode cX12_init 45 = .ok (.putfield 26, 3) := by decide +kernel
theorem dX12_init_48 : decode cX12_init 48 = .ok (.aload_n 0, 1) := by decide +kernel
theorem dX12_init_49 : decode cX12_init 49 = .ok (.iconst 4, 1) := by decide +kernel
theorem dX12_init_50 : decode cX12_init 50 = .ok (.newarray .int, 2) := by decide +kernel
theorem dX12_init_52 : decode cX12_init 52 = .ok (.putfield 30, 3) := by decide +kernel
theorem dX12_init_55 : decode cX12_init 55 = .ok (.aload_n 0, 1) := by decide +kernel
theorem dX12_init_56 : decode cX12_init 56 = .ok (.iconst 4, 1) := by decide +kernel
theorem dX12_init_57 : decode cX12_init 57 = .ok (.newarray .int, 2) := by decide +kernel
theorem dX12_init_59 : decode cX12_init 59 = .ok (.putfield 33, 3) := by decide +kernel
theorem dX12_init_62 : decode cX12_init 62 = .ok (.aload_n 0, 1) := by decide +kernel
theorem dX12_init_63 : decode cX12_init 63 = .ok (.iconst 4, 1) := by decide +kernel
theorem dX12_init_64 : decode cX12_init 64 = .ok (.newarray .int, 2) := by decide +kernel
theorem dX12_init_66 : decode cX12_init 66 = .ok (.putfield 36, 3) := by decide +kernel
theorem dX12_init_69 : decode cX12_init 69 = .ok (.aload_n 0, 1) := by decide +kernel
theorem dX12_init_70 : decode cX12_init 70 = .ok (.iconst 4, 1) := by decide +kernel
theorem dX12_init_71 : decode cX12_init 71 = .ok (.newarray .int, 2) := by decide +kernel
theorem dX12_init_73 : decode cX12_init 73 = .ok (.putfield 39, 3) := by decide +kernel
theorem dX12_init_76 : decode cX12_init 76 = .ok (.aload_n 0, 1) := by decide +kernel
theorem dX12_init_77 : decode cX12_init 77 = .ok (.bipush 10, 2) := by decide +kernel
theorem dX12_init_79 : decode cX12_init 79 = .ok (.newarray .int, 2) := by decide +kernel
theorem dX12_init_81 : decode cX12_init 81 = .ok (.putfield 42, 3) := by decide +kernel
theorem dX12_init_84 : decode cX12_init 84 = .ok (.aload_n 0, 1) := by decide +kernel
theorem dX12_init_85 : decode cX12_init 85 = .ok (.bipush 10, 2) := by decide +kernel
theorem dX12_init_87 : decode cX12_init 87 = .ok (.newarray .int, 2) := by decide +kernel
theorem dX12_init_89 : decode cX12_init 89 = .ok (.putfield 45, 3) := by decide +kernel
theorem dX12_init_92 : decode cX12_init 92 = .ok (.aload_n 0, 1) := by decide +kernel
theorem dX12_init_93 : decode cX12_init 93 = .ok (.bipush 10, 2) := by decide +kernel
theorem dX12_init_95 : decode cX12_init 95 = .ok (.newarray .int, 2) := by decide +kernel
theorem dX12_init_97 : decode cX12_init 97 = .ok (.putfield 48, 3) := by decide +kernel
theorem dX12_init_100 : decode cX12_init 100 = .ok (.aload_n 0, 1) := by decide +kernel
theorem dX12_init_101 : decode cX12_init 101 = .ok (.bipush 10, 2) := by decide +kernel
theorem dX12_init_103 : decode cX12_init 103 = .ok (.newarray .int, 2) := by decide +kernel
theorem dX12_init_105 : decode cX12_init 105 = .ok (.putfield 51, 3) := by decide +kernel
theorem dX12_init_108 : decode cX12_init 108 = .ok (.aload_n 0, 1) := by decide +kernel
theorem dX12_init_109 : decode cX12_init 109 = .ok (.bipush 8, 2) := by decide +kernel
theorem dX12_init_111 : decode cX12_init 111 = .ok (.newarray .int, 2) := by decide +kernel
theorem dX12_init_113 : decode cX12_init 113 = .ok (.putfield 54, 3) := by decide +kernel
theorem dX12_init_116 : decode cX12_init 116 = .ok (.aload_n 0, 1) := by decide +kernel
theorem dX12_init_117 : decode cX12_init 117 = .ok (.bipush 8, 2) := by decide +kernel
theorem dX12_init_119 : decode cX12_init 119 = .ok (.newarray .int, 2) := by decide +kernel
theorem dX12_init_121 : decode cX12_init 121 = .ok (.putfield 57, 3) := by decide +kernel
theorem dX12_init_124 : decode cX12_init 124 = .ok (.aload_n 0, 1) := by decide +kernel
theorem dX12_init_125 : decode cX12_init 125 = .ok (.bipush 8, 2) := by decide +kernel
theorem dX12_init_127 : decode cX12_init 127 = .ok (.newarray .int, 2) := by decide +kernel
theorem dX12_init_129 : decode cX12_init 129 = .ok (.putfield 60, 3) := by decide +kernel
theorem dX12_init_132 : decode cX12_init 132 = .ok (.aload_n 0, 1) := by decide +kernel
theorem dX12_init_133 : decode cX12_init 133 = .ok (.bipush 60, 2) := by decide +kernel
theorem dX12_init_135 : decode cX12_init 135 = .ok (.newarray .int, 2) := by decide +kernel
theorem dX12_init_137 : decode cX12_init 137 = .ok (.putfield 63, 3) := by decide +kernel
theorem dX12_init_140 : decode cX12_init 140 = .ok (.aload_n 0, 1) := by decide +kernel
theorem dX12_init_141 : decode cX12_init 141 = .ok (.iconst 4, 1) := by decide +kernel
theorem dX12_init_142 : decode cX12_init 142 = .ok (.newarray .int, 2) := by decide +kernel
theorem dX12_init_144 : decode cX12_init 144 = .ok (.putfield 66, 3) := by decide +kernel
theorem dX12_init_147 : decode cX12_init 147 = .ok (.aload_n 0, 1) := by decide +kernel
theorem dX12_init_148 : decode cX12_init 148 = .ok (.iconst 4, 1) := by decide +kernel
theorem dX12_init_149 : decode cX12_init 149 = .ok (.newarray .int, 2) := by decide +kernel
theorem dX12_init_151 : decode cX12_init 151 = .ok (.putfield 69, 3) := by decide +kernel
theorem dX12_init_154 : decode cX12_init 154 = .ok (.aload_n 0, 1) := by decide +kernel
theorem dX12_init_155 : decode cX12_init 155 = .ok (.bipush 40, 2) := by decide +kernel
theorem dX12_init_157 : decode cX12_init 157 = .ok (.newarray .int, 2) := by decide +kernel
theorem dX12_init_159 : decode cX12_init 159 = .ok (.putfield 72, 3) := by decide +kernel
theorem dX12_init_162 : decode cX12_init 162 = .ok (.aload_n 0, 1) := by decide +kernel
theorem dX12_init_163 : decode cX12_init 163 = .ok (.bipush 64, 2) := by decide +kernel
theorem dX12_init_165 : decode cX12_init 165 = .ok (.newarray .int, 2) := by decide +kernel
theorem dX12_init_167 : decode cX12_init 167 = .ok (.putfield 75, 3) := by decide +kernel
theorem dX12_init_170 : decode cX12_init 170 = .ok (.aload_n 0, 1) := by decide +kernel
theorem dX12_init_171 : decode cX12_init 171 = .ok (.sipush 10240, 3) := by decide +kernel
theorem dX12_init_174 : decode cX12_init 174 = .ok (.newarray .int, 2) := by decide +kernel
theorem dX12_init_176 : decode cX12_init 176 = .ok (.putfield 78, 3) := by decide +kernel
theorem dX12_init_179 : decode cX12_init 179 = .ok (.aload_n 0, 1) := by decide +kernel
theorem dX12_init_180 : decode cX12_init 180 = .ok (.sipush 1024, 3) := by decide +kernel
theorem dX12_init_183 : decode cX12_init 183 = .ok (.newarray .int, 2) := by decide +kernel
theorem dX12_init_185 : decode cX12_init 185 = .ok (.putfield 81, 3) := by decide +kernel
theorem dX12_init_188 : decode cX12_init 188 = .ok (.aload_n 0, 1) := by decide +kernel
theorem dX12_init_189 : decode cX12_init 189 = .ok (.sipush 1024, 3) := by decide +kernel
theorem dX12_init_192 : decode cX12_init 192 = .ok (.newarray .int, 2) := by decide +kernel
theorem dX12_init_194 : decode cX12_init 194 = .ok (.putfield 84, 3) := by decide +kernel
theorem dX12_init_197 : decode cX12_init 197 = .ok (.aload_n 0, 1) := by decide +kernel
theorem dX12_init_198 : decode cX12_init 198 = .ok (.sipush 1024, 3) := by decide +kernel
theorem dX12_init_201 : decode cX12_init 201 = .ok (.newarray .int, 2) := by decide +kernel
theorem dX12_init_203 : decode cX12_init 203 = .ok (.putfield 87, 3) := by decide +kernel
theorem dX12_init_206 : decode cX12_init 206 = .ok (.aload_n 0, 1) := by decide +kernel
theorem dX12_init_207 : decode cX12_init 207 = .ok (.sipush 1024, 3) := by decide +kernel
theorem dX12_init_210 : decode cX12_init 210 = .ok (.newarray .int, 2) := by decide +kernel
theorem dX12_init_212 : decode cX12_init 212 = .ok (.putfield 90, 3) := by decide +kernel
theorem dX12_init_215 : decode cX12_init 215 = .ok (.aload_n 0, 1) := by decide +kernel
theorem dX12_init_216 : decode cX12_init 216 = .ok (.bipush 10, 2) := by decide +kernel
theorem dX12_init_218 : decode cX12_init 218 = .ok (.newarray .int, 2) := by decide +kernel
theorem dX12_init_220 : decode cX12_init 220 = .ok (.putfield 93, 3) := by decide +kernel
theorem dX12_init_223 : decode cX12_init 223 = .ok (.aload_n 0, 1) := by decide +kernel
theorem dX12_init_224 : decode cX12_init 224 = .ok (.bipush 10, 2) := by decide +kernel
theorem dX12_init_226 : decode cX12_init 226 = .ok (.newarray .int, 2) := by decide +kernel
theorem dX12_init_228 : decode cX12_init 228 = .ok (.putfield 96, 3) := by decide +kernel
theorem dX12_init_231 : decode cX12_init 231 = .ok (.aload_n 0, 1) := by decide +kernel
theorem dX12_init_232 : decode cX12_init 232 = .ok (.bipush 10, 2) := by decide +kernel
theorem dX12_init_234 : decode cX12_init 234 = .ok (.newarray .int, 2) := by decide +kernel
theorem dX12_init_236 : decode cX12_init 236 = .ok (.putfield 99, 3) := by decide +kernel
theorem dX12_init_239 : decode cX12_init 239 = .ok (.aload_n 0, 1) := by decide +kernel
theorem dX12_init_240 : decode cX12_init 240 = .ok (.iconst 4, 1) := by decide +kernel
theorem dX12_init_241 : decode cX12_init 241 = .ok (.newarray .int, 2) := by decide +kernel
theorem dX12_init_243 : decode cX12_init 243 = .ok (.putfield 102, 3) := by decide +kernel
theorem dX12_init_246 : decode cX12_init 246 = .ok (.aload_n 0, 1) := by decide +kernel
theorem dX12_init_247 : decode cX12_init 247 = .ok (.iconst 4, 1) := by decide +kernel
theorem dX12_init_248 : decode cX12_init 248 = .ok (.newarray .int, 2) := by decide +kernel
theorem dX12_init_250 : decode cX12_init 250 = .ok (.putfield 105, 3) := by decide +kernel
theorem dX12_init_253 : decode cX12_init 253 = .ok (.aload_n 0, 1) := by decide +kernel
theorem dX12_init_254 : decode cX12_init 254 = .ok (.iconst 4, 1) := by decide +kernel
theorem dX12_init_255 : decode cX12_init 255 = .ok (.newarray .int, 2) := by decide +kernel
theorem dX12_init_257 : decode cX12_init 257 = .ok (.putfield 108, 3) := by decide +kernel
theorem dX12_init_260 : decode cX12_init 260 = .ok (.aload_n 0, 1) := by decide +kernel
theorem dX12_init_261 : decode cX12_init 261 = .ok (.bipush 10, 2) := by decide +kernel
theorem dX12_init_263 : decode cX12_init 263 = .ok (.newarray .int, 2) := by decide +kernel
theorem dX12_init_265 : decode cX12_init 265 = .ok (.putfield 111, 3) := by decide +kernel
theorem dX12_init_268 : decode cX12_init 268 = .ok (.aload_n 0, 1) := by decide +kernel
theorem dX12_init_269 : decode cX12_init 269 = .ok (.sipush 11264, 3) := by decide +kernel
theorem dX12_init_272 : decode cX12_init 272 = .ok (.newarray .int, 2) := by decide +kernel
theorem dX12_init_274 : decode cX12_init 274 = .ok (.putfield 114, 3) := by decide +kernel
theorem dX12_init_277 : decode cX12_init 277 = .ok (.aload_n 0, 1) := by decide +kernel
theorem dX12_init_278 : decode cX12_init 278 = .ok (.bipush 10, 2) := by decide +kernel
theorem dX12_init_280 : decode cX12_init 280 = .ok (.newarray .int, 2) := by decide +kernel
theorem dX12_init_282 : decode cX12_init 282 = .ok (.putfield 117, 3) := by decide +kernel
theorem dX12_init_285 : decode cX12_init 285 = .ok (.aload_n 0, 1) := by decide +kernel
theorem dX12_init_286 : decode cX12_init 286 = .ok (.bipush 10, 2) := by decide +kernel
theorem dX12_init_288 : decode cX12_init 288 = .ok (.newarray .int, 2) := by decide +kernel
theorem dX12_init_290 : decode cX12_init 290 = .ok (.putfield 120, 3) := by decide +kernel
theorem dX12_init_293 : decode cX12_init 293 = .ok (.aload_n 0, 1) := by decide +kernel
theorem dX12_init_294 : decode cX12_init 294 = .ok (.bipush 10, 2) := by decide +kernel
theorem dX12_init_296 : decode cX12_init 296 = .ok (.newarray .int, 2) := by decide +kernel
theorem dX12_init_298 : decode cX12_init 298 = .ok (.putfield 123, 3) := by decide +kernel
theorem dX12_init_301 : decode cX12_init 301 = .ok (.aload_n 0, 1) := by decide +kernel
theorem dX12_init_302 : decode cX12_init 302 = .ok (.bipush 10, 2) := by decide +kernel
theorem dX12_init_304 : decode cX12_init 304 = .ok (.newarray .int, 2) := by decide +kernel
theorem dX12_init_306 : decode cX12_init 306 = .ok (.putfield 126, 3) := by decide +kernel
theorem dX12_init_309 : decode cX12_init 309 = .ok (.aload_n 0, 1) := by decide +kernel
theorem dX12_init_310 : decode cX12_init 310 = .ok (.bipush 11, 2) := by decide +kernel
theorem dX12_init_312 : decode cX12_init 312 = .ok (.newarray .int, 2) := by decide +kernel
theorem dX12_init_314 : decode cX12_init 314 = .ok (.putfield 129, 3) := by decide +kernel
theorem dX12_init_317 : decode cX12_init 317 = .ok (.aload_n 0, 1) := by decide +kernel
theorem dX12_init_318 : decode cX12_init 318 = .ok (.bipush 11, 2) := by decide +kernel
theorem dX12_init_320 : decode cX12_init 320 = .ok (.newarray .int, 2) := by decide +kernel
theorem dX12_init_322 : decode cX12_init 322 = .ok (.putfield 132, 3) := by decide +kernel
theorem dX12_init_325 : decode cX12_init 325 = .ok (.aload_n 0, 1) := by decide +kernel
theorem dX12_init_326 : decode cX12_init 326 = .ok (.bipush 11, 2) := by decide +kernel
theorem dX12_init_328 : decode cX12_init 328 = .ok (.newarray .int, 2) := by decide +kernel
theorem dX12_init_330 : decode cX12_init 330 = .ok (.putfield 135, 3) := by decide +kernel
theorem dX12_init_333 : decode cX12_init 333 = .ok (.aload_n 0, 1) := by decide +kernel
theorem dX12_init_334 : decode cX12_init 334 = .ok (.bipush 44, 2) := by decide +kernel
theorem dX12_init_336 : decode cX12_init 336 = .ok (.newarray .int, 2) := by decide +kernel
theorem dX12_init_338 : decode cX12_init 338 = .ok (.putfield 138, 3) := by decide +kernel
theorem dX12_init_341 : decode cX12_init 341 = .ok (.aload_n 0, 1) := by decide +kernel
theorem dX12_init_342 : decode cX12_init 342 = .ok (.bipush 44, 2) := by decide +kernel
theorem dX12_init_344 : decode cX12_init 344 = .ok (.newarray .int, 2) := by decide +kernel
theorem dX12_init_346 : decode cX12_init 346 = .ok (.putfield 141, 3) := by decide +kernel
theorem dX12_init_349 : decode cX12_init 349 = .ok (.aload_n 0, 1) := by decide +kernel
theorem dX12_init_350 : decode cX12_init 350 = .ok (.bipush 10, 2) := by decide +kernel
theorem dX12_init_352 : decode cX12_init 352 = .ok (.newarray .int, 2) := by decide +kernel
theorem dX12_init_354 : decode cX12_init 354 = .ok (.putfield 144, 3) := by decide +kernel
theorem dX12_init_357 : decode cX12_init 357 = .ok (.aload_n 0, 1) := by decide +kernel
theorem dX12_init_358 : decode cX12_init 358 = .ok (.bipush 110, 2) := by decide +kernel
theorem dX12_init_360 : decode cX12_init 360 = .ok (.newarray .int, 2) := by decide +kernel
theorem dX12_init_362 : decode cX12_init 362 = .ok (.putfield 147, 3) := by decide +kernel
theorem dX12_init_365 : decode cX12_init 365 = .ok (.aload_n 0, 1) := by decide +kernel
theorem dX12_init_366 : decode cX12_init 366 = .ok (.bipush 10, 2) := by decide +kernel
theorem dX12_init_368 : decode cX12_init 368 = .ok (.newarray .int, 2) := by decide +kernel
theorem dX12_init_370 : decode cX12_init 370 = .ok (.putfield 150, 3) := by decide +kernel
theorem dX12_init_373 : decode cX12_init 373 = .ok (.return_, 1) := by decide +kernel
theorem dX12_in_0 : decode cX12_in 0 = .ok (.iload_n 0, 1) := by decide +kernel
theorem dX12_in_1 : decode cX12_in 1 = .ok (.iload_n 1, 1) := by decide +kernel
theorem dX12_in_2 : decode cX12_in 2 = .ok (.if_icmp .lt 12, 3) := by decide +kernel
theorem dX12_in_5 : decode cX12_in 5 = .ok (.iload_n 0, 1) := by decide +kernel
theorem dX12_in_6 : decode cX12_in 6 = .ok (.iload_n 2, 1) := by decide +kernel
theorem dX12_in_7 : decode cX12_in 7 = .ok (.if_icmp .gt 7, 3) := by decide +kernel
theorem dX12_in_10 : decode cX12_in 10 = .ok (.iconst 1, 1) := by decide +kernel
theorem dX12_in_11 : decode cX12_in 11 = .ok (.goto 4, 3) := by decide +kernel
theorem dX12_in_14 : decode cX12_in 14 = .ok (.iconst 0, 1) := by decide +kernel
theorem dX12_in_15 : decode cX12_in 15 = .ok (.ireturn, 1) := by decide +kernel
theorem dX12_finds_0 : decode cX12_finds 0 = .ok (.aload_n 0, 1) := by decide +kernel
theorem dX12_finds_1 : decode cX12_finds 1 = .ok (.dup, 1) := by decide +kernel
theorem dX12_finds_2 : decode cX12_finds 2 = .ok (.getfield 153, 3) := by decide +kernel
theorem dX12_finds_5 : decode cX12_finds 5 = .ok (.iconst 1, 1) := by decide +kernel
theorem dX12_finds_6 : decode cX12_finds 6 = .ok (.iadd, 1) := by decide +kernel
theorem dX12_finds_7 : decode cX12_finds 7 = .ok (.putfield 153, 3) := by decide +kernel
theorem dX12_finds_10 : decode cX12_finds 10 = .ok (.iload_n 1, 1) := by decide +kernel
theorem dX12_finds_11 : decode cX12_finds 11 = .ok (.ireturn, 1) := by decide +kernel
theorem dX12_isCorner_0 : decode cX12_isCorner 0 = .ok (.iload_n 1, 1) := by decide +kernel
theorem dX12_isCorner_1 : decode cX12_isCorner 1 = .ok (.iconst 0, 1) := by decide +kernel
theorem dX12_isCorner_2 : decode cX12_isCorner 2 = .ok (.aload_n 0, 1) := by decide +kernel
theorem dX12_isCorner_3 : decode cX12_isCorner 3 = .ok (.getfield 156, 3) := by decide +kernel
theorem dX12_isCorner_6 : decode cX12_isCorner 6 = .ok (.iconst 1, 1) := by decide +kernel
theorem dX12_isCorner_7 : decode cX12_isCorner 7 = .ok (.isub, 1) := by decide +kernel
theorem dX12_isCorner_8 : decode cX12_isCorner 8 = .ok (.invokestatic 159, 3) := by decide +kernel
theorem dX12_isCorner_11 : decode cX12_isCorner 11 = .ok (.ireturn, 1) := by decide +kernel
theorem dX12_isSchool_0 : decode cX12_isSchool 0 = .ok (.iload_n 1, 1) := by decide +kernel
theorem dX12_isSchool_1 : decode cX12_isSchool 1 = .ok (.iconst 0, 1) := by decide +kernel
theorem dX12_isSchool_2 : decode cX12_isSchool 2 = .ok (.aload_n 0, 1) := by decide +kernel
theorem dX12_isSchool_3 : decode cX12_isSchool 3 = .ok (.getfield 163, 3) := by decide +kernel
theorem dX12_isSchool_6 : decode cX12_isSchool 6 = .ok (.iconst 1, 1) := by decide +kernel
theorem dX12_isSchool_7 : decode cX12_isSchool 7 = .ok (.isub, 1) := by decide +kernel
theorem dX12_isSchool_8 : decode cX12_isSchool 8 = .ok (.invokestatic 159, 3) := by decide +kernel
theorem dX12_isSchool_11 : decode cX12_isSchool 11 = .ok (.ireturn, 1) := by decide +kernel
theorem dX12_isStop_0 : decode cX12_isStop 0 = .ok (.iload_n 1, 1) := by decide +kernel
theorem dX12_isStop_1 : decode cX12_isStop 1 = .ok (.iconst 0, 1) := by decide +kernel
theorem dX12_isStop_2 : decode cX12_isStop 2 = .ok (.aload_n 0, 1) := by decide +kernel
theorem dX12_isStop_3 : decode cX12_isStop 3 = .ok (.getfield 166, 3) := by decide +kernel
theorem dX12_isStop_6 : decode cX12_isStop 6 = .ok (.iconst 1, 1) := by decide +kernel
theorem dX12_isStop_7 : decode cX12_isStop 7 = .ok (.isub, 1) := by decide +kernel
theorem dX12_isStop_8 : decode cX12_isStop 8 = .ok (.invokestatic 159, 3) := by decide +kernel
theorem dX12_isStop_11 : decode cX12_isStop 11 = .ok (.ireturn, 1) := by decide +kernel
theorem dX12_has_0 : decode cX12_has 0 = .ok (.iload_n 0, 1) := by decide +kernel
theorem dX12_has_1 : decode cX12_has 1 = .ok (.iload_n 1, 1) := by decide +kernel
theorem dX12_has_2 : decode cX12_has 2 = .ok (.ishr, 1) := by decide +kernel
theorem dX12_has_3 : decode cX12_has 3 = .ok (.iconst 1, 1) := by decide +kernel
theorem dX12_has_4 : decode cX12_has 4 = .ok (.iand, 1) := by decide +kernel
theorem dX12_has_5 : decode cX12_has 5 = .ok (.iconst 1, 1) := by decide +kernel
theorem dX12_has_6 : decode cX12_has 6 = .ok (.if_icmp .ne 7, 3) := by decide +kernel
theorem dX12_has_9 : decode cX12_has 9 = .ok (.iconst 1, 1) := by decide +kernel
theorem dX12_has_10 : decode cX12_has 10 = .ok (.goto 4, 3) := by decide +kernel
theorem dX12_has_13 : decode cX12_has 13 = .ok (.iconst 0, 1) := by decide +kernel
theorem dX12_has_14 : decode cX12_has 14 = .ok (.ireturn, 1) := by decide +kernel
theorem dX12_another_0 : decode cX12_another 0 = .ok (.aload_n 0, 1) := by decide +kernel
theorem dX12_another_1 : decode cX12_another 1 = .ok (.iconst 0, 1) := by decide +kernel
theorem dX12_another_2 : decode cX12_another 2 = .ok (.putfield 169, 3) := by decide +kernel
theorem dX12_another_5 : decode cX12_another 5 = .ok (.aload_n 0, 1) := by decide +kernel
theorem dX12_another_6 : decode cX12_another 6 = .ok (.iconst 0, 1) := by decide +kernel
theorem dX12_another_7 : decode cX12_another 7 = .ok (.putfield 173, 3) := by decide +kernel
theorem dX12_another_10 : decode cX12_another 10 = .ok (.return_, 1) := by decide +kernel
theorem dX12_corner_0 : decode cX12_corner 0 = .ok (.aload_n 0, 1) := by decide +kernel
theorem dX12_corner_1 : decode cX12_corner 1 = .ok (.getfield 156, 3) := by decide +kernel
theorem dX12_corner_4 : decode cX12_corner 4 = .ok (.bipush 8, 2) := by decide +kernel
theorem dX12_corner_6 : decode cX12_corner 6 = .ok (.if_icmp .ne 10, 3) := by decide +kernel
theorem dX12_corner_9 : decode cX12_corner 9 = .ok (.aload_n 0, 1) := by decide +kernel
theorem dX12_corner_10 : decode cX12_corner 10 = .ok (.ldc 176, 2) := by decide +kernel
theorem dX12_corner_12 : decode cX12_corner 12 = .ok (.invokevirtual 177, 3) := by decide +kernel
theorem dX12_corner_15 : decode cX12_corner 15 = .ok (.ireturn, 1) := by decide +kernel
theorem dX12_corner_16 : decode cX12_corner 16 = .ok (.aload_n 0, 1) := by decide +kernel
theorem dX12_corner_17 : decode cX12_corner 17 = .ok (.dup, 1) := by decide +kernel
theorem dX12_corner_18 : decode cX12_corner 18 = .ok (.getfield 156, 3) := by decide +kernel
theorem dX12_corner_21 : decode cX12_corner 21 = .ok (.iconst 1, 1) := by decide +kernel
theorem dX12_corner_22 : decode cX12_corner 22 = .ok (.iadd, 1) := by decide +kernel
theorem dX12_corner_23 : decode cX12_corner 23 = .ok (.putfield 156, 3) := by decide +kernel
theorem dX12_corner_26 : decode cX12_corner 26 = .ok (.aload_n 0, 1) := by decide +kernel
theorem dX12_corner_27 : decode cX12_corner 27 = .ok (.getfield 156, 3) := by decide +kernel
theorem dX12_corner_30 : decode cX12_corner 30 = .ok (.iconst 1, 1) := by decide +kernel
theorem dX12_corner_31 : decode cX12_corner 31 = .ok (.isub, 1) := by decide +kernel
theorem dX12_corner_32 : decode cX12_corner 32 = .ok (.ireturn, 1) := by decide +kernel
theorem dX12_street_0 : decode cX12_street 0 = .ok (.aload_n 0, 1) := by decide +kernel
theorem dX12_street_1 : decode cX12_street 1 = .ok (.iload_n 1, 1) := by decide +kernel
theorem dX12_street_2 : decode cX12_street 2 = .ok (.invokevirtual 181, 3) := by decide +kernel
theorem dX12_street_5 : decode cX12_street 5 = .ok (.ifCond .eq 26, 3) := by decide +kernel
theorem dX12_street_8 : decode cX12_street 8 = .ok (.aload_n 0, 1) := by decide +kernel
theorem dX12_street_9 : decode cX12_street 9 = .ok (.iload_n 2, 1) := by decide +kernel
theorem dX12_street_10 : decode cX12_street 10 = .ok (.invokevirtual 181, 3) := by decide +kernel
theorem dX12_street_13 : decode cX12_street 13 = .ok (.ifCond .eq 18, 3) := by decide +kernel
theorem dX12_street_16 : decode cX12_street 16 = .ok (.iload_n 1, 1) := by decide +kernel
theorem dX12_street_17 : decode cX12_street 17 = .ok (.iload_n 2, 1) := by decide +kernel
theorem dX12_street_18 : decode cX12_street 18 = .ok (.if_icmp .eq 13, 3) := by decide +kernel
theorem dX12_street_21 : decode cX12_street 21 = .ok (.iload_n 3, 1) := by decide +kernel
theorem dX12_street_22 : decode cX12_street 22 = .ok (.iconst 1, 1) := by decide +kernel
theorem dX12_street_23 : decode cX12_street 23 = .ok (.bipush 20, 2) := by decide +kernel
theorem dX12_street_25 : decode cX12_street 25 = .ok (.invokestatic 159, 3) := by decide +kernel
theorem dX12_street_28 : decode cX12_street 28 = .ok (.ifCond .ne 10, 3) := by decide +kernel
theorem dX12_street_31 : decode cX12_street 31 = .ok (.aload_n 0, 1) := by decide +kernel
theorem dX12_street_32 : decode cX12_street 32 = .ok (.ldc 185, 2) := by decide +kernel
theorem dX12_street_34 : decode cX12_street 34 = .ok (.invokevirtual 177, 3) := by decide +kernel
theorem dX12_street_37 : decode cX12_street 37 = .ok (.ireturn, 1) := by decide +kernel
theorem dX12_street_38 : decode cX12_street 38 = .ok (.aload_n 0, 1) := by decide +kernel
